section
def nX12_means : Nat := 0xac7c01b602032a85ffa7010484d4ffa70105844f2e6005156804154010af00b42a6005156804155802116000b42a24009c942f0415a900b42a8505150536033500a0072e0415a600b42a4f0304155d00b42a4f2e0415ac00b42a04155a00b42a502f0415a900b42a04155700b42a4f2e0415a600b42a04155400b42a7800a29302b42a04150436036201b59602b42a2a5100b59302b42a2aac7c01b6038d02b42a2a0d00998d02b42a0201b5032a2b01b5032aa0ffa70105849002b560049002b42a2a9902b604152a0436030400a704070099f200b60816202a11009af200b60616202a9002b560079002b42a2a08372f60059002b42a7500b42a06372f9002b42a7500b42a56009a04155b00a22e1b7e00b42a05150536030436036c00a79902b6042a0b009a2e1b7e00b42a4f0303ac00b42a500903a900b42a4f0303a600b42a9602b5032a9302b5042a9002b52e1b8100b42a2a8d02b5032aac020500a10c02b42a1b0b009b1bbb00b5032a
theorem bX12_means : cX12_means.data.toList.map UInt8.toNat = x_un nX12_means 366 := by decide +kernel
def iX12_means : List (Nat × Jvm.ClassFile.Instr × Nat) := [(0, .aload_n 0, 1), (1, .iconst 0, 1), (2, .putfield 187, 3), (5, .iload_n 1, 1), (6, .ifCond .lt 11, 3), (9, .iload_n 1, 1), (10, .aload_n 0, 1), (11, .getfield 524, 3), (14, .if_icmp .lt 5, 3), (17, .iconst (-1), 1), (18, .ireturn, 1), (19, .aload_n 0, 1), (20, .iconst 0, 1), (21, .putfield 653, 3), (24, .aload_n 0, 1), (25, .aload_n 0, 1), (26, .getfield 129, 3), (29, .iload_n 1, 1), (30, .iaload, 1), (31, .putfield 656, 3), (34, .aload_n 0, 1), (35, .iconst 1, 1), (36, .putfield 659, 3), (39, .aload_n 0, 1), (40, .iconst 0, 1), (41, .putfield 662, 3), (44, .aload_n 0, 1), (45, .getfield 166, 3), (48, .iconst 0, 1), (49, .iconst 0, 1), (50, .iastore, 1), (51, .aload_n 0, 1), (52, .getfield 169, 3), (55, .iconst 0, 1), (56, .lconst 0, 1), (57, .lastore, 1), (58, .aload_n 0, 1), (59, .getfield 172, 3), (62, .iconst 0, 1), (63, .iconst 0, 1), (64, .iastore, 1), (65, .aload_n 0, 1), (66, .getfield 126, 3), (69, .iload_n 1, 1), (70, .iaload, 1), (71, .ifCond .ne 11, 3), (74, .aload_n 0, 1), (75, .iconst 1, 1), (76, .invokevirtual 665, 3), (79, .goto 108, 3), (82, .iconst 0, 1), (83, .istore 4, 2), (85, .iconst 0, 1), (86, .istore 5, 2), (88, .iload 5, 2), (90, .aload_n 0, 1), (91, .getfield 126, 3), (94, .iload_n 1, 1), (95, .iaload, 1), (96, .if_icmp .ge 91, 3), (99, .iload 4, 2), (101, .ifCond .ne 86, 3), (104, .aload_n 0, 1), (105, .getfield 117, 3), (108, .aload_n 0, 1), (109, .getfield 656, 3), (112, .laload, 1), (113, .lstore 6, 2), (115, .aload_n 0, 1), (116, .getfield 117, 3), (119, .aload_n 0, 1), (120, .getfield 656, 3), (123, .iconst 2, 1), (124, .iadd, 1), (125, .laload, 1), (126, .lstore 8, 2), (128, .aload_n 0, 1), (129, .aload_n 0, 1), (130, .getfield 656, 3), (133, .iconst 4, 1), (134, .iadd, 1), (135, .putfield 656, 3), (138, .aload_n 0, 1), (139, .lload_n 2, 1), (140, .lload 6, 2), (142, .invokevirtual 242, 3), (145, .ifCond .ne 17, 3), (148, .aload_n 0, 1), (149, .lload_n 2, 1), (150, .lload 8, 2), (152, .invokevirtual 242, 3), (155, .ifCond .eq 7, 3), (158, .iconst 1, 1), (159, .goto 4, 3), (162, .iconst 0, 1), (163, .istore 4, 2), (165, .aload_n 0, 1), (166, .iload 4, 2), (168, .invokevirtual 665, 3), (171, .aload_n 0, 1), (172, .aload_n 0, 1), (173, .getfield 656, 3), (176, .iconst 1, 1), (177, .iadd, 1), (178, .putfield 656, 3), (181, .iinc 5 1, 3), (184, .goto (-96), 3), (187, .aload_n 0, 1), (188, .iconst 0, 1), (189, .putfield 299, 3), (192, .aload_n 0, 1), (193, .iconst 0, 1), (194, .putfield 258, 3), (197, .aload_n 0, 1), (198, .getfield 653, 3), (201, .ifCond .eq 13, 3), (204, .aload_n 0, 1), (205, .aload_n 0, 1), (206, .getfield 653, 3), (209, .iconst 0, 1), (210, .invokevirtual 380, 3), (213, .ireturn, 1), (214, .aload_n 0, 1), (215, .aload_n 0, 1), (216, .getfield 659, 3), (219, .putfield 81, 3), (222, .aload_n 0, 1), (223, .aload_n 0, 1), (224, .getfield 662, 3), (227, .putfield 354, 3), (230, .iconst 0, 1), (231, .istore 4, 2), (233, .iload 4, 2), (235, .aload_n 0, 1), (236, .getfield 659, 3), (239, .if_icmp .ge 120, 3), (242, .aload_n 0, 1), (243, .getfield 84, 3), (246, .iload 4, 2), (248, .aload_n 0, 1), (249, .getfield 166, 3), (252, .iload 4, 2), (254, .iaload, 1), (255, .iastore, 1), (256, .aload_n 0, 1), (257, .getfield 87, 3), (260, .iload 4, 2), (262, .aload_n 0, 1), (263, .getfield 169, 3), (266, .iload 4, 2), (268, .laload, 1), (269, .lastore, 1), (270, .aload_n 0, 1), (271, .getfield 90, 3), (274, .iload 4, 2), (276, .aload_n 0, 1), (277, .getfield 172, 3), (280, .iload 4, 2), (282, .iaload, 1), (283, .iastore, 1), (284, .aload_n 0, 1), (285, .getfield 93, 3), (288, .iload 4, 2), (290, .iconst 0, 1), (291, .iastore, 1), (292, .aload_n 0, 1), (293, .getfield 166, 3), (296, .iload 4, 2), (298, .iaload, 1), (299, .iconst 4, 1), (300, .if_icmp .ne 53, 3), (303, .iconst 0, 1), (304, .istore 5, 2), (306, .iload 5, 2), (308, .i2l, 1), (309, .aload_n 0, 1), (310, .getfield 169, 3), (313, .iload 4, 2), (315, .laload, 1), (316, .lcmp, 1), (317, .ifCond .ge 36, 3), (320, .aload_n 0, 1), (321, .getfield 96, 3), (324, .sipush 600, 3), (327, .iload 4, 2), (329, .imul, 1), (330, .iload 5, 2), (332, .iadd, 1), (333, .aload_n 0, 1), (334, .getfield 175, 3), (337, .bipush 64, 2), (339, .iload 4, 2), (341, .imul, 1), (342, .iload 5, 2), (344, .iadd, 1), (345, .iaload, 1), (346, .iastore, 1), (347, .iinc 5 1, 3), (350, .goto (-44), 3), (353, .iinc 4 1, 3), (356, .goto (-123), 3), (359, .aload_n 0, 1), (360, .iconst 0, 1), (361, .iconst (-1), 1), (362, .invokevirtual 380, 3), (365, .ireturn, 1)]
theorem dX12_means : x_il nX12_means 366 iX12_means = true := by decide +kernel
theorem aX12_means (k : Nat) {pc : Nat} {i : Jvm.ClassFile.Instr} {len : Nat} (hk : iX12_means[k]? = some (pc, i, len)) : x_at xMM 253 pc i len yX12_means 10 (some .int) := ⟨cX12_means, rfl, x_il_ok bX12_means dX12_means k hk⟩
set_option maxHeartbeats 4000000 in
set_option maxRecDepth 100000 in
theorem n_means {zk : xK} {base d n sl : Nat} {SH : Nat → Nat × Nat} {FI : Nat → Nat → Int32} {FL : Nat → Nat → Int64} {FR : Nat → Nat → Option Nat} (hS : h_S n SH) (hF : h_FR FR) (hI : g_I FI) (a1 : Int32) (a2 : Int64) (rel_kept : rl_t (FI 152) (FL 153)) (rel_hold : rl_h 2 (FI 136) (FL 137) (FI 138)) (rel_piece : rl_h 32 (FI 130) (FL 131) (FI 134)) (rel_back : rl_b (FI 139) (FI 140) (FI 141)) (rel_mean : rl_m (FI 169) (FL 170)) (rel_part : rl_p (FI 143) (FL 144)) (rel_var : rl_v (FI 121 74) (FI 152) (FL 153) (FI 156) (FI 157)) : hw zk base (d + 10) none 253 0 [(0, .ref (base + 121)), (1, .int (a1)), (2, .long (a2))] [] (n, sl, SH, FI, FL, FR) (h_I (fun r s => ∃ FI' FL', s = (n, sl, SH, FI', FL', FR) ∧ g_I FI' ∧ g_fr n SH [(121, 0), (121, 29), (121, 30), (121, 31), (121, 32), (121, 33), (121, 34), (121, 37), (121, 38), (121, 46), (121, 47), (121, 53), (121, 54), (121, 55), (121, 56), (121, 57), (121, 90), (121, 91), (121, 92), (121, 93), (121, 94), (121, 95), (121, 101), (121, 104)] [128, 129, 130, 132, 133, 134, 135, 136, 138, 139, 140, 141, 142, 143, 145, 146, 147, 165, 166, 169, 171, 172, 174, 175] [] FI FI' ∧ g_fr n SH [(121, 35), (121, 36), (121, 39)] [127, 131, 137, 144, 170, 173] [] FL FL' ∧ (rl_h 2 (FI' 136) (FL' 137) (FI' 138)) ∧ (rl_h 32 (FI' 130) (FL' 131) (FI' 134)) ∧ (rl_b (FI' 139) (FI' 140) (FI' 141)) ∧ (rl_m (FI' 169) (FL' 170)) ∧ (rl_p (FI' 143) (FL' 144)))) := by
  have rg_a1 := i_rng a1
  have rg_a2 := l_rng a2
  obtain ⟨x1, h2⟩ : ∃ y, FI 121 74 = y := ⟨_, rfl⟩
  have h2l := congrArg Int32.toInt h2
  have b3 := gI_121_74 hI; rw [h2] at b3
  refine hw_aloadn (aX12_means 0 rfl) rfl ?_
  refine hw_ic (v := (0 : Int32)) (aX12_means 1 rfl) (by decide) ?_
  refine hv_puti (aX12_means 2 rfl) wf_RX12_187 (c121 hS) (s121 hS) (by decide) rfl rfl (fun FI4 u5 => ?_)
  have rl6 : rl_t (FI4 152) (FL 153) := by rw [show FI4 152 = FI 152 from up_row u5 (by decide) rfl]; exact rel_kept
  have rl7 : rl_h 2 (FI4 136) (FL 137) (FI4 138) := by rw [show FI4 136 = FI 136 from up_row u5 (by decide) rfl, show FI4 138 = FI 138 from up_row u5 (by decide) rfl]; exact rel_hold
  have rl8 : rl_h 32 (FI4 130) (FL 131) (FI4 134) := by rw [show FI4 130 = FI 130 from up_row u5 (by decide) rfl, show FI4 134 = FI 134 from up_row u5 (by decide) rfl]; exact rel_piece
  have rl9 : rl_b (FI4 139) (FI4 140) (FI4 141) := by rw [show FI4 139 = FI 139 from up_row u5 (by decide) rfl, show FI4 140 = FI 140 from up_row u5 (by decide) rfl, show FI4 141 = FI 141 from up_row u5 (by decide) rfl]; exact rel_back
  have rl10 : rl_m (FI4 169) (FL 170) := by rw [show FI4 169 = FI 169 from up_row u5 (by decide) rfl]; exact rel_mean
  have rl11 : rl_p (FI4 143) (FL 144) := by rw [show FI4 143 = FI 143 from up_row u5 (by decide) rfl]; exact rel_part
  have rl12 : rl_v (FI4 121 74) (FI4 152) (FL 153) (FI4 156) (FI4 157) := by rw [show FI4 152 = FI 152 from up_row u5 (by decide) rfl, show FI4 156 = FI 156 from up_row u5 (by decide) rfl, show FI4 157 = FI 157 from up_row u5 (by decide) rfl, show FI4 121 74 = FI 121 74 from up_k u5 (by decide) rfl]; exact rel_var
  have hI13 : g_I FI4 := gU_F hI u5 rfl
  refine xw_iloadn (aX12_means 3 rfl) rfl ?_
  refine hw_iflt (tgt := 17) (aX12_means 4 rfl) (by decide) rfl (fun cd14 => ?_) (fun cd14 => ?_)
  · refine hw_ic (v := ((-1) : Int32)) (aX12_means 9 rfl) (by decide) ?_
    refine xw_iret (aX12_means 10 rfl) rfl rfl ?_
    have e15 : (((-1) : Int32)).toInt = (-1) := (by decide : ((-1) : Int32).toInt = (-1))
    exact ⟨((-1) : Int32), rfl, FI4, FL, rfl, hI13, (gf_f gf_rf u5 (by decide)), gf_rf, (show rl_h 2 (FI4 136) (FL 137) (FI4 138) from rl7), (show rl_h 32 (FI4 130) (FL 131) (FI4 134) from rl8), (show rl_b (FI4 139) (FI4 140) (FI4 141) from rl9), (show rl_m (FI4 169) (FL 170) from rl10), (show rl_p (FI4 143) (FL 144) from rl11)⟩
  · refine xw_iloadn (aX12_means 5 rfl) rfl ?_
    refine hw_aloadn (aX12_means 6 rfl) rfl ?_
    refine hw_get (v := .int (x1)) (aX12_means 7 rfl) wf_RX12_524 (c121 hS) (s121 hS) (by decide) (congrArg Value.int (show FI4 121 74 = x1 from (up_k u5 (by decide) (h2)))) ?_
    refine hw_iclt (tgt := 19) (aX12_means 8 rfl) (by decide) rfl rfl (fun cd16 => ?_) (fun cd16 => ?_)
    · refine hw_aloadn (aX12_means 11 rfl) rfl ?_
      refine hw_ic (v := (0 : Int32)) (aX12_means 12 rfl) (by decide) ?_
      refine hv_puti (aX12_means 13 rfl) wf_RX12_653 (c121 hS) (s121 hS) (by decide) rfl rfl (fun FI17 u18 => ?_)
      have rl19 : rl_t (FI17 152) (FL 153) := by rw [show FI17 152 = FI4 152 from up_row u18 (by decide) rfl]; exact rl6
      have rl20 : rl_h 2 (FI17 136) (FL 137) (FI17 138) := by rw [show FI17 136 = FI4 136 from up_row u18 (by decide) rfl, show FI17 138 = FI4 138 from up_row u18 (by decide) rfl]; exact rl7
      have rl21 : rl_h 32 (FI17 130) (FL 131) (FI17 134) := by rw [show FI17 130 = FI4 130 from up_row u18 (by decide) rfl, show FI17 134 = FI4 134 from up_row u18 (by decide) rfl]; exact rl8
      have rl22 : rl_b (FI17 139) (FI17 140) (FI17 141) := by rw [show FI17 139 = FI4 139 from up_row u18 (by decide) rfl, show FI17 140 = FI4 140 from up_row u18 (by decide) rfl, show FI17 141 = FI4 141 from up_row u18 (by decide) rfl]; exact rl9
      have rl23 : rl_m (FI17 169) (FL 170) := by rw [show FI17 169 = FI4 169 from up_row u18 (by decide) rfl]; exact rl10
      have rl24 : rl_p (FI17 143) (FL 144) := by rw [show FI17 143 = FI4 143 from up_row u18 (by decide) rfl]; exact rl11
      have rl25 : rl_v (FI17 121 74) (FI17 152) (FL 153) (FI17 156) (FI17 157) := by rw [show FI17 152 = FI4 152 from up_row u18 (by decide) rfl, show FI17 156 = FI4 156 from up_row u18 (by decide) rfl, show FI17 157 = FI4 157 from up_row u18 (by decide) rfl, show FI17 121 74 = FI4 121 74 from up_k u18 (by decide) rfl]; exact rl12
      have hI26 : g_I FI17 := gU_F hI13 u18 rfl
      refine hw_aloadn (aX12_means 14 rfl) rfl ?_
      refine hw_aloadn (aX12_means 15 rfl) rfl ?_
      refine hw_get (v := .ref (base + 157)) (aX12_means 16 rfl) wf_RX12_129 (c121 hS) (s121 hS) (by decide) (congrArg (fun r => va_rf (h_rf base r)) (r121_77 hF)) ?_
      refine xw_iloadn (aX12_means 17 rfl) rfl ?_
      obtain ⟨x27, h28⟩ : ∃ y, FI17 157 (a1).toNatClampNeg = y := ⟨_, rfl⟩
      have h28l := congrArg Int32.toInt h28
      have := i_rng x27
      refine hw_iald (v := x27) (aX12_means 18 rfl) (c157 hS) (s157 hS) (h_in rfl (by omega) (by omega)) (show FI17 157 (a1).toNatClampNeg = x27 from h28) ?_
      have b29 := gI_157 hI26 (i_lt (x := a1) rfl (by omega) (by omega)); rw [h28] at b29
      refine hv_puti (aX12_means 19 rfl) wf_RX12_656 (c121 hS) (s121 hS) (by decide) rfl rfl (fun FI30 u31 => ?_)
      have rl32 : rl_t (FI30 152) (FL 153) := by rw [show FI30 152 = FI17 152 from up_row u31 (by decide) rfl]; exact rl19
      have rl33 : rl_h 2 (FI30 136) (FL 137) (FI30 138) := by rw [show FI30 136 = FI17 136 from up_row u31 (by decide) rfl, show FI30 138 = FI17 138 from up_row u31 (by decide) rfl]; exact rl20
      have rl34 : rl_h 32 (FI30 130) (FL 131) (FI30 134) := by rw [show FI30 130 = FI17 130 from up_row u31 (by decide) rfl, show FI30 134 = FI17 134 from up_row u31 (by decide) rfl]; exact rl21
      have rl35 : rl_b (FI30 139) (FI30 140) (FI30 141) := by rw [show FI30 139 = FI17 139 from up_row u31 (by decide) rfl, show FI30 140 = FI17 140 from up_row u31 (by decide) rfl, show FI30 141 = FI17 141 from up_row u31 (by decide) rfl]; exact rl22
      have rl36 : rl_m (FI30 169) (FL 170) := by rw [show FI30 169 = FI17 169 from up_row u31 (by decide) rfl]; exact rl23
      have rl37 : rl_p (FI30 143) (FL 144) := by rw [show FI30 143 = FI17 143 from up_row u31 (by decide) rfl]; exact rl24
      have rl38 : rl_v (FI30 121 74) (FI30 152) (FL 153) (FI30 156) (FI30 157) := by rw [show FI30 152 = FI17 152 from up_row u31 (by decide) rfl, show FI30 156 = FI17 156 from up_row u31 (by decide) rfl, show FI30 157 = FI17 157 from up_row u31 (by decide) rfl, show FI30 121 74 = FI17 121 74 from up_k u31 (by decide) rfl]; exact rl25
      have hI39 : g_I FI30 := gU_121_92 hI26 u31 (by omega) (by omega)
      refine hw_aloadn (aX12_means 20 rfl) rfl ?_
      refine hw_ic (v := (1 : Int32)) (aX12_means 21 rfl) (by decide) ?_
      refine hv_puti (aX12_means 22 rfl) wf_RX12_659 (c121 hS) (s121 hS) (by decide) rfl rfl (fun FI40 u41 => ?_)
      have rl42 : rl_t (FI40 152) (FL 153) := by rw [show FI40 152 = FI30 152 from up_row u41 (by decide) rfl]; exact rl32
      have rl43 : rl_h 2 (FI40 136) (FL 137) (FI40 138) := by rw [show FI40 136 = FI30 136 from up_row u41 (by decide) rfl, show FI40 138 = FI30 138 from up_row u41 (by decide) rfl]; exact rl33
      have rl44 : rl_h 32 (FI40 130) (FL 131) (FI40 134) := by rw [show FI40 130 = FI30 130 from up_row u41 (by decide) rfl, show FI40 134 = FI30 134 from up_row u41 (by decide) rfl]; exact rl34
      have rl45 : rl_b (FI40 139) (FI40 140) (FI40 141) := by rw [show FI40 139 = FI30 139 from up_row u41 (by decide) rfl, show FI40 140 = FI30 140 from up_row u41 (by decide) rfl, show FI40 141 = FI30 141 from up_row u41 (by decide) rfl]; exact rl35
      have rl46 : rl_m (FI40 169) (FL 170) := by rw [show FI40 169 = FI30 169 from up_row u41 (by decide) rfl]; exact rl36
      have rl47 : rl_p (FI40 143) (FL 144) := by rw [show FI40 143 = FI30 143 from up_row u41 (by decide) rfl]; exact rl37
      have rl48 : rl_v (FI40 121 74) (FI40 152) (FL 153) (FI40 156) (FI40 157) := by rw [show FI40 152 = FI30 152 from up_row u41 (by decide) rfl, show FI40 156 = FI30 156 from up_row u41 (by decide) rfl, show FI40 157 = FI30 157 from up_row u41 (by decide) rfl, show FI40 121 74 = FI30 121 74 from up_k u41 (by decide) rfl]; exact rl38
      have hI49 : g_I FI40 := gU_121_94 hI39 u41 (by have := ((by decide : (1 : Int32).toInt = 1) : ((1 : Int32)).toInt = 1); omega) (by have := ((by decide : (1 : Int32).toInt = 1) : ((1 : Int32)).toInt = 1); omega)
      refine hw_aloadn (aX12_means 23 rfl) rfl ?_
      refine hw_ic (v := (0 : Int32)) (aX12_means 24 rfl) (by decide) ?_
      refine hv_putz (aX12_means 25 rfl) wf_RX12_662 (c121 hS) (s121 hS) (by decide) rfl rfl (by decide) (fun FI50 u51 => ?_)
      have rl52 : rl_t (FI50 152) (FL 153) := by rw [show FI50 152 = FI40 152 from up_row u51 (by decide) rfl]; exact rl42
      have rl53 : rl_h 2 (FI50 136) (FL 137) (FI50 138) := by rw [show FI50 136 = FI40 136 from up_row u51 (by decide) rfl, show FI50 138 = FI40 138 from up_row u51 (by decide) rfl]; exact rl43
      have rl54 : rl_h 32 (FI50 130) (FL 131) (FI50 134) := by rw [show FI50 130 = FI40 130 from up_row u51 (by decide) rfl, show FI50 134 = FI40 134 from up_row u51 (by decide) rfl]; exact rl44
      have rl55 : rl_b (FI50 139) (FI50 140) (FI50 141) := by rw [show FI50 139 = FI40 139 from up_row u51 (by decide) rfl, show FI50 140 = FI40 140 from up_row u51 (by decide) rfl, show FI50 141 = FI40 141 from up_row u51 (by decide) rfl]; exact rl45
      have rl56 : rl_m (FI50 169) (FL 170) := by rw [show FI50 169 = FI40 169 from up_row u51 (by decide) rfl]; exact rl46
      have rl57 : rl_p (FI50 143) (FL 144) := by rw [show FI50 143 = FI40 143 from up_row u51 (by decide) rfl]; exact rl47
      have rl58 : rl_v (FI50 121 74) (FI50 152) (FL 153) (FI50 156) (FI50 157) := by rw [show FI50 152 = FI40 152 from up_row u51 (by decide) rfl, show FI50 156 = FI40 156 from up_row u51 (by decide) rfl, show FI50 157 = FI40 157 from up_row u51 (by decide) rfl, show FI50 121 74 = FI40 121 74 from up_k u51 (by decide) rfl]; exact rl48
      have hI59 : g_I FI50 := gU_121_95 hI49 u51 (by have := ((by decide : (0 : Int32).toInt = 0) : ((0 : Int32)).toInt = 0); omega) (by have := ((by decide : (0 : Int32).toInt = 0) : ((0 : Int32)).toInt = 0); omega)
      refine hw_aloadn (aX12_means 26 rfl) rfl ?_
      refine hw_get (v := .ref (base + 169)) (aX12_means 27 rfl) wf_RX12_166 (c121 hS) (s121 hS) (by decide) (congrArg (fun r => va_rf (h_rf base r)) (r121_96 hF)) ?_
      refine hw_ic (v := (0 : Int32)) (aX12_means 28 rfl) (by decide) ?_
      refine hw_ic (v := (0 : Int32)) (aX12_means 29 rfl) (by decide) ?_
      refine hv_iast (k := 0) (aX12_means 30 rfl) (c169 hS) (s169 hS) (h_in (by decide : (0 : Int32).toInt = 0) (by omega) (by omega)) (by decide) (fun FI60 u61 => ?_)
      have rl62 : rl_t (FI60 152) (FL 153) := by rw [show FI60 152 = FI50 152 from up_row u61 (by decide) rfl]; exact rl52
      have rl63 : rl_h 2 (FI60 136) (FL 137) (FI60 138) := by rw [show FI60 136 = FI50 136 from up_row u61 (by decide) rfl, show FI60 138 = FI50 138 from up_row u61 (by decide) rfl]; exact rl53
      have rl64 : rl_h 32 (FI60 130) (FL 131) (FI60 134) := by rw [show FI60 130 = FI50 130 from up_row u61 (by decide) rfl, show FI60 134 = FI50 134 from up_row u61 (by decide) rfl]; exact rl54
      have rl65 : rl_b (FI60 139) (FI60 140) (FI60 141) := by rw [show FI60 139 = FI50 139 from up_row u61 (by decide) rfl, show FI60 140 = FI50 140 from up_row u61 (by decide) rfl, show FI60 141 = FI50 141 from up_row u61 (by decide) rfl]; exact rl55
      have rl66 : rl_p (FI60 143) (FL 144) := by rw [show FI60 143 = FI50 143 from up_row u61 (by decide) rfl]; exact rl57
      have rl67 : rl_v (FI60 121 74) (FI60 152) (FL 153) (FI60 156) (FI60 157) := by rw [show FI60 152 = FI50 152 from up_row u61 (by decide) rfl, show FI60 156 = FI50 156 from up_row u61 (by decide) rfl, show FI60 157 = FI50 157 from up_row u61 (by decide) rfl, show FI60 121 74 = FI50 121 74 from up_c u61 (by decide) rfl]; exact rl58
      have hI68 : g_I FI60 := gU_F hI59 u61 rfl
      refine hw_aloadn (aX12_means 31 rfl) rfl ?_
      refine hw_get (v := .ref (base + 170)) (aX12_means 32 rfl) wf_RX12_169 (c121 hS) (s121 hS) (by decide) (congrArg (fun r => va_rf (h_rf base r)) (r121_97 hF)) ?_
      refine hw_ic (v := (0 : Int32)) (aX12_means 33 rfl) (by decide) ?_
      refine hw_lc (v := (0 : Int64)) (aX12_means 34 rfl) (by decide) ?_
      refine hv_last (k := 0) (aX12_means 35 rfl) (c170 hS) (s170 hS) (h_in (by decide : (0 : Int32).toInt = 0) (by omega) (by omega)) (by decide) (fun FL69 u70 => ?_)
      have rl71 : rl_t (FI60 152) (FL69 153) := by rw [show FL69 153 = FL 153 from up_row u70 (by decide) rfl]; exact rl62
      have rl72 : rl_h 2 (FI60 136) (FL69 137) (FI60 138) := by rw [show FL69 137 = FL 137 from up_row u70 (by decide) rfl]; exact rl63
      have rl73 : rl_h 32 (FI60 130) (FL69 131) (FI60 134) := by rw [show FL69 131 = FL 131 from up_row u70 (by decide) rfl]; exact rl64
      have rl74 : rl_p (FI60 143) (FL69 144) := by rw [show FL69 144 = FL 144 from up_row u70 (by decide) rfl]; exact rl66
      have rl75 : rl_v (FI60 121 74) (FI60 152) (FL69 153) (FI60 156) (FI60 157) := by rw [show FL69 153 = FL 153 from up_row u70 (by decide) rfl]; exact rl67
      have rl76 : rl_m (FI60 169) (FL69 170) := by rw [show FI60 169 = va_up (FI50 169) (0) ((0 : Int32)) from (up_va u61 (rfl)), show FL69 170 = va_up (FL 170) (0) ((0 : Int64)) from (up_va u70 (rfl))]; exact rl_m_up rl56 (fun h => absurd h (by decide)) (fun h => absurd h (by decide))
      refine hw_aloadn (aX12_means 36 rfl) rfl ?_
      refine hw_get (v := .ref (base + 171)) (aX12_means 37 rfl) wf_RX12_172 (c121 hS) (s121 hS) (by decide) (congrArg (fun r => va_rf (h_rf base r)) (r121_98 hF)) ?_
      refine hw_ic (v := (0 : Int32)) (aX12_means 38 rfl) (by decide) ?_
      refine hw_ic (v := (0 : Int32)) (aX12_means 39 rfl) (by decide) ?_
      refine hv_iast (k := 0) (aX12_means 40 rfl) (c171 hS) (s171 hS) (h_in (by decide : (0 : Int32).toInt = 0) (by omega) (by omega)) (by decide) (fun FI77 u78 => ?_)
      have rl79 : rl_t (FI77 152) (FL69 153) := by rw [show FI77 152 = FI60 152 from up_row u78 (by decide) rfl]; exact rl71
      have rl80 : rl_h 2 (FI77 136) (FL69 137) (FI77 138) := by rw [show FI77 136 = FI60 136 from up_row u78 (by decide) rfl, show FI77 138 = FI60 138 from up_row u78 (by decide) rfl]; exact rl72
      have rl81 : rl_h 32 (FI77 130) (FL69 131) (FI77 134) := by rw [show FI77 130 = FI60 130 from up_row u78 (by decide) rfl, show FI77 134 = FI60 134 from up_row u78 (by decide) rfl]; exact rl73
      have rl82 : rl_b (FI77 139) (FI77 140) (FI77 141) := by rw [show FI77 139 = FI60 139 from up_row u78 (by decide) rfl, show FI77 140 = FI60 140 from up_row u78 (by decide) rfl, show FI77 141 = FI60 141 from up_row u78 (by decide) rfl]; exact rl65
      have rl83 : rl_p (FI77 143) (FL69 144) := by rw [show FI77 143 = FI60 143 from up_row u78 (by decide) rfl]; exact rl74
      have rl84 : rl_v (FI77 121 74) (FI77 152) (FL69 153) (FI77 156) (FI77 157) := by rw [show FI77 152 = FI60 152 from up_row u78 (by decide) rfl, show FI77 156 = FI60 156 from up_row u78 (by decide) rfl, show FI77 157 = FI60 157 from up_row u78 (by decide) rfl, show FI77 121 74 = FI60 121 74 from up_c u78 (by decide) rfl]; exact rl75
      have rl85 : rl_m (FI77 169) (FL69 170) := by rw [show FI77 169 = FI60 169 from up_row u78 (by decide) rfl]; exact rl76
      have hI86 : g_I FI77 := gU_F hI68 u78 rfl
      refine hw_aloadn (aX12_means 41 rfl) rfl ?_
      refine hw_get (v := .ref (base + 156)) (aX12_means 42 rfl) wf_RX12_126 (c121 hS) (s121 hS) (by decide) (congrArg (fun r => va_rf (h_rf base r)) (r121_76 hF)) ?_
      refine xw_iloadn (aX12_means 43 rfl) rfl ?_
      obtain ⟨x87, h88⟩ : ∃ y, FI77 156 (a1).toNatClampNeg = y := ⟨_, rfl⟩
      have h88l := congrArg Int32.toInt h88
      have := i_rng x87
      refine hw_iald (v := x87) (aX12_means 44 rfl) (c156 hS) (s156 hS) (h_in rfl (by omega) (by omega)) (show FI77 156 (a1).toNatClampNeg = x87 from h88) ?_
      have b89 := gI_156 hI86 (i_lt (x := a1) rfl (by omega) (by omega)); rw [h88] at b89
      have j453 : ∀ (g228 : Int32) (FIj223 : Nat → Nat → Int32) (FLj232 : Nat → Nat → Int64), (g_fr n SH [(121, 0), (121, 29), (121, 30), (121, 31), (121, 32), (121, 33), (121, 34), (121, 37), (121, 38), (121, 46), (121, 47), (121, 53), (121, 54), (121, 55), (121, 56), (121, 57), (121, 90), (121, 91), (121, 92), (121, 93), (121, 94), (121, 95), (121, 101), (121, 104)] [128, 129, 130, 132, 133, 134, 135, 136, 138, 139, 140, 141, 142, 143, 145, 146, 147, 165, 166, 169, 171, 172, 174, 175] [] FI FIj223) → (g_I FIj223) → (FIj223 121 0 = (0 : Int32)) → (FIj223 121 74 = x1) → (FIj223 121 94 = g228) → (0 ≤ (g228).toInt ∧ (g228).toInt ≤ 8) → (FIj223 156 (a1).toNatClampNeg = x87) → (FIj223 157 (a1).toNatClampNeg = x27) → (g_fr n SH [(121, 35), (121, 36), (121, 39)] [127, 131, 137, 144, 170, 173] [] FL FLj232) → (FIj223 152 = FI 152) → (FLj232 153 = FL 153) → (rl_b (FIj223 139) (FIj223 140) (FIj223 141)) → (rl_h 2 (FIj223 136) (FLj232 137) (FIj223 138)) → (rl_t (FIj223 152) (FLj232 153)) → (rl_m (FIj223 169) (FLj232 170)) → (rl_p (FIj223 143) (FLj232 144)) → (rl_h 32 (FIj223 130) (FLj232 131) (FIj223 134)) → (rl_v (FIj223 121 74) (FIj223 152) (FLj232 153) (FIj223 156) (FIj223 157)) → (1 ≤ (g228).toInt) → hw zk base (d + 10) none 253 187 [(0, .ref (base + 121))] [] (n, sl, SH, FIj223, FLj232, FR) (h_I (fun r s => ∃ FI' FL', s = (n, sl, SH, FI', FL', FR) ∧ g_I FI' ∧ g_fr n SH [(121, 0), (121, 29), (121, 30), (121, 31), (121, 32), (121, 33), (121, 34), (121, 37), (121, 38), (121, 46), (121, 47), (121, 53), (121, 54), (121, 55), (121, 56), (121, 57), (121, 90), (121, 91), (121, 92), (121, 93), (121, 94), (121, 95), (121, 101), (121, 104)] [128, 129, 130, 132, 133, 134, 135, 136, 138, 139, 140, 141, 142, 143, 145, 146, 147, 165, 166, 169, 171, 172, 174, 175] [] FI FI' ∧ g_fr n SH [(121, 35), (121, 36), (121, 39)] [127, 131, 137, 144, 170, 173] [] FL FL' ∧ (rl_h 2 (FI' 136) (FL' 137) (FI' 138)) ∧ (rl_h 32 (FI' 130) (FL' 131) (FI' 134)) ∧ (rl_b (FI' 139) (FI' 140) (FI' 141)) ∧ (rl_m (FI' 169) (FL' 170)) ∧ (rl_p (FI' 143) (FL' 144)))) := by
        intro g228 FIj223 FLj232 fr224 hI225 kp226 kp227 kp229 q454 kp230 kp231 fr233 rw234 rw235 rl236 rl237 rl238 rl239 rl240 rl241 rl242 fc187_0
        have rg_g228 := i_rng g228
        have := congrArg Int32.toInt kp226
        have := congrArg Int32.toInt kp227
        have := congrArg Int32.toInt kp229
        have := congrArg Int32.toInt kp230
        have := congrArg Int32.toInt kp231
        refine hw_aloadn (aX12_means 107 rfl) rfl ?_
        refine hw_ic (v := (0 : Int32)) (aX12_means 108 rfl) (by decide) ?_
        refine hv_puti (aX12_means 109 rfl) wf_RX12_299 (c121 hS) (s121 hS) (by decide) rfl rfl (fun FI455 u456 => ?_)
        have rl457 : rl_b (FI455 139) (FI455 140) (FI455 141) := by rw [show FI455 139 = FIj223 139 from up_row u456 (by decide) rfl, show FI455 140 = FIj223 140 from up_row u456 (by decide) rfl, show FI455 141 = FIj223 141 from up_row u456 (by decide) rfl]; exact rl236
        have rl458 : rl_h 2 (FI455 136) (FLj232 137) (FI455 138) := by rw [show FI455 136 = FIj223 136 from up_row u456 (by decide) rfl, show FI455 138 = FIj223 138 from up_row u456 (by decide) rfl]; exact rl237
        have rl459 : rl_t (FI455 152) (FLj232 153) := by rw [show FI455 152 = FIj223 152 from up_row u456 (by decide) rfl]; exact rl238
        have rl460 : rl_m (FI455 169) (FLj232 170) := by rw [show FI455 169 = FIj223 169 from up_row u456 (by decide) rfl]; exact rl239
        have rl461 : rl_p (FI455 143) (FLj232 144) := by rw [show FI455 143 = FIj223 143 from up_row u456 (by decide) rfl]; exact rl240
        have rl462 : rl_h 32 (FI455 130) (FLj232 131) (FI455 134) := by rw [show FI455 130 = FIj223 130 from up_row u456 (by decide) rfl, show FI455 134 = FIj223 134 from up_row u456 (by decide) rfl]; exact rl241
        have rl463 : rl_v (FI455 121 74) (FI455 152) (FLj232 153) (FI455 156) (FI455 157) := by rw [show FI455 152 = FIj223 152 from up_row u456 (by decide) rfl, show FI455 156 = FIj223 156 from up_row u456 (by decide) rfl, show FI455 157 = FIj223 157 from up_row u456 (by decide) rfl, show FI455 121 74 = FIj223 121 74 from up_k u456 (by decide) rfl]; exact rl242
        have hI464 : g_I FI455 := gU_F hI225 u456 rfl
        refine hw_aloadn (aX12_means 110 rfl) rfl ?_
        refine hw_ic (v := (0 : Int32)) (aX12_means 111 rfl) (by decide) ?_
        refine hv_puti (aX12_means 112 rfl) wf_RX12_258 (c121 hS) (s121 hS) (by decide) rfl rfl (fun FI465 u466 => ?_)
        have rl467 : rl_b (FI465 139) (FI465 140) (FI465 141) := by rw [show FI465 139 = FI455 139 from up_row u466 (by decide) rfl, show FI465 140 = FI455 140 from up_row u466 (by decide) rfl, show FI465 141 = FI455 141 from up_row u466 (by decide) rfl]; exact rl457
        have rl468 : rl_h 2 (FI465 136) (FLj232 137) (FI465 138) := by rw [show FI465 136 = FI455 136 from up_row u466 (by decide) rfl, show FI465 138 = FI455 138 from up_row u466 (by decide) rfl]; exact rl458
        have rl469 : rl_t (FI465 152) (FLj232 153) := by rw [show FI465 152 = FI455 152 from up_row u466 (by decide) rfl]; exact rl459
        have rl470 : rl_m (FI465 169) (FLj232 170) := by rw [show FI465 169 = FI455 169 from up_row u466 (by decide) rfl]; exact rl460
        have rl471 : rl_p (FI465 143) (FLj232 144) := by rw [show FI465 143 = FI455 143 from up_row u466 (by decide) rfl]; exact rl461
        have rl472 : rl_h 32 (FI465 130) (FLj232 131) (FI465 134) := by rw [show FI465 130 = FI455 130 from up_row u466 (by decide) rfl, show FI465 134 = FI455 134 from up_row u466 (by decide) rfl]; exact rl462
        have rl473 : rl_v (FI465 121 74) (FI465 152) (FLj232 153) (FI465 156) (FI465 157) := by rw [show FI465 152 = FI455 152 from up_row u466 (by decide) rfl, show FI465 156 = FI455 156 from up_row u466 (by decide) rfl, show FI465 157 = FI455 157 from up_row u466 (by decide) rfl, show FI465 121 74 = FI455 121 74 from up_k u466 (by decide) rfl]; exact rl463
        have hI474 : g_I FI465 := gU_F hI464 u466 rfl
        refine hw_aloadn (aX12_means 113 rfl) rfl ?_
        obtain ⟨x475, h476⟩ : ∃ y, FI465 121 93 = y := ⟨_, rfl⟩
        have h476l := congrArg Int32.toInt h476
        have := i_rng x475
        refine hw_get (v := .int (x475)) (aX12_means 114 rfl) wf_RX12_653 (c121 hS) (s121 hS) (by decide) (congrArg Value.int (show FI465 121 93 = x475 from h476)) ?_
        refine hw_ifeq (tgt := 214) (aX12_means 115 rfl) (by decide) rfl (fun cd477 => ?_) (fun cd477 => ?_)
        · refine hw_aloadn (aX12_means 122 rfl) rfl ?_
          refine hw_aloadn (aX12_means 123 rfl) rfl ?_
          refine hw_get (v := .int (g228)) (aX12_means 124 rfl) wf_RX12_659 (c121 hS) (s121 hS) (by decide) (congrArg Value.int (show FI465 121 94 = g228 from (up_k u466 (by decide) ((up_k u456 (by decide) (kp229)))))) ?_
          refine hv_puti (aX12_means 125 rfl) wf_RX12_81 (c121 hS) (s121 hS) (by decide) rfl rfl (fun FI478 u479 => ?_)
          have rl480 : rl_b (FI478 139) (FI478 140) (FI478 141) := by rw [show FI478 139 = FI465 139 from up_row u479 (by decide) rfl, show FI478 140 = FI465 140 from up_row u479 (by decide) rfl, show FI478 141 = FI465 141 from up_row u479 (by decide) rfl]; exact rl467
          have rl481 : rl_h 2 (FI478 136) (FLj232 137) (FI478 138) := by rw [show FI478 136 = FI465 136 from up_row u479 (by decide) rfl, show FI478 138 = FI465 138 from up_row u479 (by decide) rfl]; exact rl468
          have rl482 : rl_t (FI478 152) (FLj232 153) := by rw [show FI478 152 = FI465 152 from up_row u479 (by decide) rfl]; exact rl469
          have rl483 : rl_m (FI478 169) (FLj232 170) := by rw [show FI478 169 = FI465 169 from up_row u479 (by decide) rfl]; exact rl470
          have rl484 : rl_p (FI478 143) (FLj232 144) := by rw [show FI478 143 = FI465 143 from up_row u479 (by decide) rfl]; exact rl471
          have rl485 : rl_h 32 (FI478 130) (FLj232 131) (FI478 134) := by rw [show FI478 130 = FI465 130 from up_row u479 (by decide) rfl, show FI478 134 = FI465 134 from up_row u479 (by decide) rfl]; exact rl472
          have rl486 : rl_v (FI478 121 74) (FI478 152) (FLj232 153) (FI478 156) (FI478 157) := by rw [show FI478 152 = FI465 152 from up_row u479 (by decide) rfl, show FI478 156 = FI465 156 from up_row u479 (by decide) rfl, show FI478 157 = FI465 157 from up_row u479 (by decide) rfl, show FI478 121 74 = FI465 121 74 from up_k u479 (by decide) rfl]; exact rl473
          have hI487 : g_I FI478 := gU_121_46 hI474 u479 (by omega) (by omega)
          refine hw_aloadn (aX12_means 126 rfl) rfl ?_
          refine hw_aloadn (aX12_means 127 rfl) rfl ?_
          obtain ⟨x488, h489⟩ : ∃ y, FI478 121 95 = y := ⟨_, rfl⟩
          have h489l := congrArg Int32.toInt h489
          have b490 := gI_121_95 hI487; rw [h489] at b490
          refine hw_get (v := .int (x488)) (aX12_means 128 rfl) wf_RX12_662 (c121 hS) (s121 hS) (by decide) (congrArg Value.int (show FI478 121 95 = x488 from h489)) ?_
          refine hv_putz (aX12_means 129 rfl) wf_RX12_354 (c121 hS) (s121 hS) (by decide) rfl rfl (i_01 rfl (by omega) (by omega)) (fun FI491 u492 => ?_)
          have rl493 : rl_b (FI491 139) (FI491 140) (FI491 141) := by rw [show FI491 139 = FI478 139 from up_row u492 (by decide) rfl, show FI491 140 = FI478 140 from up_row u492 (by decide) rfl, show FI491 141 = FI478 141 from up_row u492 (by decide) rfl]; exact rl480
          have rl494 : rl_h 2 (FI491 136) (FLj232 137) (FI491 138) := by rw [show FI491 136 = FI478 136 from up_row u492 (by decide) rfl, show FI491 138 = FI478 138 from up_row u492 (by decide) rfl]; exact rl481
          have rl495 : rl_t (FI491 152) (FLj232 153) := by rw [show FI491 152 = FI478 152 from up_row u492 (by decide) rfl]; exact rl482
          have rl496 : rl_m (FI491 169) (FLj232 170) := by rw [show FI491 169 = FI478 169 from up_row u492 (by decide) rfl]; exact rl483
          have rl497 : rl_p (FI491 143) (FLj232 144) := by rw [show FI491 143 = FI478 143 from up_row u492 (by decide) rfl]; exact rl484
          have rl498 : rl_h 32 (FI491 130) (FLj232 131) (FI491 134) := by rw [show FI491 130 = FI478 130 from up_row u492 (by decide) rfl, show FI491 134 = FI478 134 from up_row u492 (by decide) rfl]; exact rl485
          have rl499 : rl_v (FI491 121 74) (FI491 152) (FLj232 153) (FI491 156) (FI491 157) := by rw [show FI491 152 = FI478 152 from up_row u492 (by decide) rfl, show FI491 156 = FI478 156 from up_row u492 (by decide) rfl, show FI491 157 = FI478 157 from up_row u492 (by decide) rfl, show FI491 121 74 = FI478 121 74 from up_k u492 (by decide) rfl]; exact rl486
          have hI500 : g_I FI491 := gU_121_47 hI487 u492 (by omega) (by omega)
          refine hw_ic (v := (0 : Int32)) (aX12_means 130 rfl) (by decide) ?_
          refine xw_istore (L2 := [(4, .int ((0 : Int32))), (0, .ref (base + 121))]) (aX12_means 131 rfl) (by decide) rfl ?_
          have lp528 : ∀ (m : Nat) (y4 : Int32) (FIv501 : Nat → Nat → Int32) (FLv502 : Nat → Nat → Int64), (g_fr n SH [(121, 0), (121, 29), (121, 30), (121, 31), (121, 32), (121, 33), (121, 34), (121, 37), (121, 38), (121, 46), (121, 47), (121, 53), (121, 54), (121, 55), (121, 56), (121, 57), (121, 90), (121, 91), (121, 92), (121, 93), (121, 94), (121, 95), (121, 101), (121, 104)] [128, 129, 130, 132, 133, 134, 135, 136, 138, 139, 140, 141, 142, 143, 145, 146, 147, 165, 166, 169, 171, 172, 174, 175] [] FI FIv501) → (g_fr n SH [(121, 35), (121, 36), (121, 39)] [127, 131, 137, 144, 170, 173] [] FL FLv502) → (g_I FIv501) → (FIv501 121 0 = (0 : Int32)) → (FIv501 121 74 = x1) → (FIv501 121 94 = g228) → (FIv501 156 (a1).toNatClampNeg = x87) → (FIv501 157 (a1).toNatClampNeg = x27) → (FIv501 121 31 = (0 : Int32)) → (FIv501 121 32 = (0 : Int32)) → (FIv501 121 93 = x475) → (FIv501 121 46 = g228) → (FIv501 121 95 = x488) → (FIv501 121 47 = x488) → (rl_b (FIv501 139) (FIv501 140) (FIv501 141)) → (rl_h 2 (FIv501 136) (FLv502 137) (FIv501 138)) → (rl_t (FIv501 152) (FLv502 153)) → (rl_m (FIv501 169) (FLv502 170)) → (rl_p (FIv501 143) (FLv502 144)) → (rl_h 32 (FIv501 130) (FLv502 131) (FIv501 134)) → (rl_v (FIv501 121 74) (FIv501 152) (FLv502 153) (FIv501 156) (FIv501 157)) → (0 ≤ (y4).toInt ∧ (y4).toInt ≤ 8) → ((y4).toInt ≤ (g228).toInt) → (FIv501 152 = FI 152) → (FLv502 153 = FL 153) → (g228).toInt - (y4).toInt < m → hw zk base (d + 10) none 253 233 [(4, .int (y4)), (0, .ref (base + 121))] [] (n, sl, SH, FIv501, FLv502, FR) (h_I (fun r s => ∃ FI' FL', s = (n, sl, SH, FI', FL', FR) ∧ g_I FI' ∧ g_fr n SH [(121, 0), (121, 29), (121, 30), (121, 31), (121, 32), (121, 33), (121, 34), (121, 37), (121, 38), (121, 46), (121, 47), (121, 53), (121, 54), (121, 55), (121, 56), (121, 57), (121, 90), (121, 91), (121, 92), (121, 93), (121, 94), (121, 95), (121, 101), (121, 104)] [128, 129, 130, 132, 133, 134, 135, 136, 138, 139, 140, 141, 142, 143, 145, 146, 147, 165, 166, 169, 171, 172, 174, 175] [] FI FI' ∧ g_fr n SH [(121, 35), (121, 36), (121, 39)] [127, 131, 137, 144, 170, 173] [] FL FL' ∧ (rl_h 2 (FI' 136) (FL' 137) (FI' 138)) ∧ (rl_h 32 (FI' 130) (FL' 131) (FI' 134)) ∧ (rl_b (FI' 139) (FI' 140) (FI' 141)) ∧ (rl_m (FI' 169) (FL' 170)) ∧ (rl_p (FI' 143) (FL' 144)))) := by
            intro m
            induction m with
            | zero => intro y4 FIv501 FLv502 fr503 fr504 hI505 kp506 kp507 kp508 kp509 kp510 kp511 kp512 kp513 kp514 kp515 kp516 rl517 rl518 rl519 rl520 rl521 rl522 rl523 iv524 iv525 rw526 rw527 hm; omega
            | succ m ih =>
              intro y4 FIv501 FLv502 fr503 fr504 hI505 kp506 kp507 kp508 kp509 kp510 kp511 kp512 kp513 kp514 kp515 kp516 rl517 rl518 rl519 rl520 rl521 rl522 rl523 iv524 iv525 rw526 rw527 hm
              have rg_y4 := i_rng y4
              have := congrArg Int32.toInt kp506
              have := congrArg Int32.toInt kp507
              have := congrArg Int32.toInt kp508
              have := congrArg Int32.toInt kp509
              have := congrArg Int32.toInt kp510
              have := congrArg Int32.toInt kp511
              have := congrArg Int32.toInt kp512
              have := congrArg Int32.toInt kp513
              have := congrArg Int32.toInt kp514
              have := congrArg Int32.toInt kp515
              have := congrArg Int32.toInt kp516
              refine xw_iload (aX12_means 132 rfl) rfl ?_
              refine hw_aloadn (aX12_means 133 rfl) rfl ?_
              refine hw_get (v := .int (g228)) (aX12_means 134 rfl) wf_RX12_659 (c121 hS) (s121 hS) (by decide) (congrArg Value.int (show FIv501 121 94 = g228 from kp508)) ?_
              refine hw_icge (tgt := 359) (aX12_means 135 rfl) (by decide) rfl rfl (fun cd529 => ?_) (fun cd529 => ?_)
              · refine hw_aloadn (aX12_means 201 rfl) rfl ?_
                refine hw_ic (v := (0 : Int32)) (aX12_means 202 rfl) (by decide) ?_
                refine hw_ic (v := ((-1) : Int32)) (aX12_means 203 rfl) (by decide) ?_
                refine hw_callV (Bs := [.int ((0 : Int32)), .int (((-1) : Int32))]) (rest := []) (aX12_means 204 rfl) wc_RX12_380 (by decide) rfl wi_yX12_tells wv_yX12_tells (c121 hS) (s121 hS) rfl rfl rfl (Nat.le_of_ble_eq_true rfl) (Nat.le_of_ble_eq_true rfl) (n_tells (d := d + 9) hS hF hI505 ((0 : Int32)) (((-1) : Int32)) ) (fun v530 sv531 p532 => ?_)
                have := ((by decide : (0 : Int32).toInt = 0) : ((0 : Int32)).toInt = 0)
                obtain ⟨r533, rfl, FI534, rfl, hI535, f536, t537⟩ := p532
                have rl538 : rl_b (FI534 139) (FI534 140) (FI534 141) := by rw [show FI534 139 = FIv501 139 from gf_row f536 (c139 hS) (s139 hS) rfl rfl, show FI534 140 = FIv501 140 from gf_row f536 (c140 hS) (s140 hS) rfl rfl, show FI534 141 = FIv501 141 from gf_row f536 (c141 hS) (s141 hS) rfl rfl]; exact rl517
                have rl539 : rl_h 2 (FI534 136) (FLv502 137) (FI534 138) := by rw [show FI534 136 = FIv501 136 from gf_row f536 (c136 hS) (s136 hS) rfl rfl, show FI534 138 = FIv501 138 from gf_row f536 (c138 hS) (s138 hS) rfl rfl]; exact rl518
                have rl540 : rl_t (FI534 152) (FLv502 153) := by rw [show FI534 152 = FIv501 152 from gf_row f536 (c152 hS) (s152 hS) rfl rfl]; exact rl519
                have rl541 : rl_m (FI534 169) (FLv502 170) := by rw [show FI534 169 = FIv501 169 from gf_row f536 (c169 hS) (s169 hS) rfl rfl]; exact rl520
                have rl542 : rl_p (FI534 143) (FLv502 144) := by rw [show FI534 143 = FIv501 143 from gf_row f536 (c143 hS) (s143 hS) rfl rfl]; exact rl521
                have rl543 : rl_h 32 (FI534 130) (FLv502 131) (FI534 134) := by rw [show FI534 130 = FIv501 130 from gf_row f536 (c130 hS) (s130 hS) rfl rfl, show FI534 134 = FIv501 134 from gf_row f536 (c134 hS) (s134 hS) rfl rfl]; exact rl522
                have rl544 : rl_v (FI534 121 74) (FI534 152) (FLv502 153) (FI534 156) (FI534 157) := by rw [show FI534 152 = FIv501 152 from gf_row f536 (c152 hS) (s152 hS) rfl rfl, show FI534 156 = FIv501 156 from gf_row f536 (c156 hS) (s156 hS) rfl rfl, show FI534 157 = FIv501 157 from gf_row f536 (c157 hS) (s157 hS) rfl rfl, show FI534 121 74 = FIv501 121 74 from gf_at f536 (c121 hS) (s121 hS) rfl rfl]; exact rl523
                have rg_r533 := i_rng r533
                show hw zk base _ _ _ _ _ [.int (r533)] _ _
                refine xw_iret (aX12_means 205 rfl) rfl rfl ?_
                exact ⟨r533, rfl, FI534, FLv502, rfl, hI535, (gf_tr ex_rf fr503 f536 rfl rfl rfl), fr504, (show rl_h 2 (FI534 136) (FLv502 137) (FI534 138) from rl539), (show rl_h 32 (FI534 130) (FLv502 131) (FI534 134) from rl543), (show rl_b (FI534 139) (FI534 140) (FI534 141) from rl538), (show rl_m (FI534 169) (FLv502 170) from rl541), (show rl_p (FI534 143) (FLv502 144) from rl542)⟩
              · refine hw_aloadn (aX12_means 136 rfl) rfl ?_
                refine hw_get (v := .ref (base + 143)) (aX12_means 137 rfl) wf_RX12_84 (c121 hS) (s121 hS) (by decide) (congrArg (fun r => va_rf (h_rf base r)) (r121_48 hF)) ?_
                refine xw_iload (aX12_means 138 rfl) rfl ?_
                refine hw_aloadn (aX12_means 139 rfl) rfl ?_
                refine hw_get (v := .ref (base + 169)) (aX12_means 140 rfl) wf_RX12_166 (c121 hS) (s121 hS) (by decide) (congrArg (fun r => va_rf (h_rf base r)) (r121_96 hF)) ?_
                refine xw_iload (aX12_means 141 rfl) rfl ?_
                obtain ⟨x545, h546⟩ : ∃ y, FIv501 169 (y4).toNatClampNeg = y := ⟨_, rfl⟩
                have h546l := congrArg Int32.toInt h546
                have := i_rng x545
                refine hw_iald (v := x545) (aX12_means 142 rfl) (c169 hS) (s169 hS) (h_in rfl (by omega) (by omega)) (show FIv501 169 (y4).toNatClampNeg = x545 from h546) ?_
                refine hv_iast (k := (y4).toNatClampNeg) (aX12_means 143 rfl) (c143 hS) (s143 hS) (h_in rfl (by omega) (by omega)) rfl (fun FI547 u548 => ?_)
                have rl549 : rl_b (FI547 139) (FI547 140) (FI547 141) := by rw [show FI547 139 = FIv501 139 from up_row u548 (by decide) rfl, show FI547 140 = FIv501 140 from up_row u548 (by decide) rfl, show FI547 141 = FIv501 141 from up_row u548 (by decide) rfl]; exact rl517
                have rl550 : rl_h 2 (FI547 136) (FLv502 137) (FI547 138) := by rw [show FI547 136 = FIv501 136 from up_row u548 (by decide) rfl, show FI547 138 = FIv501 138 from up_row u548 (by decide) rfl]; exact rl518
                have rl551 : rl_t (FI547 152) (FLv502 153) := by rw [show FI547 152 = FIv501 152 from up_row u548 (by decide) rfl]; exact rl519
                have rl552 : rl_m (FI547 169) (FLv502 170) := by rw [show FI547 169 = FIv501 169 from up_row u548 (by decide) rfl]; exact rl520
                have rl553 : rl_h 32 (FI547 130) (FLv502 131) (FI547 134) := by rw [show FI547 130 = FIv501 130 from up_row u548 (by decide) rfl, show FI547 134 = FIv501 134 from up_row u548 (by decide) rfl]; exact rl522
                have rl554 : rl_v (FI547 121 74) (FI547 152) (FLv502 153) (FI547 156) (FI547 157) := by rw [show FI547 152 = FIv501 152 from up_row u548 (by decide) rfl, show FI547 156 = FIv501 156 from up_row u548 (by decide) rfl, show FI547 157 = FIv501 157 from up_row u548 (by decide) rfl, show FI547 121 74 = FIv501 121 74 from up_c u548 (by decide) rfl]; exact rl523
                have hI555 : g_I FI547 := gU_F hI505 u548 rfl
                refine hw_aloadn (aX12_means 144 rfl) rfl ?_
                refine hw_get (v := .ref (base + 144)) (aX12_means 145 rfl) wf_RX12_87 (c121 hS) (s121 hS) (by decide) (congrArg (fun r => va_rf (h_rf base r)) (r121_49 hF)) ?_
                refine xw_iload (aX12_means 146 rfl) rfl ?_
                refine hw_aloadn (aX12_means 147 rfl) rfl ?_
                refine hw_get (v := .ref (base + 170)) (aX12_means 148 rfl) wf_RX12_169 (c121 hS) (s121 hS) (by decide) (congrArg (fun r => va_rf (h_rf base r)) (r121_97 hF)) ?_
                refine xw_iload (aX12_means 149 rfl) rfl ?_
                obtain ⟨x556, h557⟩ : ∃ y, FLv502 170 (y4).toNatClampNeg = y := ⟨_, rfl⟩
                have h557l := congrArg Int64.toInt h557
                have := l_rng x556
                refine hw_lald (v := x556) (aX12_means 150 rfl) (c170 hS) (s170 hS) (h_in rfl (by omega) (by omega)) (show FLv502 170 (y4).toNatClampNeg = x556 from h557) ?_
                refine hv_last (k := (y4).toNatClampNeg) (aX12_means 151 rfl) (c144 hS) (s144 hS) (h_in rfl (by omega) (by omega)) rfl (fun FL558 u559 => ?_)
                have rl560 : rl_h 2 (FI547 136) (FL558 137) (FI547 138) := by rw [show FL558 137 = FLv502 137 from up_row u559 (by decide) rfl]; exact rl550
                have rl561 : rl_t (FI547 152) (FL558 153) := by rw [show FL558 153 = FLv502 153 from up_row u559 (by decide) rfl]; exact rl551
                have rl562 : rl_m (FI547 169) (FL558 170) := by rw [show FL558 170 = FLv502 170 from up_row u559 (by decide) rfl]; exact rl552
                have rl563 : rl_h 32 (FI547 130) (FL558 131) (FI547 134) := by rw [show FL558 131 = FLv502 131 from up_row u559 (by decide) rfl]; exact rl553
                have rl564 : rl_v (FI547 121 74) (FI547 152) (FL558 153) (FI547 156) (FI547 157) := by rw [show FL558 153 = FLv502 153 from up_row u559 (by decide) rfl]; exact rl554
                have hmm := rl562 (y4).toNatClampNeg; rw [show FI547 169 (y4).toNatClampNeg = x545 from (up_c u548 (by decide) (h546)), show FL558 170 (y4).toNatClampNeg = x556 from (up_c u559 (by decide) (h557))] at hmm
                have rl565 : rl_p (FI547 143) (FL558 144) := by rw [show FI547 143 = va_up (FIv501 143) ((y4).toNatClampNeg) (x545) from (up_va u548 (rfl)), show FL558 144 = va_up (FLv502 144) ((y4).toNatClampNeg) (x556) from (up_va u559 (rfl))]; exact rl_p_up rl521 (by omega) (by omega)
                refine hw_aloadn (aX12_means 152 rfl) rfl ?_
                refine hw_get (v := .ref (base + 145)) (aX12_means 153 rfl) wf_RX12_90 (c121 hS) (s121 hS) (by decide) (congrArg (fun r => va_rf (h_rf base r)) (r121_50 hF)) ?_
                refine xw_iload (aX12_means 154 rfl) rfl ?_
                refine hw_aloadn (aX12_means 155 rfl) rfl ?_
                refine hw_get (v := .ref (base + 171)) (aX12_means 156 rfl) wf_RX12_172 (c121 hS) (s121 hS) (by decide) (congrArg (fun r => va_rf (h_rf base r)) (r121_98 hF)) ?_
                refine xw_iload (aX12_means 157 rfl) rfl ?_
                obtain ⟨x566, h567⟩ : ∃ y, FI547 171 (y4).toNatClampNeg = y := ⟨_, rfl⟩
                have h567l := congrArg Int32.toInt h567
                have := i_rng x566
                refine hw_iald (v := x566) (aX12_means 158 rfl) (c171 hS) (s171 hS) (h_in rfl (by omega) (by omega)) (show FI547 171 (y4).toNatClampNeg = x566 from h567) ?_
                refine hv_iast (k := (y4).toNatClampNeg) (aX12_means 159 rfl) (c145 hS) (s145 hS) (h_in rfl (by omega) (by omega)) rfl (fun FI568 u569 => ?_)
                have rl570 : rl_b (FI568 139) (FI568 140) (FI568 141) := by rw [show FI568 139 = FI547 139 from up_row u569 (by decide) rfl, show FI568 140 = FI547 140 from up_row u569 (by decide) rfl, show FI568 141 = FI547 141 from up_row u569 (by decide) rfl]; exact rl549
                have rl571 : rl_h 2 (FI568 136) (FL558 137) (FI568 138) := by rw [show FI568 136 = FI547 136 from up_row u569 (by decide) rfl, show FI568 138 = FI547 138 from up_row u569 (by decide) rfl]; exact rl560
                have rl572 : rl_t (FI568 152) (FL558 153) := by rw [show FI568 152 = FI547 152 from up_row u569 (by decide) rfl]; exact rl561
                have rl573 : rl_m (FI568 169) (FL558 170) := by rw [show FI568 169 = FI547 169 from up_row u569 (by decide) rfl]; exact rl562
                have rl574 : rl_h 32 (FI568 130) (FL558 131) (FI568 134) := by rw [show FI568 130 = FI547 130 from up_row u569 (by decide) rfl, show FI568 134 = FI547 134 from up_row u569 (by decide) rfl]; exact rl563
                have rl575 : rl_v (FI568 121 74) (FI568 152) (FL558 153) (FI568 156) (FI568 157) := by rw [show FI568 152 = FI547 152 from up_row u569 (by decide) rfl, show FI568 156 = FI547 156 from up_row u569 (by decide) rfl, show FI568 157 = FI547 157 from up_row u569 (by decide) rfl, show FI568 121 74 = FI547 121 74 from up_c u569 (by decide) rfl]; exact rl564
                have rl576 : rl_p (FI568 143) (FL558 144) := by rw [show FI568 143 = FI547 143 from up_row u569 (by decide) rfl]; exact rl565
                have hI577 : g_I FI568 := gU_F hI555 u569 rfl
                refine hw_aloadn (aX12_means 160 rfl) rfl ?_
                refine hw_get (v := .ref (base + 146)) (aX12_means 161 rfl) wf_RX12_93 (c121 hS) (s121 hS) (by decide) (congrArg (fun r => va_rf (h_rf base r)) (r121_51 hF)) ?_
                refine xw_iload (aX12_means 162 rfl) rfl ?_
                refine hw_ic (v := (0 : Int32)) (aX12_means 163 rfl) (by decide) ?_
                refine hv_iast (k := (y4).toNatClampNeg) (aX12_means 164 rfl) (c146 hS) (s146 hS) (h_in rfl (by omega) (by omega)) rfl (fun FI578 u579 => ?_)
                have rl580 : rl_b (FI578 139) (FI578 140) (FI578 141) := by rw [show FI578 139 = FI568 139 from up_row u579 (by decide) rfl, show FI578 140 = FI568 140 from up_row u579 (by decide) rfl, show FI578 141 = FI568 141 from up_row u579 (by decide) rfl]; exact rl570
                have rl581 : rl_h 2 (FI578 136) (FL558 137) (FI578 138) := by rw [show FI578 136 = FI568 136 from up_row u579 (by decide) rfl, show FI578 138 = FI568 138 from up_row u579 (by decide) rfl]; exact rl571
                have rl582 : rl_t (FI578 152) (FL558 153) := by rw [show FI578 152 = FI568 152 from up_row u579 (by decide) rfl]; exact rl572
                have rl583 : rl_m (FI578 169) (FL558 170) := by rw [show FI578 169 = FI568 169 from up_row u579 (by decide) rfl]; exact rl573
                have rl584 : rl_h 32 (FI578 130) (FL558 131) (FI578 134) := by rw [show FI578 130 = FI568 130 from up_row u579 (by decide) rfl, show FI578 134 = FI568 134 from up_row u579 (by decide) rfl]; exact rl574
                have rl585 : rl_v (FI578 121 74) (FI578 152) (FL558 153) (FI578 156) (FI578 157) := by rw [show FI578 152 = FI568 152 from up_row u579 (by decide) rfl, show FI578 156 = FI568 156 from up_row u579 (by decide) rfl, show FI578 157 = FI568 157 from up_row u579 (by decide) rfl, show FI578 121 74 = FI568 121 74 from up_c u579 (by decide) rfl]; exact rl575
                have rl586 : rl_p (FI578 143) (FL558 144) := by rw [show FI578 143 = FI568 143 from up_row u579 (by decide) rfl]; exact rl576
                have hI587 : g_I FI578 := gU_146 hI577 u579 (by have := ((by decide : (0 : Int32).toInt = 0) : ((0 : Int32)).toInt = 0); omega) (by have := ((by decide : (0 : Int32).toInt = 0) : ((0 : Int32)).toInt = 0); omega)
                refine hw_aloadn (aX12_means 165 rfl) rfl ?_
                refine hw_get (v := .ref (base + 169)) (aX12_means 166 rfl) wf_RX12_166 (c121 hS) (s121 hS) (by decide) (congrArg (fun r => va_rf (h_rf base r)) (r121_96 hF)) ?_
                refine xw_iload (aX12_means 167 rfl) rfl ?_
                refine hw_iald (v := x545) (aX12_means 168 rfl) (c169 hS) (s169 hS) (h_in rfl (by omega) (by omega)) (show FI578 169 (y4).toNatClampNeg = x545 from (up_c u579 (by decide) ((up_c u569 (by decide) ((up_c u548 (by decide) (h546))))))) ?_
                refine hw_ic (v := (4 : Int32)) (aX12_means 169 rfl) (by decide) ?_
                refine hw_icne (tgt := 353) (aX12_means 170 rfl) (by decide) rfl (by decide : (4 : Int32).toInt = 4) (fun cd588 => ?_) (fun cd588 => ?_)
                · obtain ⟨x589, q591⟩ : ∃ y : Int32, (y4) + Int32.ofInt (1) = y := ⟨_, rfl⟩
                  have e590 : (x589).toInt = (y4).toInt + (1) := by rw [← q591]; exact i_add rfl (by decide) (by omega) (by omega)
                  refine xw_iinc (L2 := [(4, .int (x589)), (0, .ref (base + 121))]) (aX12_means 199 rfl) rfl (by decide) (by rw [q591]; rfl) ?_
                  refine xw_goto (tgt := 233) (aX12_means 200 rfl) (by decide) ?_
                  exact hw_L (ih (x589) FI578 FL558 (gf_a (gf_a (gf_a fr503 u548 (by decide)) u569 (by decide)) u579 (by decide)) (gf_a fr504 u559 (by decide)) hI587 (show FI578 121 0 = (0 : Int32) from (up_c u579 (by decide) ((up_c u569 (by decide) ((up_c u548 (by decide) (kp506))))))) (show FI578 121 74 = x1 from (up_c u579 (by decide) ((up_c u569 (by decide) ((up_c u548 (by decide) (kp507))))))) (show FI578 121 94 = g228 from (up_c u579 (by decide) ((up_c u569 (by decide) ((up_c u548 (by decide) (kp508))))))) (show FI578 156 (a1).toNatClampNeg = x87 from (up_c u579 (by decide) ((up_c u569 (by decide) ((up_c u548 (by decide) (kp509))))))) (show FI578 157 (a1).toNatClampNeg = x27 from (up_c u579 (by decide) ((up_c u569 (by decide) ((up_c u548 (by decide) (kp510))))))) (show FI578 121 31 = (0 : Int32) from (up_c u579 (by decide) ((up_c u569 (by decide) ((up_c u548 (by decide) (kp511))))))) (show FI578 121 32 = (0 : Int32) from (up_c u579 (by decide) ((up_c u569 (by decide) ((up_c u548 (by decide) (kp512))))))) (show FI578 121 93 = x475 from (up_c u579 (by decide) ((up_c u569 (by decide) ((up_c u548 (by decide) (kp513))))))) (show FI578 121 46 = g228 from (up_c u579 (by decide) ((up_c u569 (by decide) ((up_c u548 (by decide) (kp514))))))) (show FI578 121 95 = x488 from (up_c u579 (by decide) ((up_c u569 (by decide) ((up_c u548 (by decide) (kp515))))))) (show FI578 121 47 = x488 from (up_c u579 (by decide) ((up_c u569 (by decide) ((up_c u548 (by decide) (kp516))))))) (show rl_b (FI578 139) (FI578 140) (FI578 141) from rl580) (show rl_h 2 (FI578 136) (FL558 137) (FI578 138) from rl581) (show rl_t (FI578 152) (FL558 153) from rl582) (show rl_m (FI578 169) (FL558 170) from rl583) (show rl_p (FI578 143) (FL558 144) from rl586) (show rl_h 32 (FI578 130) (FL558 131) (FI578 134) from rl584) (show rl_v (FI578 121 74) (FI578 152) (FL558 153) (FI578 156) (FI578 157) from rl585) (by have := (e590 : (x589).toInt = (y4).toInt + (1)); omega) (by have := (e590 : (x589).toInt = (y4).toInt + (1)); have := congrArg Int32.toInt (show FI578 121 94 = g228 from (up_c u579 (by decide) ((up_c u569 (by decide) ((up_c u548 (by decide) (kp508))))))); omega) (show FI578 152 = FI 152 from (up_row u579 (by decide) ((up_row u569 (by decide) ((up_row u548 (by decide) (rw526))))))) (show FL558 153 = FL 153 from (up_row u559 (by decide) (rw527))) (by have := (e590 : (x589).toInt = (y4).toInt + (1)); have := congrArg Int32.toInt (show FI578 121 94 = g228 from (up_c u579 (by decide) ((up_c u569 (by decide) ((up_c u548 (by decide) (kp508))))))); omega)) ⟨rfl, rfl, trivial⟩
                · refine hw_ic (v := (0 : Int32)) (aX12_means 171 rfl) (by decide) ?_
                  refine xw_istore (L2 := [(5, .int ((0 : Int32))), (4, .int (y4)), (0, .ref (base + 121))]) (aX12_means 172 rfl) (by decide) rfl ?_
                  have lp620 : ∀ (m : Nat) (y5 : Int32) (FIv592 : Nat → Nat → Int32), (g_fr n SH [(121, 0), (121, 29), (121, 30), (121, 31), (121, 32), (121, 33), (121, 34), (121, 37), (121, 38), (121, 46), (121, 47), (121, 53), (121, 54), (121, 55), (121, 56), (121, 57), (121, 90), (121, 91), (121, 92), (121, 93), (121, 94), (121, 95), (121, 101), (121, 104)] [128, 129, 130, 132, 133, 134, 135, 136, 138, 139, 140, 141, 142, 143, 145, 146, 147, 165, 166, 169, 171, 172, 174, 175] [] FI FIv592) → (g_I FIv592) → (FIv592 121 0 = (0 : Int32)) → (FIv592 121 74 = x1) → (FIv592 121 94 = g228) → (FIv592 156 (a1).toNatClampNeg = x87) → (FIv592 157 (a1).toNatClampNeg = x27) → (FIv592 121 31 = (0 : Int32)) → (FIv592 121 32 = (0 : Int32)) → (FIv592 121 93 = x475) → (FIv592 121 46 = g228) → (FIv592 121 95 = x488) → (FIv592 121 47 = x488) → (FIv592 169 (y4).toNatClampNeg = x545) → (FIv592 143 (y4).toNatClampNeg = x545) → (FIv592 171 (y4).toNatClampNeg = x566) → (FIv592 145 (y4).toNatClampNeg = x566) → (FIv592 146 (y4).toNatClampNeg = (0 : Int32)) → (rl_b (FIv592 139) (FIv592 140) (FIv592 141)) → (rl_h 2 (FIv592 136) (FL558 137) (FIv592 138)) → (rl_t (FIv592 152) (FL558 153)) → (rl_m (FIv592 169) (FL558 170)) → (rl_h 32 (FIv592 130) (FL558 131) (FIv592 134)) → (rl_v (FIv592 121 74) (FIv592 152) (FL558 153) (FIv592 156) (FIv592 157)) → (rl_p (FIv592 143) (FL558 144)) → (0 ≤ (y5).toInt ∧ (y5).toInt ≤ 64) → (FIv592 152 = FI 152) → 64 - (y5).toInt < m → hw zk base (d + 10) none 253 306 [(5, .int (y5)), (4, .int (y4)), (0, .ref (base + 121))] [] (n, sl, SH, FIv592, FL558, FR) (h_I (fun r s => ∃ FI' FL', s = (n, sl, SH, FI', FL', FR) ∧ g_I FI' ∧ g_fr n SH [(121, 0), (121, 29), (121, 30), (121, 31), (121, 32), (121, 33), (121, 34), (121, 37), (121, 38), (121, 46), (121, 47), (121, 53), (121, 54), (121, 55), (121, 56), (121, 57), (121, 90), (121, 91), (121, 92), (121, 93), (121, 94), (121, 95), (121, 101), (121, 104)] [128, 129, 130, 132, 133, 134, 135, 136, 138, 139, 140, 141, 142, 143, 145, 146, 147, 165, 166, 169, 171, 172, 174, 175] [] FI FI' ∧ g_fr n SH [(121, 35), (121, 36), (121, 39)] [127, 131, 137, 144, 170, 173] [] FL FL' ∧ (rl_h 2 (FI' 136) (FL' 137) (FI' 138)) ∧ (rl_h 32 (FI' 130) (FL' 131) (FI' 134)) ∧ (rl_b (FI' 139) (FI' 140) (FI' 141)) ∧ (rl_m (FI' 169) (FL' 170)) ∧ (rl_p (FI' 143) (FL' 144)))) := by
                    intro m
                    induction m with
                    | zero => intro y5 FIv592 fr593 hI594 kp595 kp596 kp597 kp598 kp599 kp600 kp601 kp602 kp603 kp604 kp605 kp606 kp607 kp608 kp609 kp610 rl611 rl612 rl613 rl614 rl615 rl616 rl617 iv618 rw619 hm; omega
                    | succ m ih306 =>
                      intro y5 FIv592 fr593 hI594 kp595 kp596 kp597 kp598 kp599 kp600 kp601 kp602 kp603 kp604 kp605 kp606 kp607 kp608 kp609 kp610 rl611 rl612 rl613 rl614 rl615 rl616 rl617 iv618 rw619 hm
                      have rg_y5 := i_rng y5
                      have := congrArg Int32.toInt kp595
                      have := congrArg Int32.toInt kp596
                      have := congrArg Int32.toInt kp597
                      have := congrArg Int32.toInt kp598
                      have := congrArg Int32.toInt kp599
                      have := congrArg Int32.toInt kp600
                      have := congrArg Int32.toInt kp601
                      have := congrArg Int32.toInt kp602
                      have := congrArg Int32.toInt kp603
                      have := congrArg Int32.toInt kp604
                      have := congrArg Int32.toInt kp605
                      have := congrArg Int32.toInt kp606
                      have := congrArg Int32.toInt kp607
                      have := congrArg Int32.toInt kp608
                      have := congrArg Int32.toInt kp609
                      have := congrArg Int32.toInt kp610
                      refine xw_iload (aX12_means 173 rfl) rfl ?_
                      refine xw_i2l (aX12_means 174 rfl) ?_
                      refine hw_tle (A := (y5).toInt) (i_2l rfl) (fun x621 e622 => ?_)
                      refine hw_aloadn (aX12_means 175 rfl) rfl ?_
                      refine hw_get (v := .ref (base + 170)) (aX12_means 176 rfl) wf_RX12_169 (c121 hS) (s121 hS) (by decide) (congrArg (fun r => va_rf (h_rf base r)) (r121_97 hF)) ?_
                      refine xw_iload (aX12_means 177 rfl) rfl ?_
                      refine hw_lald (v := x556) (aX12_means 178 rfl) (c170 hS) (s170 hS) (h_in rfl (by omega) (by omega)) (show FL558 170 (y4).toNatClampNeg = x556 from (up_c u559 (by decide) (h557))) ?_
                      refine hw_lcge (tgt := 353) (aX12_means 179 rfl) (aX12_means 180 rfl) (by decide) e622 rfl (fun cd623 => ?_) (fun cd623 => ?_)
                      · obtain ⟨x624, q626⟩ : ∃ y : Int32, (y4) + Int32.ofInt (1) = y := ⟨_, rfl⟩
                        have e625 : (x624).toInt = (y4).toInt + (1) := by rw [← q626]; exact i_add rfl (by decide) (by omega) (by omega)
                        refine xw_iinc (L2 := [(4, .int (x624)), (5, .int (y5)), (0, .ref (base + 121))]) (aX12_means 199 rfl) rfl (by decide) (by rw [q626]; rfl) ?_
                        refine xw_goto (tgt := 233) (aX12_means 200 rfl) (by decide) ?_
                        exact hw_L (ih (x624) FIv592 FL558 fr593 (gf_a fr504 u559 (by decide)) hI594 (show FIv592 121 0 = (0 : Int32) from kp595) (show FIv592 121 74 = x1 from kp596) (show FIv592 121 94 = g228 from kp597) (show FIv592 156 (a1).toNatClampNeg = x87 from kp598) (show FIv592 157 (a1).toNatClampNeg = x27 from kp599) (show FIv592 121 31 = (0 : Int32) from kp600) (show FIv592 121 32 = (0 : Int32) from kp601) (show FIv592 121 93 = x475 from kp602) (show FIv592 121 46 = g228 from kp603) (show FIv592 121 95 = x488 from kp604) (show FIv592 121 47 = x488 from kp605) (show rl_b (FIv592 139) (FIv592 140) (FIv592 141) from rl611) (show rl_h 2 (FIv592 136) (FL558 137) (FIv592 138) from rl612) (show rl_t (FIv592 152) (FL558 153) from rl613) (show rl_m (FIv592 169) (FL558 170) from rl614) (show rl_p (FIv592 143) (FL558 144) from rl617) (show rl_h 32 (FIv592 130) (FL558 131) (FIv592 134) from rl615) (show rl_v (FIv592 121 74) (FIv592 152) (FL558 153) (FIv592 156) (FIv592 157) from rl616) (by have := (e625 : (x624).toInt = (y4).toInt + (1)); omega) (by have := (e625 : (x624).toInt = (y4).toInt + (1)); have := congrArg Int32.toInt (show FIv592 121 94 = g228 from kp597); omega) (show FIv592 152 = FI 152 from rw619) (show FL558 153 = FL 153 from (up_row u559 (by decide) (rw527))) (by have := (e625 : (x624).toInt = (y4).toInt + (1)); have := congrArg Int32.toInt (show FIv592 121 94 = g228 from kp597); omega)) ⟨rfl, rfl, trivial⟩
                      · refine hw_aloadn (aX12_means 181 rfl) rfl ?_
                        refine hw_get (v := .ref (base + 147)) (aX12_means 182 rfl) wf_RX12_96 (c121 hS) (s121 hS) (by decide) (congrArg (fun r => va_rf (h_rf base r)) (r121_52 hF)) ?_
                        refine hw_sp (v := (600 : Int32)) (aX12_means 183 rfl) (by decide) ?_
                        refine xw_iload (aX12_means 184 rfl) rfl ?_
                        refine xw_imul (aX12_means 185 rfl) ?_
                        refine hw_tie (A := (600) * ((y4).toInt)) (i_mul (by decide : (600 : Int32).toInt = 600) rfl (by omega) (by omega)) (fun x627 e628 => ?_)
                        refine xw_iload (aX12_means 186 rfl) rfl ?_
                        refine xw_iadd (aX12_means 187 rfl) ?_
                        refine hw_tie (A := ((600) * ((y4).toInt)) + ((y5).toInt)) (i_add e628 rfl (by omega) (by omega)) (fun x629 e630 => ?_)
                        refine hw_aloadn (aX12_means 188 rfl) rfl ?_
                        refine hw_get (v := .ref (base + 172)) (aX12_means 189 rfl) wf_RX12_175 (c121 hS) (s121 hS) (by decide) (congrArg (fun r => va_rf (h_rf base r)) (r121_99 hF)) ?_
                        refine hw_bp (v := (64 : Int32)) (aX12_means 190 rfl) (by decide) ?_
                        refine xw_iload (aX12_means 191 rfl) rfl ?_
                        refine xw_imul (aX12_means 192 rfl) ?_
                        refine hw_tie (A := (64) * ((y4).toInt)) (i_mul (by decide : (64 : Int32).toInt = 64) rfl (by omega) (by omega)) (fun x631 e632 => ?_)
                        refine xw_iload (aX12_means 193 rfl) rfl ?_
                        refine xw_iadd (aX12_means 194 rfl) ?_
                        refine hw_tie (A := ((64) * ((y4).toInt)) + ((y5).toInt)) (i_add e632 rfl (by omega) (by omega)) (fun x633 e634 => ?_)
                        obtain ⟨x635, h636⟩ : ∃ y, FIv592 172 (x633).toNatClampNeg = y := ⟨_, rfl⟩
                        have h636l := congrArg Int32.toInt h636
                        have := i_rng x635
                        refine hw_iald (v := x635) (aX12_means 195 rfl) (c172 hS) (s172 hS) (h_in e634 (by omega) (by omega)) (show FIv592 172 (x633).toNatClampNeg = x635 from h636) ?_
                        refine hv_iast (k := (x629).toNatClampNeg) (aX12_means 196 rfl) (c147 hS) (s147 hS) (h_in e630 (by omega) (by omega)) rfl (fun FI637 u638 => ?_)
                        have rl639 : rl_b (FI637 139) (FI637 140) (FI637 141) := by rw [show FI637 139 = FIv592 139 from up_row u638 (by decide) rfl, show FI637 140 = FIv592 140 from up_row u638 (by decide) rfl, show FI637 141 = FIv592 141 from up_row u638 (by decide) rfl]; exact rl611
                        have rl640 : rl_h 2 (FI637 136) (FL558 137) (FI637 138) := by rw [show FI637 136 = FIv592 136 from up_row u638 (by decide) rfl, show FI637 138 = FIv592 138 from up_row u638 (by decide) rfl]; exact rl612
                        have rl641 : rl_t (FI637 152) (FL558 153) := by rw [show FI637 152 = FIv592 152 from up_row u638 (by decide) rfl]; exact rl613
                        have rl642 : rl_m (FI637 169) (FL558 170) := by rw [show FI637 169 = FIv592 169 from up_row u638 (by decide) rfl]; exact rl614
                        have rl643 : rl_h 32 (FI637 130) (FL558 131) (FI637 134) := by rw [show FI637 130 = FIv592 130 from up_row u638 (by decide) rfl, show FI637 134 = FIv592 134 from up_row u638 (by decide) rfl]; exact rl615
                        have rl644 : rl_v (FI637 121 74) (FI637 152) (FL558 153) (FI637 156) (FI637 157) := by rw [show FI637 152 = FIv592 152 from up_row u638 (by decide) rfl, show FI637 156 = FIv592 156 from up_row u638 (by decide) rfl, show FI637 157 = FIv592 157 from up_row u638 (by decide) rfl, show FI637 121 74 = FIv592 121 74 from up_c u638 (by decide) rfl]; exact rl616
                        have rl645 : rl_p (FI637 143) (FL558 144) := by rw [show FI637 143 = FIv592 143 from up_row u638 (by decide) rfl]; exact rl617
                        have hI646 : g_I FI637 := gU_F hI594 u638 rfl
                        obtain ⟨x647, q649⟩ : ∃ y : Int32, (y5) + Int32.ofInt (1) = y := ⟨_, rfl⟩
                        have e648 : (x647).toInt = (y5).toInt + (1) := by rw [← q649]; exact i_add rfl (by decide) (by omega) (by omega)
                        refine xw_iinc (L2 := [(5, .int (x647)), (4, .int (y4)), (0, .ref (base + 121))]) (aX12_means 197 rfl) rfl (by decide) (by rw [q649]; rfl) ?_
                        refine xw_goto (tgt := 306) (aX12_means 198 rfl) (by decide) ?_
                        exact hw_L (ih306 (x647) FI637 (gf_a fr593 u638 (by decide)) hI646 (show FI637 121 0 = (0 : Int32) from (up_c u638 (by decide) (kp595))) (show FI637 121 74 = x1 from (up_c u638 (by decide) (kp596))) (show FI637 121 94 = g228 from (up_c u638 (by decide) (kp597))) (show FI637 156 (a1).toNatClampNeg = x87 from (up_c u638 (by decide) (kp598))) (show FI637 157 (a1).toNatClampNeg = x27 from (up_c u638 (by decide) (kp599))) (show FI637 121 31 = (0 : Int32) from (up_c u638 (by decide) (kp600))) (show FI637 121 32 = (0 : Int32) from (up_c u638 (by decide) (kp601))) (show FI637 121 93 = x475 from (up_c u638 (by decide) (kp602))) (show FI637 121 46 = g228 from (up_c u638 (by decide) (kp603))) (show FI637 121 95 = x488 from (up_c u638 (by decide) (kp604))) (show FI637 121 47 = x488 from (up_c u638 (by decide) (kp605))) (show FI637 169 (y4).toNatClampNeg = x545 from (up_c u638 (by decide) (kp606))) (show FI637 143 (y4).toNatClampNeg = x545 from (up_c u638 (by decide) (kp607))) (show FI637 171 (y4).toNatClampNeg = x566 from (up_c u638 (by decide) (kp608))) (show FI637 145 (y4).toNatClampNeg = x566 from (up_c u638 (by decide) (kp609))) (show FI637 146 (y4).toNatClampNeg = (0 : Int32) from (up_c u638 (by decide) (kp610))) (show rl_b (FI637 139) (FI637 140) (FI637 141) from rl639) (show rl_h 2 (FI637 136) (FL558 137) (FI637 138) from rl640) (show rl_t (FI637 152) (FL558 153) from rl641) (show rl_m (FI637 169) (FL558 170) from rl642) (show rl_h 32 (FI637 130) (FL558 131) (FI637 134) from rl643) (show rl_v (FI637 121 74) (FI637 152) (FL558 153) (FI637 156) (FI637 157) from rl644) (show rl_p (FI637 143) (FL558 144) from rl645) (by have := (e648 : (x647).toInt = (y5).toInt + (1)); omega) (show FI637 152 = FI 152 from (up_row u638 (by decide) (rw619))) (by have := (e648 : (x647).toInt = (y5).toInt + (1)); omega)) ⟨rfl, rfl, rfl, trivial⟩
                  exact hw_L (lp620 ((64 - 0 : Int).toNat + 1) ((0 : Int32)) FI578 (gf_a (gf_a (gf_a fr503 u548 (by decide)) u569 (by decide)) u579 (by decide)) hI587 (show FI578 121 0 = (0 : Int32) from (up_c u579 (by decide) ((up_c u569 (by decide) ((up_c u548 (by decide) (kp506))))))) (show FI578 121 74 = x1 from (up_c u579 (by decide) ((up_c u569 (by decide) ((up_c u548 (by decide) (kp507))))))) (show FI578 121 94 = g228 from (up_c u579 (by decide) ((up_c u569 (by decide) ((up_c u548 (by decide) (kp508))))))) (show FI578 156 (a1).toNatClampNeg = x87 from (up_c u579 (by decide) ((up_c u569 (by decide) ((up_c u548 (by decide) (kp509))))))) (show FI578 157 (a1).toNatClampNeg = x27 from (up_c u579 (by decide) ((up_c u569 (by decide) ((up_c u548 (by decide) (kp510))))))) (show FI578 121 31 = (0 : Int32) from (up_c u579 (by decide) ((up_c u569 (by decide) ((up_c u548 (by decide) (kp511))))))) (show FI578 121 32 = (0 : Int32) from (up_c u579 (by decide) ((up_c u569 (by decide) ((up_c u548 (by decide) (kp512))))))) (show FI578 121 93 = x475 from (up_c u579 (by decide) ((up_c u569 (by decide) ((up_c u548 (by decide) (kp513))))))) (show FI578 121 46 = g228 from (up_c u579 (by decide) ((up_c u569 (by decide) ((up_c u548 (by decide) (kp514))))))) (show FI578 121 95 = x488 from (up_c u579 (by decide) ((up_c u569 (by decide) ((up_c u548 (by decide) (kp515))))))) (show FI578 121 47 = x488 from (up_c u579 (by decide) ((up_c u569 (by decide) ((up_c u548 (by decide) (kp516))))))) (show FI578 169 (y4).toNatClampNeg = x545 from (up_c u579 (by decide) ((up_c u569 (by decide) ((up_c u548 (by decide) (h546))))))) (show FI578 143 (y4).toNatClampNeg = x545 from (up_c u579 (by decide) ((up_c u569 (by decide) (up_eq u548))))) (show FI578 171 (y4).toNatClampNeg = x566 from (up_c u579 (by decide) ((up_c u569 (by decide) (h567))))) (show FI578 145 (y4).toNatClampNeg = x566 from (up_c u579 (by decide) (up_eq u569))) (show FI578 146 (y4).toNatClampNeg = (0 : Int32) from up_eq u579) (show rl_b (FI578 139) (FI578 140) (FI578 141) from rl580) (show rl_h 2 (FI578 136) (FL558 137) (FI578 138) from rl581) (show rl_t (FI578 152) (FL558 153) from rl582) (show rl_m (FI578 169) (FL558 170) from rl583) (show rl_h 32 (FI578 130) (FL558 131) (FI578 134) from rl584) (show rl_v (FI578 121 74) (FI578 152) (FL558 153) (FI578 156) (FI578 157) from rl585) (show rl_p (FI578 143) (FL558 144) from rl586) (by have := ((by decide : (0 : Int32).toInt = 0) : ((0 : Int32)).toInt = 0); omega) (show FI578 152 = FI 152 from (up_row u579 (by decide) ((up_row u569 (by decide) ((up_row u548 (by decide) (rw526))))))) (by have := ((by decide : (0 : Int32).toInt = 0) : ((0 : Int32)).toInt = 0); omega)) ⟨rfl, rfl, rfl, trivial⟩
          exact hw_L (lp528 (((g228).toInt - 0 : Int).toNat + 1) ((0 : Int32)) FI491 FLj232 (gf_f (gf_f (gf_f (gf_f fr224 u456 (by decide)) u466 (by decide)) u479 (by decide)) u492 (by decide)) fr233 hI500 (show FI491 121 0 = (0 : Int32) from (up_k u492 (by decide) ((up_k u479 (by decide) ((up_k u466 (by decide) ((up_k u456 (by decide) (kp226))))))))) (show FI491 121 74 = x1 from (up_k u492 (by decide) ((up_k u479 (by decide) ((up_k u466 (by decide) ((up_k u456 (by decide) (kp227))))))))) (show FI491 121 94 = g228 from (up_k u492 (by decide) ((up_k u479 (by decide) ((up_k u466 (by decide) ((up_k u456 (by decide) (kp229))))))))) (show FI491 156 (a1).toNatClampNeg = x87 from (up_c u492 (by decide) ((up_c u479 (by decide) ((up_c u466 (by decide) ((up_c u456 (by decide) (kp230))))))))) (show FI491 157 (a1).toNatClampNeg = x27 from (up_c u492 (by decide) ((up_c u479 (by decide) ((up_c u466 (by decide) ((up_c u456 (by decide) (kp231))))))))) (show FI491 121 31 = (0 : Int32) from (up_k u492 (by decide) ((up_k u479 (by decide) ((up_k u466 (by decide) (up_eq u456))))))) (show FI491 121 32 = (0 : Int32) from (up_k u492 (by decide) ((up_k u479 (by decide) (up_eq u466))))) (show FI491 121 93 = x475 from (up_k u492 (by decide) ((up_k u479 (by decide) (h476))))) (show FI491 121 46 = g228 from (up_k u492 (by decide) (up_eq u479))) (show FI491 121 95 = x488 from (up_k u492 (by decide) (h489))) (show FI491 121 47 = x488 from up_eq u492) (show rl_b (FI491 139) (FI491 140) (FI491 141) from rl493) (show rl_h 2 (FI491 136) (FLj232 137) (FI491 138) from rl494) (show rl_t (FI491 152) (FLj232 153) from rl495) (show rl_m (FI491 169) (FLj232 170) from rl496) (show rl_p (FI491 143) (FLj232 144) from rl497) (show rl_h 32 (FI491 130) (FLj232 131) (FI491 134) from rl498) (show rl_v (FI491 121 74) (FI491 152) (FLj232 153) (FI491 156) (FI491 157) from rl499) (by have := ((by decide : (0 : Int32).toInt = 0) : ((0 : Int32)).toInt = 0); omega) (by have := ((by decide : (0 : Int32).toInt = 0) : ((0 : Int32)).toInt = 0); have := congrArg Int32.toInt (show FI491 121 94 = g228 from (up_k u492 (by decide) ((up_k u479 (by decide) ((up_k u466 (by decide) ((up_k u456 (by decide) (kp229))))))))); omega) (show FI491 152 = FI 152 from (up_row u492 (by decide) ((up_row u479 (by decide) ((up_row u466 (by decide) ((up_row u456 (by decide) (rw234))))))))) (show FLj232 153 = FL 153 from rw235) (by have := ((by decide : (0 : Int32).toInt = 0) : ((0 : Int32)).toInt = 0); have := congrArg Int32.toInt (show FI491 121 94 = g228 from (up_k u492 (by decide) ((up_k u479 (by decide) ((up_k u466 (by decide) ((up_k u456 (by decide) (kp229))))))))); omega)) ⟨rfl, rfl, trivial⟩
        · refine hw_aloadn (aX12_means 116 rfl) rfl ?_
          refine hw_aloadn (aX12_means 117 rfl) rfl ?_
          refine hw_get (v := .int (x475)) (aX12_means 118 rfl) wf_RX12_653 (c121 hS) (s121 hS) (by decide) (congrArg Value.int (show FI465 121 93 = x475 from h476)) ?_
          refine hw_ic (v := (0 : Int32)) (aX12_means 119 rfl) (by decide) ?_
          refine hw_callV (Bs := [.int (x475), .int ((0 : Int32))]) (rest := []) (aX12_means 120 rfl) wc_RX12_380 (by decide) rfl wi_yX12_tells wv_yX12_tells (c121 hS) (s121 hS) rfl rfl rfl (Nat.le_of_ble_eq_true rfl) (Nat.le_of_ble_eq_true rfl) (n_tells (d := d + 9) hS hF hI474 (x475) ((0 : Int32)) ) (fun v650 sv651 p652 => ?_)
          obtain ⟨r653, rfl, FI654, rfl, hI655, f656, t657⟩ := p652
          have rl658 : rl_b (FI654 139) (FI654 140) (FI654 141) := by rw [show FI654 139 = FI465 139 from gf_row f656 (c139 hS) (s139 hS) rfl rfl, show FI654 140 = FI465 140 from gf_row f656 (c140 hS) (s140 hS) rfl rfl, show FI654 141 = FI465 141 from gf_row f656 (c141 hS) (s141 hS) rfl rfl]; exact rl467
          have rl659 : rl_h 2 (FI654 136) (FLj232 137) (FI654 138) := by rw [show FI654 136 = FI465 136 from gf_row f656 (c136 hS) (s136 hS) rfl rfl, show FI654 138 = FI465 138 from gf_row f656 (c138 hS) (s138 hS) rfl rfl]; exact rl468
          have rl660 : rl_t (FI654 152) (FLj232 153) := by rw [show FI654 152 = FI465 152 from gf_row f656 (c152 hS) (s152 hS) rfl rfl]; exact rl469
          have rl661 : rl_m (FI654 169) (FLj232 170) := by rw [show FI654 169 = FI465 169 from gf_row f656 (c169 hS) (s169 hS) rfl rfl]; exact rl470
          have rl662 : rl_p (FI654 143) (FLj232 144) := by rw [show FI654 143 = FI465 143 from gf_row f656 (c143 hS) (s143 hS) rfl rfl]; exact rl471
          have rl663 : rl_h 32 (FI654 130) (FLj232 131) (FI654 134) := by rw [show FI654 130 = FI465 130 from gf_row f656 (c130 hS) (s130 hS) rfl rfl, show FI654 134 = FI465 134 from gf_row f656 (c134 hS) (s134 hS) rfl rfl]; exact rl472
          have rl664 : rl_v (FI654 121 74) (FI654 152) (FLj232 153) (FI654 156) (FI654 157) := by rw [show FI654 152 = FI465 152 from gf_row f656 (c152 hS) (s152 hS) rfl rfl, show FI654 156 = FI465 156 from gf_row f656 (c156 hS) (s156 hS) rfl rfl, show FI654 157 = FI465 157 from gf_row f656 (c157 hS) (s157 hS) rfl rfl, show FI654 121 74 = FI465 121 74 from gf_at f656 (c121 hS) (s121 hS) rfl rfl]; exact rl473
          have rg_r653 := i_rng r653
          show hw zk base _ _ _ _ _ [.int (r653)] _ _
          refine xw_iret (aX12_means 121 rfl) rfl rfl ?_
          exact ⟨r653, rfl, FI654, FLj232, rfl, hI655, (gf_tr ex_rf (gf_f (gf_f fr224 u456 (by decide)) u466 (by decide)) f656 rfl rfl rfl), fr233, (show rl_h 2 (FI654 136) (FLj232 137) (FI654 138) from rl659), (show rl_h 32 (FI654 130) (FLj232 131) (FI654 134) from rl663), (show rl_b (FI654 139) (FI654 140) (FI654 141) from rl658), (show rl_m (FI654 169) (FLj232 170) from rl661), (show rl_p (FI654 143) (FLj232 144) from rl662)⟩
      refine hw_ifne (tgt := 82) (aX12_means 45 rfl) (by decide) rfl (fun cd665 => ?_) (fun cd665 => ?_)
      · have hvr := rl84 (a1).toNatClampNeg (by rw [i_cl (x := a1) rfl]; have := congrArg Int32.toInt (show FI77 121 74 = x1 from (up_c u78 (by decide) ((up_c u61 (by decide) ((up_k u51 (by decide) ((up_k u41 (by decide) ((up_k u31 (by decide) ((up_k u18 (by decide) ((up_k u5 (by decide) (h2))))))))))))))); omega)
        rw [show FI77 156 (a1).toNatClampNeg = x87 from h88, show FI77 157 (a1).toNatClampNeg = FI77 121 92 from ((up_c u78 (by decide) ((up_c u61 (by decide) ((up_c u51 (by decide) ((up_c u41 (by decide) ((up_c u31 (by decide) (h28))))))))))).trans ((up_c u78 (by decide) ((up_c u61 (by decide) ((up_k u51 (by decide) ((up_k u41 (by decide) (up_eq u31))))))))).symm] at hvr
        obtain ⟨q, hq, hgr⟩ : ∃ q, q ≤ 1001 ∧ gr_rws (kf (FI77 152)) (wf (FL69 153)) (x87).toInt.toNat (FI77 121 92).toInt.toNat q := by rcases hvr.2 with ⟨h, -⟩ | ⟨-, h⟩; { exfalso; omega }; { exact h }
        rw [show FI77 152 = FI 152 from (up_row u78 (by decide) ((up_row u61 (by decide) ((up_row u51 (by decide) ((up_row u41 (by decide) ((up_row u31 (by decide) ((up_row u18 (by decide) ((up_row u5 (by decide) (rfl)))))))))))))), show FL69 153 = FL 153 from (up_row u70 (by decide) (rfl))] at hgr
        refine hw_ic (v := (0 : Int32)) (aX12_means 50 rfl) (by decide) ?_
        refine xw_istore (L2 := [(4, .int ((0 : Int32))), (0, .ref (base + 121)), (1, .int (a1)), (2, .long (a2))]) (aX12_means 51 rfl) (by decide) rfl ?_
        refine hw_ic (v := (0 : Int32)) (aX12_means 52 rfl) (by decide) ?_
        refine xw_istore (L2 := [(5, .int ((0 : Int32))), (4, .int ((0 : Int32))), (0, .ref (base + 121)), (1, .int (a1)), (2, .long (a2))]) (aX12_means 53 rfl) (by decide) rfl ?_
        have lp687 : ∀ (m : Nat) (y5 : Int32) (y4 : Int32) (FIv666 : Nat → Nat → Int32) (FLv667 : Nat → Nat → Int64), (g_fr n SH [(121, 0), (121, 29), (121, 30), (121, 31), (121, 32), (121, 33), (121, 34), (121, 37), (121, 38), (121, 46), (121, 47), (121, 53), (121, 54), (121, 55), (121, 56), (121, 57), (121, 90), (121, 91), (121, 92), (121, 93), (121, 94), (121, 95), (121, 101), (121, 104)] [128, 129, 130, 132, 133, 134, 135, 136, 138, 139, 140, 141, 142, 143, 145, 146, 147, 165, 166, 169, 171, 172, 174, 175] [] FI FIv666) → (g_fr n SH [(121, 35), (121, 36), (121, 39)] [127, 131, 137, 144, 170, 173] [] FL FLv667) → (g_I FIv666) → (FIv666 121 74 = x1) → (FIv666 121 0 = (0 : Int32)) → (FIv666 157 (a1).toNatClampNeg = x27) → (FIv666 156 (a1).toNatClampNeg = x87) → (rl_t (FIv666 152) (FLv667 153)) → (rl_h 2 (FIv666 136) (FLv667 137) (FIv666 138)) → (rl_h 32 (FIv666 130) (FLv667 131) (FIv666 134)) → (rl_b (FIv666 139) (FIv666 140) (FIv666 141)) → (rl_p (FIv666 143) (FLv667 144)) → (rl_v (FIv666 121 74) (FIv666 152) (FLv667 153) (FIv666 156) (FIv666 157)) → (rl_m (FIv666 169) (FLv667 170)) → (0 ≤ (y4).toInt ∧ (y4).toInt ≤ 1) → (0 ≤ (y5).toInt ∧ (y5).toInt ≤ 8) → (1 ≤ (FIv666 121 94).toInt) → (gr_rws (kf (FI 152)) (wf (FL 153)) ((FIv666 156 (a1).toNatClampNeg).toInt - (y5).toInt).toNat ((FIv666 121 92).toInt).toNat q) → (FIv666 152 = FI 152) → (FLv667 153 = FL 153) → 8 - (y5).toInt < m → hw zk base (d + 10) none 253 88 [(5, .int (y5)), (4, .int (y4)), (0, .ref (base + 121)), (1, .int (a1)), (2, .long (a2))] [] (n, sl, SH, FIv666, FLv667, FR) (h_I (fun r s => ∃ FI' FL', s = (n, sl, SH, FI', FL', FR) ∧ g_I FI' ∧ g_fr n SH [(121, 0), (121, 29), (121, 30), (121, 31), (121, 32), (121, 33), (121, 34), (121, 37), (121, 38), (121, 46), (121, 47), (121, 53), (121, 54), (121, 55), (121, 56), (121, 57), (121, 90), (121, 91), (121, 92), (121, 93), (121, 94), (121, 95), (121, 101), (121, 104)] [128, 129, 130, 132, 133, 134, 135, 136, 138, 139, 140, 141, 142, 143, 145, 146, 147, 165, 166, 169, 171, 172, 174, 175] [] FI FI' ∧ g_fr n SH [(121, 35), (121, 36), (121, 39)] [127, 131, 137, 144, 170, 173] [] FL FL' ∧ (rl_h 2 (FI' 136) (FL' 137) (FI' 138)) ∧ (rl_h 32 (FI' 130) (FL' 131) (FI' 134)) ∧ (rl_b (FI' 139) (FI' 140) (FI' 141)) ∧ (rl_m (FI' 169) (FL' 170)) ∧ (rl_p (FI' 143) (FL' 144)))) := by
          intro m
          induction m with
          | zero => intro y5 y4 FIv666 FLv667 fr668 fr669 hI670 kp671 kp672 kp673 kp674 rl675 rl676 rl677 rl678 rl679 rl680 rl681 iv682 iv683 iv684 xi88_0 rw685 rw686 hm; omega
          | succ m ih =>
            intro y5 y4 FIv666 FLv667 fr668 fr669 hI670 kp671 kp672 kp673 kp674 rl675 rl676 rl677 rl678 rl679 rl680 rl681 iv682 iv683 iv684 xi88_0 rw685 rw686 hm
            have rg_y5 := i_rng y5
            have rg_y4 := i_rng y4
            have := congrArg Int32.toInt kp671
            have := congrArg Int32.toInt kp672
            have := congrArg Int32.toInt kp673
            have := congrArg Int32.toInt kp674
            obtain ⟨x688, h689⟩ : ∃ y, FIv666 121 94 = y := ⟨_, rfl⟩
            have h689l := congrArg Int32.toInt h689
            have b690 := gI_121_94 hI670; rw [h689] at b690
            refine xw_iload (aX12_means 54 rfl) rfl ?_
            refine hw_aloadn (aX12_means 55 rfl) rfl ?_
            refine hw_get (v := .ref (base + 156)) (aX12_means 56 rfl) wf_RX12_126 (c121 hS) (s121 hS) (by decide) (congrArg (fun r => va_rf (h_rf base r)) (r121_76 hF)) ?_
            refine xw_iloadn (aX12_means 57 rfl) rfl ?_
            refine hw_iald (v := x87) (aX12_means 58 rfl) (c156 hS) (s156 hS) (h_in rfl (by omega) (by omega)) (show FIv666 156 (a1).toNatClampNeg = x87 from kp674) ?_
            refine hw_icge (tgt := 187) (aX12_means 59 rfl) (by decide) rfl rfl (fun cd691 => ?_) (fun cd691 => ?_)
            · exact hw_L (j453 (x688) FIv666 FLv667 fr668 hI670 (show FIv666 121 0 = (0 : Int32) from kp672) (show FIv666 121 74 = x1 from kp671) (show FIv666 121 94 = x688 from h689) (by show 0 ≤ (x688).toInt ∧ (x688).toInt ≤ 8; omega) (show FIv666 156 (a1).toNatClampNeg = x87 from kp674) (show FIv666 157 (a1).toNatClampNeg = x27 from kp673) fr669 (show FIv666 152 = FI 152 from rw685) (show FLv667 153 = FL 153 from rw686) (show rl_b (FIv666 139) (FIv666 140) (FIv666 141) from rl678) (show rl_h 2 (FIv666 136) (FLv667 137) (FIv666 138) from rl676) (show rl_t (FIv666 152) (FLv667 153) from rl675) (show rl_m (FIv666 169) (FLv667 170) from rl681) (show rl_p (FIv666 143) (FLv667 144) from rl679) (show rl_h 32 (FIv666 130) (FLv667 131) (FIv666 134) from rl677) (show rl_v (FIv666 121 74) (FIv666 152) (FLv667 153) (FIv666 156) (FIv666 157) from rl680) (by show 1 ≤ (x688).toInt; omega)) ⟨rfl, trivial⟩
            · have h156 := congrArg Int32.toInt (show FIv666 156 (a1).toNatClampNeg = x87 from kp674)
              obtain ⟨k9, hk9⟩ : ∃ k, ((FIv666 156 (a1).toNatClampNeg).toInt - (y5).toInt).toNat = k + 1 := ⟨((FIv666 156 (a1).toNatClampNeg).toInt - (y5).toInt - 1).toNat, by omega⟩
              have hx := xi88_0; rw [hk9] at hx; obtain ⟨e9, hgl, hnx⟩ := hx; have h1l := gr_loc_lt hgl; have h2l := gr_rws_le hnx
              obtain ⟨x692, h693⟩ : ∃ y, FIv666 121 92 = y := ⟨_, rfl⟩
              have h693l := congrArg Int32.toInt h693
              have b694 := gI_121_92 hI670; rw [h693] at b694
              have := congrArg Int32.toInt (show FIv666 121 92 = x692 from h693)
              have h92a : 0 ≤ (x692).toInt ∧ (x692).toInt ≤ 995 := by omega
              refine xw_iload (aX12_means 60 rfl) rfl ?_
              refine hw_ifne (tgt := 187) (aX12_means 61 rfl) (by decide) rfl (fun cd695 => ?_) (fun cd695 => ?_)
              · exact hw_L (j453 (x688) FIv666 FLv667 fr668 hI670 (show FIv666 121 0 = (0 : Int32) from kp672) (show FIv666 121 74 = x1 from kp671) (show FIv666 121 94 = x688 from h689) (by show 0 ≤ (x688).toInt ∧ (x688).toInt ≤ 8; omega) (show FIv666 156 (a1).toNatClampNeg = x87 from kp674) (show FIv666 157 (a1).toNatClampNeg = x27 from kp673) fr669 (show FIv666 152 = FI 152 from rw685) (show FLv667 153 = FL 153 from rw686) (show rl_b (FIv666 139) (FIv666 140) (FIv666 141) from rl678) (show rl_h 2 (FIv666 136) (FLv667 137) (FIv666 138) from rl676) (show rl_t (FIv666 152) (FLv667 153) from rl675) (show rl_m (FIv666 169) (FLv667 170) from rl681) (show rl_p (FIv666 143) (FLv667 144) from rl679) (show rl_h 32 (FIv666 130) (FLv667 131) (FIv666 134) from rl677) (show rl_v (FIv666 121 74) (FIv666 152) (FLv667 153) (FIv666 156) (FIv666 157) from rl680) (by show 1 ≤ (x688).toInt; omega)) ⟨rfl, trivial⟩
              · refine hw_aloadn (aX12_means 62 rfl) rfl ?_
                refine hw_get (v := .ref (base + 153)) (aX12_means 63 rfl) wf_RX12_117 (c121 hS) (s121 hS) (by decide) (congrArg (fun r => va_rf (h_rf base r)) (r121_66 hF)) ?_
                refine hw_aloadn (aX12_means 64 rfl) rfl ?_
                refine hw_get (v := .int (x692)) (aX12_means 65 rfl) wf_RX12_656 (c121 hS) (s121 hS) (by decide) (congrArg Value.int (show FIv666 121 92 = x692 from h693)) ?_
                obtain ⟨x696, h697⟩ : ∃ y, FLv667 153 (x692).toNatClampNeg = y := ⟨_, rfl⟩
                have h697l := congrArg Int64.toInt h697
                have := l_rng x696
                refine hw_lald (v := x696) (aX12_means 66 rfl) (c153 hS) (s153 hS) (h_in rfl (by omega) (by omega)) (show FLv667 153 (x692).toNatClampNeg = x696 from h697) ?_
                refine xw_lstore (L2 := [(6, .long (x696)), (5, .int (y5)), (4, .int (y4)), (0, .ref (base + 121)), (1, .int (a1)), (2, .long (a2))]) (aX12_means 67 rfl) (by decide) rfl ?_
                refine hw_aloadn (aX12_means 68 rfl) rfl ?_
                refine hw_get (v := .ref (base + 153)) (aX12_means 69 rfl) wf_RX12_117 (c121 hS) (s121 hS) (by decide) (congrArg (fun r => va_rf (h_rf base r)) (r121_66 hF)) ?_
                refine hw_aloadn (aX12_means 70 rfl) rfl ?_
                refine hw_get (v := .int (x692)) (aX12_means 71 rfl) wf_RX12_656 (c121 hS) (s121 hS) (by decide) (congrArg Value.int (show FIv666 121 92 = x692 from h693)) ?_
                refine hw_ic (v := (2 : Int32)) (aX12_means 72 rfl) (by decide) ?_
                refine xw_iadd (aX12_means 73 rfl) ?_
                refine hw_tie (A := ((x692).toInt) + (2)) (i_add rfl (by decide : (2 : Int32).toInt = 2) (by omega) (by omega)) (fun x698 e699 => ?_)
                obtain ⟨x700, h701⟩ : ∃ y, FLv667 153 (x698).toNatClampNeg = y := ⟨_, rfl⟩
                have h701l := congrArg Int64.toInt h701
                have := l_rng x700
                refine hw_lald (v := x700) (aX12_means 74 rfl) (c153 hS) (s153 hS) (h_in e699 (by omega) (by omega)) (show FLv667 153 (x698).toNatClampNeg = x700 from h701) ?_
                refine xw_lstore (L2 := [(8, .long (x700)), (6, .long (x696)), (5, .int (y5)), (4, .int (y4)), (0, .ref (base + 121)), (1, .int (a1)), (2, .long (a2))]) (aX12_means 75 rfl) (by decide) rfl ?_
                refine hw_aloadn (aX12_means 76 rfl) rfl ?_
                refine hw_aloadn (aX12_means 77 rfl) rfl ?_
                refine hw_get (v := .int (x692)) (aX12_means 78 rfl) wf_RX12_656 (c121 hS) (s121 hS) (by decide) (congrArg Value.int (show FIv666 121 92 = x692 from h693)) ?_
                refine hw_ic (v := (4 : Int32)) (aX12_means 79 rfl) (by decide) ?_
                refine xw_iadd (aX12_means 80 rfl) ?_
                refine hw_tie (A := ((x692).toInt) + (4)) (i_add rfl (by decide : (4 : Int32).toInt = 4) (by omega) (by omega)) (fun x702 e703 => ?_)
                refine hv_puti (aX12_means 81 rfl) wf_RX12_656 (c121 hS) (s121 hS) (by decide) rfl rfl (fun FI704 u705 => ?_)
                have rl706 : rl_t (FI704 152) (FLv667 153) := by rw [show FI704 152 = FIv666 152 from up_row u705 (by decide) rfl]; exact rl675
                have rl707 : rl_h 2 (FI704 136) (FLv667 137) (FI704 138) := by rw [show FI704 136 = FIv666 136 from up_row u705 (by decide) rfl, show FI704 138 = FIv666 138 from up_row u705 (by decide) rfl]; exact rl676
                have rl708 : rl_h 32 (FI704 130) (FLv667 131) (FI704 134) := by rw [show FI704 130 = FIv666 130 from up_row u705 (by decide) rfl, show FI704 134 = FIv666 134 from up_row u705 (by decide) rfl]; exact rl677
                have rl709 : rl_b (FI704 139) (FI704 140) (FI704 141) := by rw [show FI704 139 = FIv666 139 from up_row u705 (by decide) rfl, show FI704 140 = FIv666 140 from up_row u705 (by decide) rfl, show FI704 141 = FIv666 141 from up_row u705 (by decide) rfl]; exact rl678
                have rl710 : rl_p (FI704 143) (FLv667 144) := by rw [show FI704 143 = FIv666 143 from up_row u705 (by decide) rfl]; exact rl679
                have rl711 : rl_v (FI704 121 74) (FI704 152) (FLv667 153) (FI704 156) (FI704 157) := by rw [show FI704 152 = FIv666 152 from up_row u705 (by decide) rfl, show FI704 156 = FIv666 156 from up_row u705 (by decide) rfl, show FI704 157 = FIv666 157 from up_row u705 (by decide) rfl, show FI704 121 74 = FIv666 121 74 from up_k u705 (by decide) rfl]; exact rl680
                have rl712 : rl_m (FI704 169) (FLv667 170) := by rw [show FI704 169 = FIv666 169 from up_row u705 (by decide) rfl]; exact rl681
                have hI713 : g_I FI704 := gU_121_92 hI670 u705 (by have := (e703 : (x702).toInt = ((x692).toInt) + (4)); omega) (by have := (e703 : (x702).toInt = ((x692).toInt) + (4)); omega)
                refine hw_aloadn (aX12_means 82 rfl) rfl ?_
                refine xw_lloadn (aX12_means 83 rfl) rfl ?_
                refine xw_lload (aX12_means 84 rfl) rfl ?_
                refine hw_callV (Bs := [.long (a2), .long (x696)]) (rest := []) (aX12_means 85 rfl) wc_RX12_242 (by decide) rfl wi_yX12_isBelow wv_yX12_isBelow (c121 hS) (s121 hS) rfl rfl rfl (Nat.le_of_ble_eq_true rfl) (Nat.le_of_ble_eq_true rfl) (m_isBelow (d := d + 9) hS hF (a2) (x696) ) (fun v714 sv715 p716 => ?_)
                obtain ⟨r717, rfl, FI718, FL719, rfl, rfl, rfl, t722⟩ := p716
                show hw zk base _ _ _ _ _ [.int (r717)] _ _
                have j774 : ∀ (g734 : Int32), (0 ≤ (g734).toInt ∧ (g734).toInt ≤ 1) → hw zk base (d + 10) none 253 163 [(0, .ref (base + 121)), (1, .int (a1)), (2, .long (a2)), (5, .int (y5))] [.int (g734)] (n, sl, SH, FI704, FLv667, FR) (h_I (fun r s => ∃ FI' FL', s = (n, sl, SH, FI', FL', FR) ∧ g_I FI' ∧ g_fr n SH [(121, 0), (121, 29), (121, 30), (121, 31), (121, 32), (121, 33), (121, 34), (121, 37), (121, 38), (121, 46), (121, 47), (121, 53), (121, 54), (121, 55), (121, 56), (121, 57), (121, 90), (121, 91), (121, 92), (121, 93), (121, 94), (121, 95), (121, 101), (121, 104)] [128, 129, 130, 132, 133, 134, 135, 136, 138, 139, 140, 141, 142, 143, 145, 146, 147, 165, 166, 169, 171, 172, 174, 175] [] FI FI' ∧ g_fr n SH [(121, 35), (121, 36), (121, 39)] [127, 131, 137, 144, 170, 173] [] FL FL' ∧ (rl_h 2 (FI' 136) (FL' 137) (FI' 138)) ∧ (rl_h 32 (FI' 130) (FL' 131) (FI' 134)) ∧ (rl_b (FI' 139) (FI' 140) (FI' 141)) ∧ (rl_m (FI' 169) (FL' 170)) ∧ (rl_p (FI' 143) (FL' 144)))) := by
                  intro g734 q775
                  have rg_g734 := i_rng g734
                  refine xw_istore (L2 := [(4, .int (g734)), (0, .ref (base + 121)), (1, .int (a1)), (2, .long (a2)), (5, .int (y5))]) (aX12_means 95 rfl) (by decide) rfl ?_
                  refine hw_aloadn (aX12_means 96 rfl) rfl ?_
                  refine xw_iload (aX12_means 97 rfl) rfl ?_
                  refine hw_callV (Bs := [.int (g734)]) (rest := []) (aX12_means 98 rfl) wc_RX12_665 (by decide) rfl wi_yX12_meantLocation wv_yX12_meantLocation (c121 hS) (s121 hS) rfl rfl rfl (Nat.le_of_ble_eq_true rfl) (Nat.le_of_ble_eq_true rfl) (n_meantLocation (d := d) hS hF hI713 (g734) (e9) (by have := congrArg Int32.toInt (show FI704 121 94 = x688 from (up_k u705 (by decide) (h689))); omega) (by omega) (by rw [show FI704 152 = FI 152 from (up_row u705 (by decide) (rw685)), show FLv667 153 = FL 153 from rw686, show (FI704 121 92).toInt.toNat = (FIv666 121 92).toInt.toNat + 4 from (by have := congrArg Int32.toInt (show FI704 121 92 = x702 from up_eq u705); omega)]; exact hgl) (by omega) (show rl_t (FI704 152) (FLv667 153) from rl706) (show rl_h 2 (FI704 136) (FLv667 137) (FI704 138) from rl707) (show rl_h 32 (FI704 130) (FLv667 131) (FI704 134) from rl708) (show rl_b (FI704 139) (FI704 140) (FI704 141) from rl709) (show rl_m (FI704 169) (FLv667 170) from rl712)) (fun v776 sv777 p778 => ?_)
                  obtain ⟨rfl, FI780, FL781, rfl, hI782, f783, f784, t785, u786, rl787, rl788, rl789, rl790⟩ := p778
                  have rl791 : rl_t (FI780 152) (FL781 153) := by rw [show FI780 152 = FI704 152 from gf_row f783 (c152 hS) (s152 hS) rfl rfl, show FL781 153 = FLv667 153 from gf_row f784 (c153 hS) (s153 hS) rfl rfl]; exact rl706
                  have rl792 : rl_p (FI780 143) (FL781 144) := by rw [show FI780 143 = FI704 143 from gf_row f783 (c143 hS) (s143 hS) rfl rfl, show FL781 144 = FLv667 144 from gf_row f784 (c144 hS) (s144 hS) rfl rfl]; exact rl710
                  have rl793 : rl_v (FI780 121 74) (FI780 152) (FL781 153) (FI780 156) (FI780 157) := by rw [show FI780 152 = FI704 152 from gf_row f783 (c152 hS) (s152 hS) rfl rfl, show FL781 153 = FLv667 153 from gf_row f784 (c153 hS) (s153 hS) rfl rfl, show FI780 156 = FI704 156 from gf_row f783 (c156 hS) (s156 hS) rfl rfl, show FI780 157 = FI704 157 from gf_row f783 (c157 hS) (s157 hS) rfl rfl, show FI780 121 74 = FI704 121 74 from gf_at f783 (c121 hS) (s121 hS) rfl rfl]; exact rl711
                  obtain ⟨x794, h795⟩ : ∃ y, FI780 121 94 = y := ⟨_, rfl⟩
                  have h795l := congrArg Int32.toInt h795
                  have b796 := gI_121_94 hI782; rw [h795] at b796
                  show hw zk base _ _ _ _ _ [] _ _
                  obtain ⟨x797, h798⟩ : ∃ y, FI780 121 92 = y := ⟨_, rfl⟩
                  have h798l := congrArg Int32.toInt h798
                  have b799 := gI_121_92 hI782; rw [h798] at b799
                  have hq9 := u786; have := congrArg Int32.toInt (show FI780 121 92 = x797 from h798)
                  have := (x797).toInt; have h92n := gI_121_92 hI782; rw [show FI780 121 92 = x797 from h798] at h92n
                  refine hw_aloadn (aX12_means 99 rfl) rfl ?_
                  refine hw_aloadn (aX12_means 100 rfl) rfl ?_
                  refine hw_get (v := .int (x797)) (aX12_means 101 rfl) wf_RX12_656 (c121 hS) (s121 hS) (by decide) (congrArg Value.int (show FI780 121 92 = x797 from h798)) ?_
                  refine hw_ic (v := (1 : Int32)) (aX12_means 102 rfl) (by decide) ?_
                  refine xw_iadd (aX12_means 103 rfl) ?_
                  refine hw_tie (A := ((x797).toInt) + (1)) (i_add rfl (by decide : (1 : Int32).toInt = 1) (by omega) (by omega)) (fun x800 e801 => ?_)
                  refine hv_puti (aX12_means 104 rfl) wf_RX12_656 (c121 hS) (s121 hS) (by decide) rfl rfl (fun FI802 u803 => ?_)
                  have rl804 : rl_b (FI802 139) (FI802 140) (FI802 141) := by rw [show FI802 139 = FI780 139 from up_row u803 (by decide) rfl, show FI802 140 = FI780 140 from up_row u803 (by decide) rfl, show FI802 141 = FI780 141 from up_row u803 (by decide) rfl]; exact rl789
                  have rl805 : rl_h 2 (FI802 136) (FL781 137) (FI802 138) := by rw [show FI802 136 = FI780 136 from up_row u803 (by decide) rfl, show FI802 138 = FI780 138 from up_row u803 (by decide) rfl]; exact rl787
                  have rl806 : rl_t (FI802 152) (FL781 153) := by rw [show FI802 152 = FI780 152 from up_row u803 (by decide) rfl]; exact rl791
                  have rl807 : rl_m (FI802 169) (FL781 170) := by rw [show FI802 169 = FI780 169 from up_row u803 (by decide) rfl]; exact rl790
                  have rl808 : rl_p (FI802 143) (FL781 144) := by rw [show FI802 143 = FI780 143 from up_row u803 (by decide) rfl]; exact rl792
                  have rl809 : rl_h 32 (FI802 130) (FL781 131) (FI802 134) := by rw [show FI802 130 = FI780 130 from up_row u803 (by decide) rfl, show FI802 134 = FI780 134 from up_row u803 (by decide) rfl]; exact rl788
                  have rl810 : rl_v (FI802 121 74) (FI802 152) (FL781 153) (FI802 156) (FI802 157) := by rw [show FI802 152 = FI780 152 from up_row u803 (by decide) rfl, show FI802 156 = FI780 156 from up_row u803 (by decide) rfl, show FI802 157 = FI780 157 from up_row u803 (by decide) rfl, show FI802 121 74 = FI780 121 74 from up_k u803 (by decide) rfl]; exact rl793
                  have hI811 : g_I FI802 := gU_121_92 hI782 u803 (by have := (e801 : (x800).toInt = ((x797).toInt) + (1)); omega) (by have := (e801 : (x800).toInt = ((x797).toInt) + (1)); omega)
                  obtain ⟨x812, q814⟩ : ∃ y : Int32, (y5) + Int32.ofInt (1) = y := ⟨_, rfl⟩
                  have e813 : (x812).toInt = (y5).toInt + (1) := by rw [← q814]; exact i_add rfl (by decide) (by omega) (by omega)
                  refine xw_iinc (L2 := [(5, .int (x812)), (4, .int (g734)), (0, .ref (base + 121)), (1, .int (a1)), (2, .long (a2))]) (aX12_means 105 rfl) rfl (by decide) (by rw [q814]; rfl) ?_
                  refine xw_goto (tgt := 88) (aX12_means 106 rfl) (by decide) ?_
                  exact hw_L (ih (x812) (g734) FI802 FL781 (gf_f (gf_tr ex_rf (gf_f fr668 u705 (by decide)) f783 rfl rfl rfl) u803 (by decide)) (gf_tr ex_rf fr669 f784 rfl rfl rfl) hI811 (show FI802 121 74 = x1 from (up_k u803 (by decide) ((gf_at f783 (c121 hS) (s121 hS) rfl ((up_k u705 (by decide) (kp671))))))) (show FI802 121 0 = (0 : Int32) from (up_k u803 (by decide) ((gf_at f783 (c121 hS) (s121 hS) rfl ((up_k u705 (by decide) (kp672))))))) (show FI802 157 (a1).toNatClampNeg = x27 from (up_c u803 (by decide) ((gf_at f783 (c157 hS) (s157 hS) rfl ((up_c u705 (by decide) (kp673))))))) (show FI802 156 (a1).toNatClampNeg = x87 from (up_c u803 (by decide) ((gf_at f783 (c156 hS) (s156 hS) rfl ((up_c u705 (by decide) (kp674))))))) (show rl_t (FI802 152) (FL781 153) from rl806) (show rl_h 2 (FI802 136) (FL781 137) (FI802 138) from rl805) (show rl_h 32 (FI802 130) (FL781 131) (FI802 134) from rl809) (show rl_b (FI802 139) (FI802 140) (FI802 141) from rl804) (show rl_p (FI802 143) (FL781 144) from rl808) (show rl_v (FI802 121 74) (FI802 152) (FL781 153) (FI802 156) (FI802 157) from rl810) (show rl_m (FI802 169) (FL781 170) from rl807) (by have := (e813 : (x812).toInt = (y5).toInt + (1)); omega) (by have := (e813 : (x812).toInt = (y5).toInt + (1)); omega) (by have := (e813 : (x812).toInt = (y5).toInt + (1)); have := congrArg Int32.toInt (show FI802 121 94 = x794 from (up_k u803 (by decide) (h795))); omega) (show gr_rws (kf (FI 152)) (wf (FL 153)) ((FI802 156 (a1).toNatClampNeg).toInt - (x812).toInt).toNat ((FI802 121 92).toInt).toNat q from (by have := (e813 : (x812).toInt = (y5).toInt + (1)); have := congrArg Int32.toInt (show FI802 121 92 = x800 from up_eq u803); have := (e801 : (x800).toInt = ((x797).toInt) + (1)); exact (by have h156 := congrArg Int32.toInt (show FI802 156 (a1).toNatClampNeg = x87 from (up_c u803 (by decide) ((gf_at f783 (c156 hS) (s156 hS) rfl ((up_c u705 (by decide) (kp674))))))); rw [show ((FI802 156 (a1).toNatClampNeg).toInt - (x812).toInt).toNat = k9 by omega, show ((FI802 121 92).toInt).toNat = e9 + 1 by omega]; exact hnx))) (show FI802 152 = FI 152 from (up_row u803 (by decide) ((gf_row f783 (c152 hS) (s152 hS) rfl ((up_row u705 (by decide) (rw685))))))) (show FL781 153 = FL 153 from (gf_row f784 (c153 hS) (s153 hS) rfl (rw686))) (by have := (e813 : (x812).toInt = (y5).toInt + (1)); omega)) ⟨rfl, rfl, rfl, rfl, rfl, trivial⟩
                refine hw_ifne (tgt := 162) (aX12_means 86 rfl) (by decide) rfl (fun cd815 => ?_) (fun cd815 => ?_)
                · refine hw_ic (v := (0 : Int32)) (aX12_means 94 rfl) (by decide) ?_
                  exact hw_L (j774 ((0 : Int32)) (by have := ((by decide : (0 : Int32).toInt = 0) : ((0 : Int32)).toInt = 0); show 0 ≤ ((0 : Int32)).toInt ∧ ((0 : Int32)).toInt ≤ 1; omega)) ⟨rfl, rfl, rfl, rfl, trivial⟩
                · refine hw_aloadn (aX12_means 87 rfl) rfl ?_
                  refine xw_lloadn (aX12_means 88 rfl) rfl ?_
                  refine xw_lload (aX12_means 89 rfl) rfl ?_
                  refine hw_callV (Bs := [.long (a2), .long (x700)]) (rest := []) (aX12_means 90 rfl) wc_RX12_242 (by decide) rfl wi_yX12_isBelow wv_yX12_isBelow (c121 hS) (s121 hS) rfl rfl rfl (Nat.le_of_ble_eq_true rfl) (Nat.le_of_ble_eq_true rfl) (m_isBelow (d := d + 9) hS hF (a2) (x700) ) (fun v816 sv817 p818 => ?_)
                  obtain ⟨r819, rfl, FI820, FL821, rfl, rfl, rfl, t824⟩ := p818
                  show hw zk base _ _ _ _ _ [.int (r819)] _ _
                  refine hw_ifeq (tgt := 162) (aX12_means 91 rfl) (by decide) rfl (fun cd825 => ?_) (fun cd825 => ?_)
                  · refine hw_ic (v := (0 : Int32)) (aX12_means 94 rfl) (by decide) ?_
                    exact hw_L (j774 ((0 : Int32)) (by have := ((by decide : (0 : Int32).toInt = 0) : ((0 : Int32)).toInt = 0); show 0 ≤ ((0 : Int32)).toInt ∧ ((0 : Int32)).toInt ≤ 1; omega)) ⟨rfl, rfl, rfl, rfl, trivial⟩
                  · refine hw_ic (v := (1 : Int32)) (aX12_means 92 rfl) (by decide) ?_
                    refine xw_goto (tgt := 163) (aX12_means 93 rfl) (by decide) ?_
                    exact hw_L (j774 ((1 : Int32)) (by have := ((by decide : (1 : Int32).toInt = 1) : ((1 : Int32)).toInt = 1); show 0 ≤ ((1 : Int32)).toInt ∧ ((1 : Int32)).toInt ≤ 1; omega)) ⟨rfl, rfl, rfl, rfl, trivial⟩
        exact hw_L (lp687 ((8 - 0 : Int).toNat + 1) ((0 : Int32)) ((0 : Int32)) FI77 FL69 (gf_a (gf_a (gf_f (gf_f (gf_f (gf_f (gf_f gf_rf u5 (by decide)) u18 (by decide)) u31 (by decide)) u41 (by decide)) u51 (by decide)) u61 (by decide)) u78 (by decide)) (gf_a gf_rf u70 (by decide)) hI86 (show FI77 121 74 = x1 from (up_c u78 (by decide) ((up_c u61 (by decide) ((up_k u51 (by decide) ((up_k u41 (by decide) ((up_k u31 (by decide) ((up_k u18 (by decide) ((up_k u5 (by decide) (h2))))))))))))))) (show FI77 121 0 = (0 : Int32) from (up_c u78 (by decide) ((up_c u61 (by decide) ((up_k u51 (by decide) ((up_k u41 (by decide) ((up_k u31 (by decide) ((up_k u18 (by decide) (up_eq u5))))))))))))) (show FI77 157 (a1).toNatClampNeg = x27 from (up_c u78 (by decide) ((up_c u61 (by decide) ((up_c u51 (by decide) ((up_c u41 (by decide) ((up_c u31 (by decide) (h28))))))))))) (show FI77 156 (a1).toNatClampNeg = x87 from h88) (show rl_t (FI77 152) (FL69 153) from rl79) (show rl_h 2 (FI77 136) (FL69 137) (FI77 138) from rl80) (show rl_h 32 (FI77 130) (FL69 131) (FI77 134) from rl81) (show rl_b (FI77 139) (FI77 140) (FI77 141) from rl82) (show rl_p (FI77 143) (FL69 144) from rl83) (show rl_v (FI77 121 74) (FI77 152) (FL69 153) (FI77 156) (FI77 157) from rl84) (show rl_m (FI77 169) (FL69 170) from rl85) (by have := ((by decide : (0 : Int32).toInt = 0) : ((0 : Int32)).toInt = 0); have := ((by decide : (0 : Int32).toInt = 0) : ((0 : Int32)).toInt = 0); omega) (by have := ((by decide : (0 : Int32).toInt = 0) : ((0 : Int32)).toInt = 0); have := ((by decide : (0 : Int32).toInt = 0) : ((0 : Int32)).toInt = 0); omega) (by have := ((by decide : (0 : Int32).toInt = 0) : ((0 : Int32)).toInt = 0); have := ((by decide : (0 : Int32).toInt = 0) : ((0 : Int32)).toInt = 0); have := congrArg Int32.toInt (show FI77 121 94 = (1 : Int32) from (up_c u78 (by decide) ((up_c u61 (by decide) ((up_k u51 (by decide) (up_eq u41))))))); have := ((by decide : (1 : Int32).toInt = 1) : ((1 : Int32)).toInt = 1); omega) (show gr_rws (kf (FI 152)) (wf (FL 153)) ((FI77 156 (a1).toNatClampNeg).toInt - 0).toNat ((FI77 121 92).toInt).toNat q from (by have := ((by decide : (0 : Int32).toInt = 0) : ((0 : Int32)).toInt = 0); have := ((by decide : (0 : Int32).toInt = 0) : ((0 : Int32)).toInt = 0); have := congrArg Int32.toInt (show FI77 121 92 = x27 from (up_c u78 (by decide) ((up_c u61 (by decide) ((up_k u51 (by decide) ((up_k u41 (by decide) (up_eq u31))))))))); exact (by have h156 := congrArg Int32.toInt (show FI77 156 (a1).toNatClampNeg = x87 from h88); rw [show ((FI77 156 (a1).toNatClampNeg).toInt - 0).toNat = (x87).toInt.toNat by omega, show ((FI77 121 92).toInt).toNat = (FI77 121 92).toInt.toNat from rfl]; exact hgr))) (show FI77 152 = FI 152 from (up_row u78 (by decide) ((up_row u61 (by decide) ((up_row u51 (by decide) ((up_row u41 (by decide) ((up_row u31 (by decide) ((up_row u18 (by decide) ((up_row u5 (by decide) (rfl))))))))))))))) (show FL69 153 = FL 153 from (up_row u70 (by decide) (rfl))) (by have := ((by decide : (0 : Int32).toInt = 0) : ((0 : Int32)).toInt = 0); have := ((by decide : (0 : Int32).toInt = 0) : ((0 : Int32)).toInt = 0); omega)) ⟨rfl, rfl, rfl, rfl, rfl, trivial⟩
      · have hvr := rl84 (a1).toNatClampNeg (by rw [i_cl (x := a1) rfl]; have := congrArg Int32.toInt (show FI77 121 74 = x1 from (up_c u78 (by decide) ((up_c u61 (by decide) ((up_k u51 (by decide) ((up_k u41 (by decide) ((up_k u31 (by decide) ((up_k u18 (by decide) ((up_k u5 (by decide) (h2))))))))))))))); omega)
        rw [show FI77 156 (a1).toNatClampNeg = x87 from h88, show FI77 157 (a1).toNatClampNeg = FI77 121 92 from ((up_c u78 (by decide) ((up_c u61 (by decide) ((up_c u51 (by decide) ((up_c u41 (by decide) ((up_c u31 (by decide) (h28))))))))))).trans ((up_c u78 (by decide) ((up_c u61 (by decide) ((up_k u51 (by decide) ((up_k u41 (by decide) (up_eq u31))))))))).symm] at hvr
        obtain ⟨q, hq, hgl⟩ : ∃ q, q < 1001 ∧ gr_loc (kf (FI77 152)) (wf (FL69 153)) (FI77 121 92).toInt.toNat q := by rcases hvr.2 with ⟨-, h⟩ | ⟨h, -⟩; { exact h }; { exact absurd (by omega) h }
        refine hw_aloadn (aX12_means 46 rfl) rfl ?_
        refine hw_ic (v := (1 : Int32)) (aX12_means 47 rfl) (by decide) ?_
        refine hw_callV (Bs := [.int ((1 : Int32))]) (rest := []) (aX12_means 48 rfl) wc_RX12_665 (by decide) rfl wi_yX12_meantLocation wv_yX12_meantLocation (c121 hS) (s121 hS) rfl rfl rfl (Nat.le_of_ble_eq_true rfl) (Nat.le_of_ble_eq_true rfl) (n_meantLocation (d := d) hS hF hI86 ((1 : Int32)) (q) (by have := congrArg Int32.toInt (show FI77 121 94 = (1 : Int32) from (up_c u78 (by decide) ((up_c u61 (by decide) ((up_k u51 (by decide) (up_eq u41))))))); have := ((by decide : (1 : Int32).toInt = 1) : ((1 : Int32)).toInt = 1); omega) (by have := ((by decide : (1 : Int32).toInt = 1) : ((1 : Int32)).toInt = 1); have := ((by decide : (1 : Int32).toInt = 1) : ((1 : Int32)).toInt = 1); omega) (hgl) (by omega) (show rl_t (FI77 152) (FL69 153) from rl79) (show rl_h 2 (FI77 136) (FL69 137) (FI77 138) from rl80) (show rl_h 32 (FI77 130) (FL69 131) (FI77 134) from rl81) (show rl_b (FI77 139) (FI77 140) (FI77 141) from rl82) (show rl_m (FI77 169) (FL69 170) from rl85)) (fun v826 sv827 p828 => ?_)
        obtain ⟨rfl, FI830, FL831, rfl, hI832, f833, f834, t835, u836, rl837, rl838, rl839, rl840⟩ := p828
        have rl841 : rl_t (FI830 152) (FL831 153) := by rw [show FI830 152 = FI77 152 from gf_row f833 (c152 hS) (s152 hS) rfl rfl, show FL831 153 = FL69 153 from gf_row f834 (c153 hS) (s153 hS) rfl rfl]; exact rl79
        have rl842 : rl_p (FI830 143) (FL831 144) := by rw [show FI830 143 = FI77 143 from gf_row f833 (c143 hS) (s143 hS) rfl rfl, show FL831 144 = FL69 144 from gf_row f834 (c144 hS) (s144 hS) rfl rfl]; exact rl83
        have rl843 : rl_v (FI830 121 74) (FI830 152) (FL831 153) (FI830 156) (FI830 157) := by rw [show FI830 152 = FI77 152 from gf_row f833 (c152 hS) (s152 hS) rfl rfl, show FL831 153 = FL69 153 from gf_row f834 (c153 hS) (s153 hS) rfl rfl, show FI830 156 = FI77 156 from gf_row f833 (c156 hS) (s156 hS) rfl rfl, show FI830 157 = FI77 157 from gf_row f833 (c157 hS) (s157 hS) rfl rfl, show FI830 121 74 = FI77 121 74 from gf_at f833 (c121 hS) (s121 hS) rfl rfl]; exact rl84
        obtain ⟨x844, h845⟩ : ∃ y, FI830 121 94 = y := ⟨_, rfl⟩
        have h845l := congrArg Int32.toInt h845
        have b846 := gI_121_94 hI832; rw [h845] at b846
        show hw zk base _ _ _ _ _ [] _ _
        obtain ⟨x847, h848⟩ : ∃ y, FI830 121 92 = y := ⟨_, rfl⟩
        have h848l := congrArg Int32.toInt h848
        have b849 := gI_121_92 hI832; rw [h848] at b849
        have hq9 := u836; have := congrArg Int32.toInt (show FI830 121 92 = x847 from h848)
        have := (x847).toInt; have h92n := gI_121_92 hI832; rw [show FI830 121 92 = x847 from h848] at h92n
        refine xw_goto (tgt := 187) (aX12_means 49 rfl) (by decide) ?_
        exact hw_L (j453 (x844) FI830 FL831 (gf_tr ex_rf (gf_a (gf_a (gf_f (gf_f (gf_f (gf_f (gf_f gf_rf u5 (by decide)) u18 (by decide)) u31 (by decide)) u41 (by decide)) u51 (by decide)) u61 (by decide)) u78 (by decide)) f833 rfl rfl rfl) hI832 (show FI830 121 0 = (0 : Int32) from (gf_at f833 (c121 hS) (s121 hS) rfl ((up_c u78 (by decide) ((up_c u61 (by decide) ((up_k u51 (by decide) ((up_k u41 (by decide) ((up_k u31 (by decide) ((up_k u18 (by decide) (up_eq u5))))))))))))))) (show FI830 121 74 = x1 from (gf_at f833 (c121 hS) (s121 hS) rfl ((up_c u78 (by decide) ((up_c u61 (by decide) ((up_k u51 (by decide) ((up_k u41 (by decide) ((up_k u31 (by decide) ((up_k u18 (by decide) ((up_k u5 (by decide) (h2))))))))))))))))) (show FI830 121 94 = x844 from h845) (by show 0 ≤ (x844).toInt ∧ (x844).toInt ≤ 8; omega) (show FI830 156 (a1).toNatClampNeg = x87 from (gf_at f833 (c156 hS) (s156 hS) rfl (h88))) (show FI830 157 (a1).toNatClampNeg = x27 from (gf_at f833 (c157 hS) (s157 hS) rfl ((up_c u78 (by decide) ((up_c u61 (by decide) ((up_c u51 (by decide) ((up_c u41 (by decide) ((up_c u31 (by decide) (h28))))))))))))) (gf_tr ex_rf (gf_a gf_rf u70 (by decide)) f834 rfl rfl rfl) (show FI830 152 = FI 152 from (gf_row f833 (c152 hS) (s152 hS) rfl ((up_row u78 (by decide) ((up_row u61 (by decide) ((up_row u51 (by decide) ((up_row u41 (by decide) ((up_row u31 (by decide) ((up_row u18 (by decide) ((up_row u5 (by decide) (rfl))))))))))))))))) (show FL831 153 = FL 153 from (gf_row f834 (c153 hS) (s153 hS) rfl ((up_row u70 (by decide) (rfl))))) (show rl_b (FI830 139) (FI830 140) (FI830 141) from rl839) (show rl_h 2 (FI830 136) (FL831 137) (FI830 138) from rl837) (show rl_t (FI830 152) (FL831 153) from rl841) (show rl_m (FI830 169) (FL831 170) from rl840) (show rl_p (FI830 143) (FL831 144) from rl842) (show rl_h 32 (FI830 130) (FL831 131) (FI830 134) from rl838) (show rl_v (FI830 121 74) (FI830 152) (FL831 153) (FI830 156) (FI830 157) from rl843) (by show 1 ≤ (x844).toInt; omega)) ⟨rfl, trivial⟩
    · refine hw_ic (v := ((-1) : Int32)) (aX12_means 9 rfl) (by decide) ?_
      refine xw_iret (aX12_means 10 rfl) rfl rfl ?_
      have e850 : (((-1) : Int32)).toInt = (-1) := (by decide : ((-1) : Int32).toInt = (-1))
      exact ⟨((-1) : Int32), rfl, FI4, FL, rfl, hI13, (gf_f gf_rf u5 (by decide)), gf_rf, (show rl_h 2 (FI4 136) (FL 137) (FI4 138) from rl7), (show rl_h 32 (FI4 130) (FL 131) (FI4 134) from rl8), (show rl_b (FI4 139) (FI4 140) (FI4 141) from rl9), (show rl_m (FI4 169) (FL 170) from rl10), (show rl_p (FI4 143) (FL 144) from rl11)⟩
end
section
/-! What declared has made so far. -/
def rl_mv (m T : Int32) (k : Nat → Int32) (w : Nat → Int64) (r s : Nat → Int32) : Prop := ∀ i : Nat, (i : Int) < m.toInt → 0 ≤ (r i).toInt ∧ gr_var (kf k) (wf w) (r i).toInt.toNat (s i).toInt.toNat T.toInt.toNat
def rl_mb (m : Int32) (b : Nat → Int32) (n : Int) : Prop := ∀ i : Nat, (i : Int) < m.toInt → (b i).toInt ≤ (b (i + 1)).toInt ∧ (b (i + 1)).toInt ≤ n
section DC
variable {m m2 T t : Int32} {k r r2 s b : Nat → Int32} {w : Nat → Int64}
theorem rl_mv_0 (h : m.toInt = 0) : rl_mv m T k w r s := fun i hi => by omega
theorem rl_mb_0 {n : Int} (h : m.toInt = 0) : rl_mb m b n := fun i hi => by omega
theorem rl_mv_go (h : rl_mv m T k w r s) (m0 : 0 ≤ m.toInt) (e : m2.toInt = m.toInt + 1) (hr : ∀ i, i ≠ m.toNatClampNeg → r2 i = r i) (hn : 0 ≤ (r2 m.toNatClampNeg).toInt ∧ gr_var (kf k) (wf w) (r2 m.toNatClampNeg).toInt.toNat t.toInt.toNat T.toInt.toNat) : rl_mv m2 T k w r2 (va_up s m.toNatClampNeg t) := by
  have e2 : m.toNatClampNeg = m.toInt.toNat := i_cl rfl
  intro i hi
  by_cases ei : i = m.toNatClampNeg
  · subst ei; simp only [va_up, if_pos]; exact hn
  · simp only [va_up, if_neg ei]; rw [hr i ei]; exact h i (by omega)
theorem rl_mv_loc {q : Nat} (h : rl_mv m T k w r s) (m0 : 0 ≤ m.toInt) (e : m2.toInt = m.toInt + 1) (hq : q < T.toInt.toNat) (hl : gr_loc (kf k) (wf w) t.toInt.toNat q) : rl_mv m2 T k w (va_up r m.toNatClampNeg (0 : Int32)) (va_up s m.toNatClampNeg t) := by
  refine rl_mv_go h m0 e (fun i hi => by simp only [va_up, if_neg hi]) ?_
  simp only [va_up, if_pos]
  exact ⟨by decide, Or.inl ⟨by decide, q, hq, hl⟩⟩
theorem rl_mv_rws {q : Nat} (h : rl_mv m T k w r s) (m0 : 0 ≤ m.toInt) (e : m2.toInt = m.toInt + 1) (hr : ∀ i, i ≠ m.toNatClampNeg → r2 i = r i) (hg : gr_rws (kf k) (wf w) (r2 m.toNatClampNeg).toInt.toNat t.toInt.toNat q ∧ 1 ≤ (r2 m.toNatClampNeg).toInt) (hq : q ≤ T.toInt.toNat) : rl_mv m2 T k w r2 (va_up s m.toNatClampNeg t) := by
  refine rl_mv_go h m0 e hr ⟨by omega, Or.inr ⟨?_, q, hq, hg.1⟩⟩
  have := hg.2
  omega
theorem rl_mb_go {x y : Int32} {n : Int} (h : rl_mb m b n) (m0 : 0 ≤ m.toInt) (e : m2.toInt = m.toInt + 1) (hx : n ≤ x.toInt) (hy : x.toInt ≤ y.toInt) : rl_mb m2 (va_up (va_up b m.toNatClampNeg x) m2.toNatClampNeg y) y.toInt := by
  have e1 : m.toNatClampNeg = m.toInt.toNat := i_cl rfl
  have e2 : m2.toNatClampNeg = m2.toInt.toNat := i_cl rfl
  intro i hi
  have n1 : i ≠ m2.toNatClampNeg := by omega
  by_cases ei : i = m.toNatClampNeg
  · have n2 : i + 1 = m2.toNatClampNeg := by omega
    simp only [va_up, if_neg n1, if_pos ei, if_pos n2]
    exact ⟨hy, Int.le_refl _⟩
  · have n2 : i + 1 ≠ m2.toNatClampNeg := by omega
    have h1 := h i (by omega)
    simp only [va_up, if_neg n1, if_neg ei, if_neg n2]
    by_cases ej : i + 1 = m.toNatClampNeg
    · simp only [if_pos ej]; omega
    · simp only [if_neg ej]; omega
end DC
theorem gr_var_mono {K W : Nat → Int} {r s T T2 : Nat} (h : gr_var K W r s T) (hT : T ≤ T2) : gr_var K W r s T2 := by
  rcases h with ⟨h1, q, h2, h3⟩ | ⟨h1, q, h2, h3⟩
  · exact Or.inl ⟨h1, q, by omega, h3⟩
  · exact Or.inr ⟨h1, q, by omega, h3⟩
/-! what compile keeps of it -/
theorem rl_v_of {m T : Int32} {k r s k2 r2 s2 : Nat → Int32} {w w2 : Nat → Int64} (h : rl_mv m T k w r s) (hT : T.toInt ≤ 1001) (hk : ∀ j : Nat, (j : Int) < T.toInt → k2 j = k j ∧ w2 j = w j) (hr : ∀ j : Nat, (j : Int) < m.toInt → r2 j = r j ∧ s2 j = s j) : rl_v m k2 w2 r2 s2 := by
  intro i hi
  have h1 := h i hi
  rw [(hr i hi).1, (hr i hi).2]
  refine ⟨h1.1, gr_var_mono (gr_var_tr (T := T.toInt.toNat) (fun j hj => ?_) h1.2) (by omega)⟩
  have h2 := hk j (by omega)
  exact ⟨congrArg Int32.toInt h2.1, congrArg Int64.toInt h2.2⟩
end
