def nX12_compile : Nat := 0xac0c02b42a577c01b602032a0201b5032a2b01b5032addffa7010184502f1b6c00b42a1b7500b42a4f2e1b6900b42a1b7200b42a2100a2be01b42a1b3c0387ffa7010184d3ffa70102844f2e601c2e1b8d00b42a7800b42a601c60681b580211e02e111100b42a2600a22e601b14101400b42a1c3d034f642e1b8d00b42a2e60041b8d00b42a601b14101400b42a4f2e1b8a00b42a1b8100b42a4f2e1b8700b42a1b7e00b42a502f1b8400b42a1b7b00b42a7700a20302b42a1b3c030c02b50302b42a2ac8ffa7010184ac0902b62e1b9000b42a07102a1000a45802111c0a009a331b9300b42a3d642e1b8d00b42a2e60041b8d00b42a3600a20302b42a1b3c03ac0902b6e101b42adb01b42a2a100099db01b42ae9ffa70602b62a0a00992ede01b42a6900b42a16009adb01b42aed01b5032a0302b5032adb01b5032ade01b5032abe00b5032a0102b62abb00b5032a
theorem bX12_compile : cX12_compile.data.toList.map UInt8.toNat = x_un nX12_compile 337 := by decide +kernel
def iX12_compile : List (Nat × Jvm.ClassFile.Instr × Nat) := [(0, .aload_n 0, 1), (1, .iconst 0, 1), (2, .putfield 187, 3), (5, .aload_n 0, 1), (6, .invokevirtual 513, 3), (9, .aload_n 0, 1), (10, .iconst 0, 1), (11, .putfield 190, 3), (14, .aload_n 0, 1), (15, .iconst 0, 1), (16, .putfield 478, 3), (19, .aload_n 0, 1), (20, .iconst 0, 1), (21, .putfield 475, 3), (24, .aload_n 0, 1), (25, .iconst 0, 1), (26, .putfield 515, 3), (29, .aload_n 0, 1), (30, .iconst 0, 1), (31, .putfield 493, 3), (34, .aload_n 0, 1), (35, .getfield 475, 3), (38, .ifCond .ne 22, 3), (41, .aload_n 0, 1), (42, .getfield 105, 3), (45, .aload_n 0, 1), (46, .getfield 478, 3), (49, .iaload, 1), (50, .ifCond .eq 10, 3), (53, .aload_n 0, 1), (54, .invokevirtual 518, 3), (57, .goto (-23), 3), (60, .aload_n 0, 1), (61, .getfield 475, 3), (64, .ifCond .eq 16, 3), (67, .aload_n 0, 1), (68, .aload_n 0, 1), (69, .getfield 475, 3), (72, .aload_n 0, 1), (73, .getfield 481, 3), (76, .invokevirtual 521, 3), (79, .ireturn, 1), (80, .iconst 0, 1), (81, .istore_n 1, 1), (82, .iload_n 1, 1), (83, .aload_n 0, 1), (84, .getfield 515, 3), (87, .if_icmp .ge 54, 3), (90, .aload_n 0, 1), (91, .getfield 141, 3), (94, .iload_n 1, 1), (95, .iconst 1, 1), (96, .iadd, 1), (97, .iaload, 1), (98, .aload_n 0, 1), (99, .getfield 141, 3), (102, .iload_n 1, 1), (103, .iaload, 1), (104, .isub, 1), (105, .istore_n 2, 1), (106, .aload_n 0, 1), (107, .getfield 147, 3), (110, .iload_n 1, 1), (111, .baload, 1), (112, .ifCond .ne 10, 3), (115, .iload_n 2, 1), (116, .sipush 600, 3), (119, .if_icmp .le 16, 3), (122, .aload_n 0, 1), (123, .bipush 7, 2), (125, .aload_n 0, 1), (126, .getfield 144, 3), (129, .iload_n 1, 1), (130, .iaload, 1), (131, .invokevirtual 521, 3), (134, .ireturn, 1), (135, .iinc 1 1, 3), (138, .goto (-56), 3), (141, .aload_n 0, 1), (142, .aload_n 0, 1), (143, .getfield 515, 3), (146, .putfield 524, 3), (149, .iconst 0, 1), (150, .istore_n 1, 1), (151, .iload_n 1, 1), (152, .aload_n 0, 1), (153, .getfield 515, 3), (156, .if_icmp .ge 119, 3), (159, .aload_n 0, 1), (160, .getfield 123, 3), (163, .iload_n 1, 1), (164, .aload_n 0, 1), (165, .getfield 132, 3), (168, .iload_n 1, 1), (169, .laload, 1), (170, .lastore, 1), (171, .aload_n 0, 1), (172, .getfield 126, 3), (175, .iload_n 1, 1), (176, .aload_n 0, 1), (177, .getfield 135, 3), (180, .iload_n 1, 1), (181, .iaload, 1), (182, .iastore, 1), (183, .aload_n 0, 1), (184, .getfield 129, 3), (187, .iload_n 1, 1), (188, .aload_n 0, 1), (189, .getfield 138, 3), (192, .iload_n 1, 1), (193, .iaload, 1), (194, .iastore, 1), (195, .aload_n 0, 1), (196, .getfield 20, 3), (199, .bipush 20, 2), (201, .iload_n 1, 1), (202, .iadd, 1), (203, .aload_n 0, 1), (204, .getfield 141, 3), (207, .iload_n 1, 1), (208, .iconst 1, 1), (209, .iadd, 1), (210, .iaload, 1), (211, .aload_n 0, 1), (212, .getfield 141, 3), (215, .iload_n 1, 1), (216, .iaload, 1), (217, .isub, 1), (218, .iastore, 1), (219, .iconst 0, 1), (220, .istore_n 2, 1), (221, .iload_n 2, 1), (222, .aload_n 0, 1), (223, .getfield 20, 3), (226, .bipush 20, 2), (228, .iload_n 1, 1), (229, .iadd, 1), (230, .iaload, 1), (231, .if_icmp .ge 38, 3), (234, .aload_n 0, 1), (235, .getfield 17, 3), (238, .sipush 12000, 3), (241, .sipush 600, 3), (244, .iload_n 1, 1), (245, .imul, 1), (246, .iadd, 1), (247, .iload_n 2, 1), (248, .iadd, 1), (249, .aload_n 0, 1), (250, .getfield 120, 3), (253, .aload_n 0, 1), (254, .getfield 141, 3), (257, .iload_n 1, 1), (258, .iaload, 1), (259, .iload_n 2, 1), (260, .iadd, 1), (261, .iaload, 1), (262, .iastore, 1), (263, .iinc 2 1, 3), (266, .goto (-45), 3), (269, .iinc 1 1, 3), (272, .goto (-121), 3), (275, .iconst 0, 1), (276, .istore_n 1, 1), (277, .iload_n 1, 1), (278, .aload_n 0, 1), (279, .getfield 446, 3), (282, .if_icmp .ge 33, 3), (285, .aload_n 0, 1), (286, .getfield 114, 3), (289, .iload_n 1, 1), (290, .aload_n 0, 1), (291, .getfield 105, 3), (294, .iload_n 1, 1), (295, .iaload, 1), (296, .iastore, 1), (297, .aload_n 0, 1), (298, .getfield 117, 3), (301, .iload_n 1, 1), (302, .aload_n 0, 1), (303, .getfield 108, 3), (306, .iload_n 1, 1), (307, .laload, 1), (308, .lastore, 1), (309, .iinc 1 1, 3), (312, .goto (-35), 3), (315, .aload_n 0, 1), (316, .iconst 0, 1), (317, .putfield 299, 3), (320, .aload_n 0, 1), (321, .iconst 0, 1), (322, .putfield 258, 3), (325, .aload_n 0, 1), (326, .iconst 0, 1), (327, .iconst (-1), 1), (328, .invokevirtual 380, 3), (331, .pop, 1), (332, .aload_n 0, 1), (333, .getfield 524, 3), (336, .ireturn, 1)]
theorem dX12_compile : x_il nX12_compile 337 iX12_compile = true := by decide +kernel
theorem aX12_compile (k : Nat) {pc : Nat} {i : Jvm.ClassFile.Instr} {len : Nat} (hk : iX12_compile[k]? = some (pc, i, len)) : x_at xMM 225 pc i len yX12_compile 3 (some .int) := ⟨cX12_compile, rfl, x_il_ok bX12_compile dX12_compile k hk⟩
set_option maxHeartbeats 4000000 in
set_option maxRecDepth 100000 in
theorem n_compile {zk : xK} {base d n sl : Nat} {SH : Nat → Nat × Nat} {FI : Nat → Nat → Int32} {FL : Nat → Nat → Int64} {FR : Nat → Nat → Option Nat} (hS : h_S n SH) (hF : h_FR FR) (hI : g_I FI) (rel_tok : rl_t (FI 149) (FL 150)) (rel_kept : rl_t (FI 152) (FL 153)) (rel_var : rl_v (FI 121 74) (FI 152) (FL 153) (FI 156) (FI 157)) : hw zk base (d + 11) none 225 0 [(0, .ref (base + 121))] [] (n, sl, SH, FI, FL, FR) (h_I (fun r s => ∃ FI' FL', s = (n, sl, SH, FI', FL', FR) ∧ g_I FI' ∧ g_fr n SH [(121, 0), (121, 13), (121, 31), (121, 32), (121, 53), (121, 54), (121, 55), (121, 56), (121, 57), (121, 67), (121, 68), (121, 69), (121, 70), (121, 71), (121, 73), (121, 74), (121, 78), (121, 90), (121, 91)] [124, 125, 149, 151, 152, 154, 156, 157, 159, 160, 161, 162, 163, 164, 165, 166, 167, 168] [] FI FI' ∧ g_fr n SH [] [150, 153, 155, 158] [] FL FL' ∧ (rl_t (FI' 149) (FL' 150)) ∧ (rl_t (FI' 152) (FL' 153)) ∧ (rl_v (FI' 121 74) (FI' 152) (FL' 153) (FI' 156) (FI' 157)))) := by
  refine hw_aloadn (aX12_compile 0 rfl) rfl ?_
  refine hw_ic (v := (0 : Int32)) (aX12_compile 1 rfl) (by decide) ?_
  refine hv_puti (aX12_compile 2 rfl) wf_RX12_187 (c121 hS) (s121 hS) (by decide) rfl rfl (fun FI1 u2 => ?_)
  have rl3 : rl_t (FI1 149) (FL 150) := by rw [show FI1 149 = FI 149 from up_row u2 (by decide) rfl]; exact rel_tok
  have rl4 : rl_t (FI1 152) (FL 153) := by rw [show FI1 152 = FI 152 from up_row u2 (by decide) rfl]; exact rel_kept
  have rl5 : rl_v (FI1 121 74) (FI1 152) (FL 153) (FI1 156) (FI1 157) := by rw [show FI1 152 = FI 152 from up_row u2 (by decide) rfl, show FI1 156 = FI 156 from up_row u2 (by decide) rfl, show FI1 157 = FI 157 from up_row u2 (by decide) rfl, show FI1 121 74 = FI 121 74 from up_k u2 (by decide) rfl]; exact rel_var
  have hI6 : g_I FI1 := gU_F hI u2 rfl
  refine hw_aloadn (aX12_compile 3 rfl) rfl ?_
  refine hw_callV (Bs := []) (rest := []) (aX12_compile 4 rfl) wc_RX12_513 (by decide) rfl wi_yX12_tokens wv_yX12_tokens (c121 hS) (s121 hS) rfl rfl rfl (Nat.le_of_ble_eq_true rfl) (Nat.le_of_ble_eq_true rfl) (n_tokens (d := d + 8) hS hF hI6 (show rl_t (FI1 149) (FL 150) from rl3)) (fun v7 sv8 p9 => ?_)
  obtain ⟨rfl, FI11, FL12, rfl, hI13, f14, f15, t16, u17, u18, rl19⟩ := p9
  have rl20 : rl_t (FI11 152) (FL12 153) := by rw [show FI11 152 = FI1 152 from gf_row f14 (c152 hS) (s152 hS) rfl rfl, show FL12 153 = FL 153 from gf_row f15 (c153 hS) (s153 hS) rfl rfl]; exact rl4
  have rl21 : rl_v (FI11 121 74) (FI11 152) (FL12 153) (FI11 156) (FI11 157) := by rw [show FI11 152 = FI1 152 from gf_row f14 (c152 hS) (s152 hS) rfl rfl, show FL12 153 = FL 153 from gf_row f15 (c153 hS) (s153 hS) rfl rfl, show FI11 156 = FI1 156 from gf_row f14 (c156 hS) (s156 hS) rfl rfl, show FI11 157 = FI1 157 from gf_row f14 (c157 hS) (s157 hS) rfl rfl, show FI11 121 74 = FI1 121 74 from gf_at f14 (c121 hS) (s121 hS) rfl rfl]; exact rl5
  obtain ⟨x22, h23⟩ : ∃ y, FI11 121 67 = y := ⟨_, rfl⟩
  have h23l := congrArg Int32.toInt h23
  have b24 := gI_121_67 hI13; rw [h23] at b24
  show hw zk base _ _ _ _ _ [] _ _
  refine hw_aloadn (aX12_compile 5 rfl) rfl ?_
  refine hw_ic (v := (0 : Int32)) (aX12_compile 6 rfl) (by decide) ?_
  refine hv_puti (aX12_compile 7 rfl) wf_RX12_190 (c121 hS) (s121 hS) (by decide) rfl rfl (fun FI25 u26 => ?_)
  have rl27 : rl_t (FI25 149) (FL12 150) := by rw [show FI25 149 = FI11 149 from up_row u26 (by decide) rfl]; exact rl19
  have rl28 : rl_t (FI25 152) (FL12 153) := by rw [show FI25 152 = FI11 152 from up_row u26 (by decide) rfl]; exact rl20
  have rl29 : rl_v (FI25 121 74) (FI25 152) (FL12 153) (FI25 156) (FI25 157) := by rw [show FI25 152 = FI11 152 from up_row u26 (by decide) rfl, show FI25 156 = FI11 156 from up_row u26 (by decide) rfl, show FI25 157 = FI11 157 from up_row u26 (by decide) rfl, show FI25 121 74 = FI11 121 74 from up_k u26 (by decide) rfl]; exact rl21
  have rl30 : rl_e (FI25 149) (FI25 121 67) := by rw [show FI25 149 = FI11 149 from up_row u26 (by decide) rfl, show FI25 121 67 = FI11 121 67 from up_k u26 (by decide) rfl]; exact u17
  have rl31 : rl_w (FI25 121 67) (FI25 149) (FL12 150) (FI25 151) := by rw [show FI25 149 = FI11 149 from up_row u26 (by decide) rfl, show FI25 151 = FI11 151 from up_row u26 (by decide) rfl, show FI25 121 67 = FI11 121 67 from up_k u26 (by decide) rfl]; exact u18
  have hI32 : g_I FI25 := gU_121_13 hI13 u26 (by have := ((by decide : (0 : Int32).toInt = 0) : ((0 : Int32)).toInt = 0); omega) (by have := ((by decide : (0 : Int32).toInt = 0) : ((0 : Int32)).toInt = 0); omega)
  refine hw_aloadn (aX12_compile 8 rfl) rfl ?_
  refine hw_ic (v := (0 : Int32)) (aX12_compile 9 rfl) (by decide) ?_
  refine hv_puti (aX12_compile 10 rfl) wf_RX12_478 (c121 hS) (s121 hS) (by decide) rfl rfl (fun FI33 u34 => ?_)
  have rl35 : rl_t (FI33 149) (FL12 150) := by rw [show FI33 149 = FI25 149 from up_row u34 (by decide) rfl]; exact rl27
  have rl36 : rl_t (FI33 152) (FL12 153) := by rw [show FI33 152 = FI25 152 from up_row u34 (by decide) rfl]; exact rl28
  have rl37 : rl_v (FI33 121 74) (FI33 152) (FL12 153) (FI33 156) (FI33 157) := by rw [show FI33 152 = FI25 152 from up_row u34 (by decide) rfl, show FI33 156 = FI25 156 from up_row u34 (by decide) rfl, show FI33 157 = FI25 157 from up_row u34 (by decide) rfl, show FI33 121 74 = FI25 121 74 from up_k u34 (by decide) rfl]; exact rl29
  have rl38 : rl_e (FI33 149) (FI33 121 67) := by rw [show FI33 149 = FI25 149 from up_row u34 (by decide) rfl, show FI33 121 67 = FI25 121 67 from up_k u34 (by decide) rfl]; exact rl30
  have rl39 : rl_w (FI33 121 67) (FI33 149) (FL12 150) (FI33 151) := by rw [show FI33 149 = FI25 149 from up_row u34 (by decide) rfl, show FI33 151 = FI25 151 from up_row u34 (by decide) rfl, show FI33 121 67 = FI25 121 67 from up_k u34 (by decide) rfl]; exact rl31
  have hI40 : g_I FI33 := gU_121_68 hI32 u34 (by have := ((by decide : (0 : Int32).toInt = 0) : ((0 : Int32)).toInt = 0); omega) (by have := ((by decide : (0 : Int32).toInt = 0) : ((0 : Int32)).toInt = 0); omega)
  refine hw_aloadn (aX12_compile 11 rfl) rfl ?_
  refine hw_ic (v := (0 : Int32)) (aX12_compile 12 rfl) (by decide) ?_
  refine hv_puti (aX12_compile 13 rfl) wf_RX12_475 (c121 hS) (s121 hS) (by decide) rfl rfl (fun FI41 u42 => ?_)
  have rl43 : rl_t (FI41 149) (FL12 150) := by rw [show FI41 149 = FI33 149 from up_row u42 (by decide) rfl]; exact rl35
  have rl44 : rl_t (FI41 152) (FL12 153) := by rw [show FI41 152 = FI33 152 from up_row u42 (by decide) rfl]; exact rl36
  have rl45 : rl_v (FI41 121 74) (FI41 152) (FL12 153) (FI41 156) (FI41 157) := by rw [show FI41 152 = FI33 152 from up_row u42 (by decide) rfl, show FI41 156 = FI33 156 from up_row u42 (by decide) rfl, show FI41 157 = FI33 157 from up_row u42 (by decide) rfl, show FI41 121 74 = FI33 121 74 from up_k u42 (by decide) rfl]; exact rl37
  have rl46 : rl_e (FI41 149) (FI41 121 67) := by rw [show FI41 149 = FI33 149 from up_row u42 (by decide) rfl, show FI41 121 67 = FI33 121 67 from up_k u42 (by decide) rfl]; exact rl38
  have rl47 : rl_w (FI41 121 67) (FI41 149) (FL12 150) (FI41 151) := by rw [show FI41 149 = FI33 149 from up_row u42 (by decide) rfl, show FI41 151 = FI33 151 from up_row u42 (by decide) rfl, show FI41 121 67 = FI33 121 67 from up_k u42 (by decide) rfl]; exact rl39
  have hI48 : g_I FI41 := gU_F hI40 u42 rfl
  refine hw_aloadn (aX12_compile 14 rfl) rfl ?_
  refine hw_ic (v := (0 : Int32)) (aX12_compile 15 rfl) (by decide) ?_
  refine hv_puti (aX12_compile 16 rfl) wf_RX12_515 (c121 hS) (s121 hS) (by decide) rfl rfl (fun FI49 u50 => ?_)
  have rl51 : rl_t (FI49 149) (FL12 150) := by rw [show FI49 149 = FI41 149 from up_row u50 (by decide) rfl]; exact rl43
  have rl52 : rl_t (FI49 152) (FL12 153) := by rw [show FI49 152 = FI41 152 from up_row u50 (by decide) rfl]; exact rl44
  have rl53 : rl_v (FI49 121 74) (FI49 152) (FL12 153) (FI49 156) (FI49 157) := by rw [show FI49 152 = FI41 152 from up_row u50 (by decide) rfl, show FI49 156 = FI41 156 from up_row u50 (by decide) rfl, show FI49 157 = FI41 157 from up_row u50 (by decide) rfl, show FI49 121 74 = FI41 121 74 from up_k u50 (by decide) rfl]; exact rl45
  have rl54 : rl_e (FI49 149) (FI49 121 67) := by rw [show FI49 149 = FI41 149 from up_row u50 (by decide) rfl, show FI49 121 67 = FI41 121 67 from up_k u50 (by decide) rfl]; exact rl46
  have rl55 : rl_w (FI49 121 67) (FI49 149) (FL12 150) (FI49 151) := by rw [show FI49 149 = FI41 149 from up_row u50 (by decide) rfl, show FI49 151 = FI41 151 from up_row u50 (by decide) rfl, show FI49 121 67 = FI41 121 67 from up_k u50 (by decide) rfl]; exact rl47
  have hI56 : g_I FI49 := gU_121_78 hI48 u50 (by have := ((by decide : (0 : Int32).toInt = 0) : ((0 : Int32)).toInt = 0); omega) (by have := ((by decide : (0 : Int32).toInt = 0) : ((0 : Int32)).toInt = 0); omega)
  refine hw_aloadn (aX12_compile 17 rfl) rfl ?_
  refine hw_ic (v := (0 : Int32)) (aX12_compile 18 rfl) (by decide) ?_
  refine hv_puti (aX12_compile 19 rfl) wf_RX12_493 (c121 hS) (s121 hS) (by decide) rfl rfl (fun FI57 u58 => ?_)
  have rl59 : rl_t (FI57 149) (FL12 150) := by rw [show FI57 149 = FI49 149 from up_row u58 (by decide) rfl]; exact rl51
  have rl60 : rl_t (FI57 152) (FL12 153) := by rw [show FI57 152 = FI49 152 from up_row u58 (by decide) rfl]; exact rl52
  have rl61 : rl_v (FI57 121 74) (FI57 152) (FL12 153) (FI57 156) (FI57 157) := by rw [show FI57 152 = FI49 152 from up_row u58 (by decide) rfl, show FI57 156 = FI49 156 from up_row u58 (by decide) rfl, show FI57 157 = FI49 157 from up_row u58 (by decide) rfl, show FI57 121 74 = FI49 121 74 from up_k u58 (by decide) rfl]; exact rl53
  have rl62 : rl_e (FI57 149) (FI57 121 67) := by rw [show FI57 149 = FI49 149 from up_row u58 (by decide) rfl, show FI57 121 67 = FI49 121 67 from up_k u58 (by decide) rfl]; exact rl54
  have rl63 : rl_w (FI57 121 67) (FI57 149) (FL12 150) (FI57 151) := by rw [show FI57 149 = FI49 149 from up_row u58 (by decide) rfl, show FI57 151 = FI49 151 from up_row u58 (by decide) rfl, show FI57 121 67 = FI49 121 67 from up_k u58 (by decide) rfl]; exact rl55
  have hI64 : g_I FI57 := gU_121_73 hI56 u58 (by have := ((by decide : (0 : Int32).toInt = 0) : ((0 : Int32)).toInt = 0); omega) (by have := ((by decide : (0 : Int32).toInt = 0) : ((0 : Int32)).toInt = 0); omega)
  refine hw_aloadn (aX12_compile 20 rfl) rfl ?_
  refine hw_get (v := .int ((0 : Int32))) (aX12_compile 21 rfl) wf_RX12_475 (c121 hS) (s121 hS) (by decide) (congrArg Value.int (show FI57 121 69 = (0 : Int32) from (up_k u58 (by decide) ((up_k u50 (by decide) (up_eq u42)))))) ?_
  have j445 : ∀ (g133 : Int32) (g135 : Int32) (g137 : Int32) (g139 : Int32) (FIj127 : Nat → Nat → Int32) (FLj141 : Nat → Nat → Int64), (g_fr n SH [(121, 0), (121, 13), (121, 31), (121, 32), (121, 53), (121, 54), (121, 55), (121, 56), (121, 57), (121, 67), (121, 68), (121, 69), (121, 70), (121, 71), (121, 73), (121, 74), (121, 78), (121, 90), (121, 91)] [124, 125, 149, 151, 152, 154, 156, 157, 159, 160, 161, 162, 163, 164, 165, 166, 167, 168] [] FI FIj127) → (g_I FIj127) → (FIj127 121 0 = (0 : Int32)) → (FIj127 121 13 = (0 : Int32)) → (FIj127 121 67 = x22) → (FIj127 121 68 = g133) → (0 ≤ (g133).toInt ∧ (g133).toInt ≤ 1000) → (FIj127 121 69 = g135) → (FIj127 121 73 = g137) → (0 ≤ (g137).toInt ∧ (g137).toInt ≤ 30000) → (FIj127 149 0 = g139) → (g_fr n SH [] [150, 153, 155, 158] [] FL FLj141) → (rl_t (FIj127 152) (FLj141 153)) → (rl_e (FIj127 149) (FIj127 121 67)) → (rl_t (FIj127 149) (FLj141 150)) → (rl_v (FIj127 121 74) (FIj127 152) (FLj141 153) (FIj127 156) (FIj127 157)) → (rl_w (FIj127 121 67) (FIj127 149) (FLj141 150) (FIj127 151)) → ((FIj127 121 69).toInt = 0 → rl_mv (FIj127 121 78) (FIj127 121 67) (FIj127 149) (FLj141 150) (FIj127 159) (FIj127 160)) → ((FIj127 121 69).toInt = 0 → rl_mb (FIj127 121 78) (FIj127 161) (FIj127 121 73).toInt) → ((FIj127 121 69).toInt = 0 → (FIj127 121 73).toInt ≤ 4 * wp (FIj127 151) (FIj127 121 68)) → ((g133).toInt ≤ (x22).toInt - 1) → hw zk base (d + 11) none 225 60 [(0, .ref (base + 121))] [] (n, sl, SH, FIj127, FLj141, FR) (h_I (fun r s => ∃ FI' FL', s = (n, sl, SH, FI', FL', FR) ∧ g_I FI' ∧ g_fr n SH [(121, 0), (121, 13), (121, 31), (121, 32), (121, 53), (121, 54), (121, 55), (121, 56), (121, 57), (121, 67), (121, 68), (121, 69), (121, 70), (121, 71), (121, 73), (121, 74), (121, 78), (121, 90), (121, 91)] [124, 125, 149, 151, 152, 154, 156, 157, 159, 160, 161, 162, 163, 164, 165, 166, 167, 168] [] FI FI' ∧ g_fr n SH [] [150, 153, 155, 158] [] FL FL' ∧ (rl_t (FI' 149) (FL' 150)) ∧ (rl_t (FI' 152) (FL' 153)) ∧ (rl_v (FI' 121 74) (FI' 152) (FL' 153) (FI' 156) (FI' 157)))) := by
    intro g133 g135 g137 g139 FIj127 FLj141 fr128 hI129 kp130 kp131 kp132 kp134 q446 kp136 kp138 q447 kp140 fr142 rl143 rl144 rl145 rl146 rl147 fc60_0 fc60_1 fc60_2 fc60_3
    have rg_g133 := i_rng g133
    have rg_g135 := i_rng g135
    have rg_g137 := i_rng g137
    have rg_g139 := i_rng g139
    have := congrArg Int32.toInt kp130
    have := congrArg Int32.toInt kp131
    have := congrArg Int32.toInt kp132
    have := congrArg Int32.toInt kp134
    have := congrArg Int32.toInt kp136
    have := congrArg Int32.toInt kp138
    have := congrArg Int32.toInt kp140
    refine hw_aloadn (aX12_compile 32 rfl) rfl ?_
    refine hw_get (v := .int (g135)) (aX12_compile 33 rfl) wf_RX12_475 (c121 hS) (s121 hS) (by decide) (congrArg Value.int (show FIj127 121 69 = g135 from kp136)) ?_
    refine hw_ifeq (tgt := 80) (aX12_compile 34 rfl) (by decide) rfl (fun cd448 => ?_) (fun cd448 => ?_)
    · have := congrArg Int32.toInt (show FIj127 121 69 = g135 from kp136)
      have := congrArg Int32.toInt (show FIj127 121 68 = g133 from kp134)
      have := congrArg Int32.toInt (show FIj127 121 67 = x22 from kp132)
      have := congrArg Int32.toInt (show FIj127 121 73 = g137 from kp138)
      obtain ⟨x449, h450⟩ : ∃ y, FIj127 121 78 = y := ⟨_, rfl⟩
      have h450l := congrArg Int32.toInt h450
      have b451 := gI_121_78 hI129; rw [h450] at b451
      have := congrArg Int32.toInt (show FIj127 121 78 = x449 from h450)
      have hmv := hid_i (fc60_0 (by omega)); have hmb := hid_i (fc60_1 (by omega)); have hpt := fc60_2 (by omega); have hw4 := wp_r rl147 (t := FIj127 121 68) (by omega) (by omega); have h4000 : (FIj127 121 73).toInt ≤ 4000 := (by omega); clear fc60_0 fc60_1 fc60_2 hpt hw4
      refine hw_ic (v := (0 : Int32)) (aX12_compile 42 rfl) (by decide) ?_
      refine xw_istoren (L2 := [(1, .int ((0 : Int32))), (0, .ref (base + 121))]) (aX12_compile 43 rfl) (by decide) rfl ?_
      have lp454 : ∀ (m : Nat) (y1 : Int32), (0 ≤ (y1).toInt ∧ (y1).toInt ≤ 12) → ((y1).toInt ≤ (x449).toInt) → (∀ j : Nat, (j : Int) < (y1).toInt → (FIj127 161 (j + 1)).toInt - (FIj127 161 j).toInt ≤ 600) → (x449).toInt - (y1).toInt < m → hw zk base (d + 11) none 225 82 [(1, .int (y1)), (0, .ref (base + 121))] [] (n, sl, SH, FIj127, FLj141, FR) (h_I (fun r s => ∃ FI' FL', s = (n, sl, SH, FI', FL', FR) ∧ g_I FI' ∧ g_fr n SH [(121, 0), (121, 13), (121, 31), (121, 32), (121, 53), (121, 54), (121, 55), (121, 56), (121, 57), (121, 67), (121, 68), (121, 69), (121, 70), (121, 71), (121, 73), (121, 74), (121, 78), (121, 90), (121, 91)] [124, 125, 149, 151, 152, 154, 156, 157, 159, 160, 161, 162, 163, 164, 165, 166, 167, 168] [] FI FI' ∧ g_fr n SH [] [150, 153, 155, 158] [] FL FL' ∧ (rl_t (FI' 149) (FL' 150)) ∧ (rl_t (FI' 152) (FL' 153)) ∧ (rl_v (FI' 121 74) (FI' 152) (FL' 153) (FI' 156) (FI' 157)))) := by
        intro m
        induction m with
        | zero => intro y1 iv452 iv453 xi82_0 hm; omega
        | succ m ih =>
          intro y1 iv452 iv453 xi82_0 hm
          have rg_y1 := i_rng y1
          refine xw_iloadn (aX12_compile 44 rfl) rfl ?_
          refine hw_aloadn (aX12_compile 45 rfl) rfl ?_
          refine hw_get (v := .int (x449)) (aX12_compile 46 rfl) wf_RX12_515 (c121 hS) (s121 hS) (by decide) (congrArg Value.int (show FIj127 121 78 = x449 from h450)) ?_
          refine hw_icge (tgt := 141) (aX12_compile 47 rfl) (by decide) rfl rfl (fun cd455 => ?_) (fun cd455 => ?_)
          · have h600 := hid_i xi82_0; have hy82 : (FIj127 121 78).toInt ≤ (y1).toInt := (by omega)
            refine hw_aloadn (aX12_compile 78 rfl) rfl ?_
            refine hw_aloadn (aX12_compile 79 rfl) rfl ?_
            refine hw_get (v := .int (x449)) (aX12_compile 80 rfl) wf_RX12_515 (c121 hS) (s121 hS) (by decide) (congrArg Value.int (show FIj127 121 78 = x449 from h450)) ?_
            refine hv_puti (aX12_compile 81 rfl) wf_RX12_524 (c121 hS) (s121 hS) (by decide) rfl rfl (fun FI456 u457 => ?_)
            have rl458 : rl_t (FI456 152) (FLj141 153) := by rw [show FI456 152 = FIj127 152 from up_row u457 (by decide) rfl]; exact rl143
            have rl459 : rl_e (FI456 149) (FI456 121 67) := by rw [show FI456 149 = FIj127 149 from up_row u457 (by decide) rfl, show FI456 121 67 = FIj127 121 67 from up_k u457 (by decide) rfl]; exact rl144
            have rl460 : rl_t (FI456 149) (FLj141 150) := by rw [show FI456 149 = FIj127 149 from up_row u457 (by decide) rfl]; exact rl145
            have rl461 : rl_w (FI456 121 67) (FI456 149) (FLj141 150) (FI456 151) := by rw [show FI456 149 = FIj127 149 from up_row u457 (by decide) rfl, show FI456 151 = FIj127 151 from up_row u457 (by decide) rfl, show FI456 121 67 = FIj127 121 67 from up_k u457 (by decide) rfl]; exact rl147
            have hI462 : g_I FI456 := gU_121_74 hI129 u457 (by omega) (by omega)
            refine hw_ic (v := (0 : Int32)) (aX12_compile 82 rfl) (by decide) ?_
            refine xw_istoren (L2 := [(1, .int ((0 : Int32))), (0, .ref (base + 121))]) (aX12_compile 83 rfl) (by decide) rfl ?_
            have lp491 : ∀ (m : Nat) (y1_463 : Int32) (FIv464 : Nat → Nat → Int32) (FLv465 : Nat → Nat → Int64), (g_fr n SH [(121, 0), (121, 13), (121, 31), (121, 32), (121, 53), (121, 54), (121, 55), (121, 56), (121, 57), (121, 67), (121, 68), (121, 69), (121, 70), (121, 71), (121, 73), (121, 74), (121, 78), (121, 90), (121, 91)] [124, 125, 149, 151, 152, 154, 156, 157, 159, 160, 161, 162, 163, 164, 165, 166, 167, 168] [] FI FIv464) → (g_fr n SH [] [150, 153, 155, 158] [] FL FLv465) → (g_I FIv464) → (FIv464 121 0 = (0 : Int32)) → (FIv464 121 13 = (0 : Int32)) → (FIv464 121 67 = x22) → (FIv464 121 68 = g133) → (FIv464 121 69 = g135) → (FIv464 121 73 = g137) → (FIv464 149 0 = g139) → (FIv464 121 78 = x449) → (FIv464 121 74 = x449) → (rl_t (FIv464 152) (FLv465 153)) → (rl_e (FIv464 149) (FIv464 121 67)) → (rl_t (FIv464 149) (FLv465 150)) → (rl_w (FIv464 121 67) (FIv464 149) (FLv465 150) (FIv464 151)) → (0 ≤ (y1_463).toInt ∧ (y1_463).toInt ≤ 12) → ((y1_463).toInt ≤ (x449).toInt) → (∀ j : Nat, (j : Int) < (y1_463).toInt → FIv464 156 j = FIv464 159 j ∧ FIv464 157 j = FIv464 160 j) → (FIv464 161 = FIj127 161) → (FIv464 159 = FIj127 159) → (FIv464 160 = FIj127 160) → (FIv464 149 = FIj127 149) → (FLv465 150 = FLj141 150) → (FIv464 152 = FIj127 152) → (FLv465 153 = FLj141 153) → (x449).toInt - (y1_463).toInt < m → hw zk base (d + 11) none 225 151 [(1, .int (y1_463)), (0, .ref (base + 121))] [] (n, sl, SH, FIv464, FLv465, FR) (h_I (fun r s => ∃ FI' FL', s = (n, sl, SH, FI', FL', FR) ∧ g_I FI' ∧ g_fr n SH [(121, 0), (121, 13), (121, 31), (121, 32), (121, 53), (121, 54), (121, 55), (121, 56), (121, 57), (121, 67), (121, 68), (121, 69), (121, 70), (121, 71), (121, 73), (121, 74), (121, 78), (121, 90), (121, 91)] [124, 125, 149, 151, 152, 154, 156, 157, 159, 160, 161, 162, 163, 164, 165, 166, 167, 168] [] FI FI' ∧ g_fr n SH [] [150, 153, 155, 158] [] FL FL' ∧ (rl_t (FI' 149) (FL' 150)) ∧ (rl_t (FI' 152) (FL' 153)) ∧ (rl_v (FI' 121 74) (FI' 152) (FL' 153) (FI' 156) (FI' 157)))) := by
              intro m
              induction m with
              | zero => intro y1_463 FIv464 FLv465 fr466 fr467 hI468 kp469 kp470 kp471 kp472 kp473 kp474 kp475 kp476 kp477 rl478 rl479 rl480 rl481 iv482 iv483 xi151_0 rw484 rw485 rw486 rw487 rw488 rw489 rw490 hm; omega
              | succ m ih151 =>
                intro y1_463 FIv464 FLv465 fr466 fr467 hI468 kp469 kp470 kp471 kp472 kp473 kp474 kp475 kp476 kp477 rl478 rl479 rl480 rl481 iv482 iv483 xi151_0 rw484 rw485 rw486 rw487 rw488 rw489 rw490 hm
                have rg_y1_463 := i_rng y1_463
                have := congrArg Int32.toInt kp469
                have := congrArg Int32.toInt kp470
                have := congrArg Int32.toInt kp471
                have := congrArg Int32.toInt kp472
                have := congrArg Int32.toInt kp473
                have := congrArg Int32.toInt kp474
                have := congrArg Int32.toInt kp475
                have := congrArg Int32.toInt kp476
                have := congrArg Int32.toInt kp477
                refine xw_iloadn (aX12_compile 84 rfl) rfl ?_
                refine hw_aloadn (aX12_compile 85 rfl) rfl ?_
                refine hw_get (v := .int (x449)) (aX12_compile 86 rfl) wf_RX12_515 (c121 hS) (s121 hS) (by decide) (congrArg Value.int (show FIv464 121 78 = x449 from kp476)) ?_
                refine hw_icge (tgt := 275) (aX12_compile 87 rfl) (by decide) rfl rfl (fun cd492 => ?_) (fun cd492 => ?_)
                · have h156 := hid_i xi151_0; have hy151 : (FIv464 121 78).toInt ≤ (y1_463).toInt := (by have := congrArg Int32.toInt (show FIv464 121 78 = x449 from kp476); omega)
                  refine hw_ic (v := (0 : Int32)) (aX12_compile 162 rfl) (by decide) ?_
                  refine xw_istoren (L2 := [(1, .int ((0 : Int32))), (0, .ref (base + 121))]) (aX12_compile 163 rfl) (by decide) rfl ?_
                  have lp523 : ∀ (m : Nat) (y1_493 : Int32) (FIv494 : Nat → Nat → Int32) (FLv495 : Nat → Nat → Int64), (g_fr n SH [(121, 0), (121, 13), (121, 31), (121, 32), (121, 53), (121, 54), (121, 55), (121, 56), (121, 57), (121, 67), (121, 68), (121, 69), (121, 70), (121, 71), (121, 73), (121, 74), (121, 78), (121, 90), (121, 91)] [124, 125, 149, 151, 152, 154, 156, 157, 159, 160, 161, 162, 163, 164, 165, 166, 167, 168] [] FI FIv494) → (g_fr n SH [] [150, 153, 155, 158] [] FL FLv495) → (g_I FIv494) → (FIv494 121 0 = (0 : Int32)) → (FIv494 121 13 = (0 : Int32)) → (FIv494 121 67 = x22) → (FIv494 121 68 = g133) → (FIv494 121 69 = g135) → (FIv494 121 73 = g137) → (FIv494 149 0 = g139) → (FIv494 121 78 = x449) → (FIv494 121 74 = x449) → (rl_t (FIv494 152) (FLv495 153)) → (rl_e (FIv494 149) (FIv494 121 67)) → (rl_t (FIv494 149) (FLv495 150)) → (rl_w (FIv494 121 67) (FIv494 149) (FLv495 150) (FIv494 151)) → (0 ≤ (y1_493).toInt ∧ (y1_493).toInt ≤ 1001) → ((y1_493).toInt ≤ (x22).toInt) → (∀ j : Nat, (j : Int) < (y1_493).toInt → FIv494 152 j = FIv494 149 j ∧ FLv495 153 j = FLv495 150 j) → (FIv494 161 = FIj127 161) → (FIv494 159 = FIj127 159) → (FIv494 160 = FIj127 160) → (FIv494 149 = FIj127 149) → (FLv495 150 = FLj141 150) → (FIv494 156 = FIv464 156) → (FIv494 157 = FIv464 157) → (FIv494 159 = FIv464 159) → (FIv494 160 = FIv464 160) → (x22).toInt - (y1_493).toInt < m → hw zk base (d + 11) none 225 277 [(1, .int (y1_493)), (0, .ref (base + 121))] [] (n, sl, SH, FIv494, FLv495, FR) (h_I (fun r s => ∃ FI' FL', s = (n, sl, SH, FI', FL', FR) ∧ g_I FI' ∧ g_fr n SH [(121, 0), (121, 13), (121, 31), (121, 32), (121, 53), (121, 54), (121, 55), (121, 56), (121, 57), (121, 67), (121, 68), (121, 69), (121, 70), (121, 71), (121, 73), (121, 74), (121, 78), (121, 90), (121, 91)] [124, 125, 149, 151, 152, 154, 156, 157, 159, 160, 161, 162, 163, 164, 165, 166, 167, 168] [] FI FI' ∧ g_fr n SH [] [150, 153, 155, 158] [] FL FL' ∧ (rl_t (FI' 149) (FL' 150)) ∧ (rl_t (FI' 152) (FL' 153)) ∧ (rl_v (FI' 121 74) (FI' 152) (FL' 153) (FI' 156) (FI' 157)))) := by
                    intro m
                    induction m with
                    | zero => intro y1_493 FIv494 FLv495 fr496 fr497 hI498 kp499 kp500 kp501 kp502 kp503 kp504 kp505 kp506 kp507 rl508 rl509 rl510 rl511 iv512 iv513 xi277_0 rw514 rw515 rw516 rw517 rw518 rw519 rw520 rw521 rw522 hm; omega
                    | succ m ih277 =>
                      intro y1_493 FIv494 FLv495 fr496 fr497 hI498 kp499 kp500 kp501 kp502 kp503 kp504 kp505 kp506 kp507 rl508 rl509 rl510 rl511 iv512 iv513 xi277_0 rw514 rw515 rw516 rw517 rw518 rw519 rw520 rw521 rw522 hm
                      have rg_y1_493 := i_rng y1_493
                      have := congrArg Int32.toInt kp499
                      have := congrArg Int32.toInt kp500
                      have := congrArg Int32.toInt kp501
                      have := congrArg Int32.toInt kp502
                      have := congrArg Int32.toInt kp503
                      have := congrArg Int32.toInt kp504
                      have := congrArg Int32.toInt kp505
                      have := congrArg Int32.toInt kp506
                      have := congrArg Int32.toInt kp507
                      refine xw_iloadn (aX12_compile 164 rfl) rfl ?_
                      refine hw_aloadn (aX12_compile 165 rfl) rfl ?_
                      refine hw_get (v := .int (x22)) (aX12_compile 166 rfl) wf_RX12_446 (c121 hS) (s121 hS) (by decide) (congrArg Value.int (show FIv494 121 67 = x22 from kp501)) ?_
                      refine hw_icge (tgt := 315) (aX12_compile 167 rfl) (by decide) rfl rfl (fun cd524 => ?_) (fun cd524 => ?_)
                      · have hv67 := congrArg Int32.toInt (show FIv494 121 67 = x22 from kp501); have hv78 := congrArg Int32.toInt (show FIv494 121 78 = x449 from kp506)
                        have hm9 := hid_e hmv; rw [show FIj127 121 67 = x22 from kp132, show FIj127 121 78 = x449 from h450, ← (show FIv494 149 = FIj127 149 from rw517), ← (show FLv495 150 = FLj141 150 from rw518), ← (show FIv494 159 = FIj127 159 from rw515), ← (show FIv494 160 = FIj127 160 from rw516)] at hm9
                        have rl525 : rl_v (FIv494 121 74) (FIv494 152) (FLv495 153) (FIv494 156) (FIv494 157) := by rw [show FIv494 121 74 = x449 from kp507]; exact rl_v_of hm9 (by omega) (fun j hj => xi277_0 j (by omega)) (fun j hj => by have z := hid_e h156 j (by omega); rw [← (show FIv494 156 = FIv464 156 from rw519), ← (show FIv494 157 = FIv464 157 from rw520), ← (show FIv494 159 = FIv464 159 from rw521), ← (show FIv494 160 = FIv464 160 from rw522)] at z; exact z)
                        refine hw_aloadn (aX12_compile 186 rfl) rfl ?_
                        refine hw_ic (v := (0 : Int32)) (aX12_compile 187 rfl) (by decide) ?_
                        refine hv_puti (aX12_compile 188 rfl) wf_RX12_299 (c121 hS) (s121 hS) (by decide) rfl rfl (fun FI526 u527 => ?_)
                        have rl528 : rl_t (FI526 152) (FLv495 153) := by rw [show FI526 152 = FIv494 152 from up_row u527 (by decide) rfl]; exact rl508
                        have rl529 : rl_e (FI526 149) (FI526 121 67) := by rw [show FI526 149 = FIv494 149 from up_row u527 (by decide) rfl, show FI526 121 67 = FIv494 121 67 from up_k u527 (by decide) rfl]; exact rl509
                        have rl530 : rl_t (FI526 149) (FLv495 150) := by rw [show FI526 149 = FIv494 149 from up_row u527 (by decide) rfl]; exact rl510
                        have rl531 : rl_w (FI526 121 67) (FI526 149) (FLv495 150) (FI526 151) := by rw [show FI526 149 = FIv494 149 from up_row u527 (by decide) rfl, show FI526 151 = FIv494 151 from up_row u527 (by decide) rfl, show FI526 121 67 = FIv494 121 67 from up_k u527 (by decide) rfl]; exact rl511
                        have rl532 : rl_v (FI526 121 74) (FI526 152) (FLv495 153) (FI526 156) (FI526 157) := by rw [show FI526 152 = FIv494 152 from up_row u527 (by decide) rfl, show FI526 156 = FIv494 156 from up_row u527 (by decide) rfl, show FI526 157 = FIv494 157 from up_row u527 (by decide) rfl, show FI526 121 74 = FIv494 121 74 from up_k u527 (by decide) rfl]; exact rl525
                        have hI533 : g_I FI526 := gU_F hI498 u527 rfl
                        refine hw_aloadn (aX12_compile 189 rfl) rfl ?_
                        refine hw_ic (v := (0 : Int32)) (aX12_compile 190 rfl) (by decide) ?_
                        refine hv_puti (aX12_compile 191 rfl) wf_RX12_258 (c121 hS) (s121 hS) (by decide) rfl rfl (fun FI534 u535 => ?_)
                        have rl536 : rl_t (FI534 152) (FLv495 153) := by rw [show FI534 152 = FI526 152 from up_row u535 (by decide) rfl]; exact rl528
                        have rl537 : rl_e (FI534 149) (FI534 121 67) := by rw [show FI534 149 = FI526 149 from up_row u535 (by decide) rfl, show FI534 121 67 = FI526 121 67 from up_k u535 (by decide) rfl]; exact rl529
                        have rl538 : rl_t (FI534 149) (FLv495 150) := by rw [show FI534 149 = FI526 149 from up_row u535 (by decide) rfl]; exact rl530
                        have rl539 : rl_w (FI534 121 67) (FI534 149) (FLv495 150) (FI534 151) := by rw [show FI534 149 = FI526 149 from up_row u535 (by decide) rfl, show FI534 151 = FI526 151 from up_row u535 (by decide) rfl, show FI534 121 67 = FI526 121 67 from up_k u535 (by decide) rfl]; exact rl531
                        have rl540 : rl_v (FI534 121 74) (FI534 152) (FLv495 153) (FI534 156) (FI534 157) := by rw [show FI534 152 = FI526 152 from up_row u535 (by decide) rfl, show FI534 156 = FI526 156 from up_row u535 (by decide) rfl, show FI534 157 = FI526 157 from up_row u535 (by decide) rfl, show FI534 121 74 = FI526 121 74 from up_k u535 (by decide) rfl]; exact rl532
                        have hI541 : g_I FI534 := gU_F hI533 u535 rfl
                        refine hw_aloadn (aX12_compile 192 rfl) rfl ?_
                        refine hw_ic (v := (0 : Int32)) (aX12_compile 193 rfl) (by decide) ?_
                        refine hw_ic (v := ((-1) : Int32)) (aX12_compile 194 rfl) (by decide) ?_
                        refine hw_callV (Bs := [.int ((0 : Int32)), .int (((-1) : Int32))]) (rest := []) (aX12_compile 195 rfl) wc_RX12_380 (by decide) rfl wi_yX12_tells wv_yX12_tells (c121 hS) (s121 hS) rfl rfl rfl (Nat.le_of_ble_eq_true rfl) (Nat.le_of_ble_eq_true rfl) (n_tells (d := d + 10) hS hF hI541 ((0 : Int32)) (((-1) : Int32)) ) (fun v542 sv543 p544 => ?_)
                        have := ((by decide : (0 : Int32).toInt = 0) : ((0 : Int32)).toInt = 0)
                        obtain ⟨r545, rfl, FI546, rfl, hI547, f548, t549⟩ := p544
                        have rl550 : rl_t (FI546 152) (FLv495 153) := by rw [show FI546 152 = FI534 152 from gf_row f548 (c152 hS) (s152 hS) rfl rfl]; exact rl536
                        have rl551 : rl_e (FI546 149) (FI546 121 67) := by rw [show FI546 149 = FI534 149 from gf_row f548 (c149 hS) (s149 hS) rfl rfl, show FI546 121 67 = FI534 121 67 from gf_at f548 (c121 hS) (s121 hS) rfl rfl]; exact rl537
                        have rl552 : rl_t (FI546 149) (FLv495 150) := by rw [show FI546 149 = FI534 149 from gf_row f548 (c149 hS) (s149 hS) rfl rfl]; exact rl538
                        have rl553 : rl_w (FI546 121 67) (FI546 149) (FLv495 150) (FI546 151) := by rw [show FI546 149 = FI534 149 from gf_row f548 (c149 hS) (s149 hS) rfl rfl, show FI546 151 = FI534 151 from gf_row f548 (c151 hS) (s151 hS) rfl rfl, show FI546 121 67 = FI534 121 67 from gf_at f548 (c121 hS) (s121 hS) rfl rfl]; exact rl539
                        have rl554 : rl_v (FI546 121 74) (FI546 152) (FLv495 153) (FI546 156) (FI546 157) := by rw [show FI546 152 = FI534 152 from gf_row f548 (c152 hS) (s152 hS) rfl rfl, show FI546 156 = FI534 156 from gf_row f548 (c156 hS) (s156 hS) rfl rfl, show FI546 157 = FI534 157 from gf_row f548 (c157 hS) (s157 hS) rfl rfl, show FI546 121 74 = FI534 121 74 from gf_at f548 (c121 hS) (s121 hS) rfl rfl]; exact rl540
                        have rg_r545 := i_rng r545
                        show hw zk base _ _ _ _ _ [.int (r545)] _ _
                        refine xw_pop (aX12_compile 196 rfl) rfl ?_
                        refine hw_aloadn (aX12_compile 197 rfl) rfl ?_
                        refine hw_get (v := .int (x449)) (aX12_compile 198 rfl) wf_RX12_524 (c121 hS) (s121 hS) (by decide) (congrArg Value.int (show FI546 121 74 = x449 from (gf_at f548 (c121 hS) (s121 hS) rfl ((up_k u535 (by decide) ((up_k u527 (by decide) (kp507)))))))) ?_
                        refine xw_iret (aX12_compile 199 rfl) rfl rfl ?_
                        exact ⟨x449, rfl, FI546, FLv495, rfl, hI547, (gf_tr ex_rf (gf_f (gf_f fr496 u527 (by decide)) u535 (by decide)) f548 rfl rfl rfl), fr497, (show rl_t (FI546 149) (FLv495 150) from rl552), (show rl_t (FI546 152) (FLv495 153) from rl550), (show rl_v (FI546 121 74) (FI546 152) (FLv495 153) (FI546 156) (FI546 157) from rl554)⟩
                      · refine hw_aloadn (aX12_compile 168 rfl) rfl ?_
                        refine hw_get (v := .ref (base + 152)) (aX12_compile 169 rfl) wf_RX12_114 (c121 hS) (s121 hS) (by decide) (congrArg (fun r => va_rf (h_rf base r)) (r121_65 hF)) ?_
                        refine xw_iloadn (aX12_compile 170 rfl) rfl ?_
                        refine hw_aloadn (aX12_compile 171 rfl) rfl ?_
                        refine hw_get (v := .ref (base + 149)) (aX12_compile 172 rfl) wf_RX12_105 (c121 hS) (s121 hS) (by decide) (congrArg (fun r => va_rf (h_rf base r)) (r121_62 hF)) ?_
                        refine xw_iloadn (aX12_compile 173 rfl) rfl ?_
                        obtain ⟨x555, h556⟩ : ∃ y, FIv494 149 (y1_493).toNatClampNeg = y := ⟨_, rfl⟩
                        have h556l := congrArg Int32.toInt h556
                        have := i_rng x555
                        refine hw_iald (v := x555) (aX12_compile 174 rfl) (c149 hS) (s149 hS) (h_in rfl (by omega) (by omega)) (show FIv494 149 (y1_493).toNatClampNeg = x555 from h556) ?_
                        refine hv_iast (k := (y1_493).toNatClampNeg) (aX12_compile 175 rfl) (c152 hS) (s152 hS) (h_in rfl (by omega) (by omega)) rfl (fun FI557 u558 => ?_)
                        have rl559 : rl_e (FI557 149) (FI557 121 67) := by rw [show FI557 149 = FIv494 149 from up_row u558 (by decide) rfl, show FI557 121 67 = FIv494 121 67 from up_c u558 (by decide) rfl]; exact rl509
                        have rl560 : rl_t (FI557 149) (FLv495 150) := by rw [show FI557 149 = FIv494 149 from up_row u558 (by decide) rfl]; exact rl510
                        have rl561 : rl_w (FI557 121 67) (FI557 149) (FLv495 150) (FI557 151) := by rw [show FI557 149 = FIv494 149 from up_row u558 (by decide) rfl, show FI557 151 = FIv494 151 from up_row u558 (by decide) rfl, show FI557 121 67 = FIv494 121 67 from up_c u558 (by decide) rfl]; exact rl511
                        have hI562 : g_I FI557 := gU_F hI498 u558 rfl
                        refine hw_aloadn (aX12_compile 176 rfl) rfl ?_
                        refine hw_get (v := .ref (base + 153)) (aX12_compile 177 rfl) wf_RX12_117 (c121 hS) (s121 hS) (by decide) (congrArg (fun r => va_rf (h_rf base r)) (r121_66 hF)) ?_
                        refine xw_iloadn (aX12_compile 178 rfl) rfl ?_
                        refine hw_aloadn (aX12_compile 179 rfl) rfl ?_
                        refine hw_get (v := .ref (base + 150)) (aX12_compile 180 rfl) wf_RX12_108 (c121 hS) (s121 hS) (by decide) (congrArg (fun r => va_rf (h_rf base r)) (r121_63 hF)) ?_
                        refine xw_iloadn (aX12_compile 181 rfl) rfl ?_
                        obtain ⟨x563, h564⟩ : ∃ y, FLv495 150 (y1_493).toNatClampNeg = y := ⟨_, rfl⟩
                        have h564l := congrArg Int64.toInt h564
                        have := l_rng x563
                        refine hw_lald (v := x563) (aX12_compile 182 rfl) (c150 hS) (s150 hS) (h_in rfl (by omega) (by omega)) (show FLv495 150 (y1_493).toNatClampNeg = x563 from h564) ?_
                        have ht := rl560 (y1_493).toNatClampNeg; rw [show FI557 149 (y1_493).toNatClampNeg = x555 from (up_c u558 (by decide) (h556)), show FLv495 150 (y1_493).toNatClampNeg = x563 from h564] at ht
                        refine hv_last (k := (y1_493).toNatClampNeg) (aX12_compile 183 rfl) (c153 hS) (s153 hS) (h_in rfl (by omega) (by omega)) rfl (fun FL565 u566 => ?_)
                        have rl567 : rl_t (FI557 149) (FL565 150) := by rw [show FL565 150 = FLv495 150 from up_row u566 (by decide) rfl]; exact rl560
                        have rl568 : rl_w (FI557 121 67) (FI557 149) (FL565 150) (FI557 151) := by rw [show FL565 150 = FLv495 150 from up_row u566 (by decide) rfl]; exact rl561
                        have rl569 : rl_t (FI557 152) (FL565 153) := by rw [show FI557 152 = va_up (FIv494 152) ((y1_493).toNatClampNeg) (x555) from (up_va u558 (rfl)), show FL565 153 = va_up (FLv495 153) ((y1_493).toNatClampNeg) (x563) from (up_va u566 (rfl))]; exact rl_t_up rl508 ht.1 ht.2
                        obtain ⟨x570, q572⟩ : ∃ y : Int32, (y1_493) + Int32.ofInt (1) = y := ⟨_, rfl⟩
                        have e571 : (x570).toInt = (y1_493).toInt + (1) := by rw [← q572]; exact i_add rfl (by decide) (by omega) (by omega)
                        refine xw_iinc (L2 := [(1, .int (x570)), (0, .ref (base + 121))]) (aX12_compile 184 rfl) rfl (by decide) (by rw [q572]; rfl) ?_
                        refine xw_goto (tgt := 277) (aX12_compile 185 rfl) (by decide) ?_
                        exact hw_L (ih277 (x570) FI557 FL565 (gf_a fr496 u558 (by decide)) (gf_a fr497 u566 (by decide)) hI562 (show FI557 121 0 = (0 : Int32) from (up_c u558 (by decide) (kp499))) (show FI557 121 13 = (0 : Int32) from (up_c u558 (by decide) (kp500))) (show FI557 121 67 = x22 from (up_c u558 (by decide) (kp501))) (show FI557 121 68 = g133 from (up_c u558 (by decide) (kp502))) (show FI557 121 69 = g135 from (up_c u558 (by decide) (kp503))) (show FI557 121 73 = g137 from (up_c u558 (by decide) (kp504))) (show FI557 149 0 = g139 from (up_c u558 (by decide) (kp505))) (show FI557 121 78 = x449 from (up_c u558 (by decide) (kp506))) (show FI557 121 74 = x449 from (up_c u558 (by decide) (kp507))) (show rl_t (FI557 152) (FL565 153) from rl569) (show rl_e (FI557 149) (FI557 121 67) from rl559) (show rl_t (FI557 149) (FL565 150) from rl567) (show rl_w (FI557 121 67) (FI557 149) (FL565 150) (FI557 151) from rl568) (by have := (e571 : (x570).toInt = (y1_493).toInt + (1)); omega) (by have := (e571 : (x570).toInt = (y1_493).toInt + (1)); have := congrArg Int32.toInt (show FI557 121 67 = x22 from (up_c u558 (by decide) (kp501))); omega) (show ∀ j : Nat, (j : Int) < (x570).toInt → FI557 152 j = FI557 149 j ∧ FL565 153 j = FL565 150 j from (by have := (e571 : (x570).toInt = (y1_493).toInt + (1)); exact (fun j hj => by rw [show FI557 152 = va_up (FIv494 152) ((y1_493).toNatClampNeg) (x555) from (up_va u558 (rfl)), show FI557 149 = FIv494 149 from (up_row u558 (by decide) (rfl)), show FL565 153 = va_up (FLv495 153) ((y1_493).toNatClampNeg) (x563) from (up_va u566 (rfl)), show FL565 150 = FLv495 150 from (up_row u566 (by decide) (rfl))]; by_cases e : j = (y1_493).toNatClampNeg; { subst e; simp only [va_up, if_pos]; exact ⟨(show FIv494 149 (y1_493).toNatClampNeg = x555 from (congrFun ((up_row u558 (by decide) (rfl))) _).symm.trans ((up_c u558 (by decide) (h556)))).symm, (show FLv495 150 (y1_493).toNatClampNeg = x563 from (congrFun ((up_row u566 (by decide) (rfl))) _).symm.trans ((up_c u566 (by decide) (h564)))).symm⟩ }; { have e2 : (y1_493).toNatClampNeg = (y1_493).toInt.toNat := i_cl rfl; simp only [va_up, if_neg e]; exact xi277_0 j (by omega) }))) (show FI557 161 = FIj127 161 from (up_row u558 (by decide) (rw514))) (show FI557 159 = FIj127 159 from (up_row u558 (by decide) (rw515))) (show FI557 160 = FIj127 160 from (up_row u558 (by decide) (rw516))) (show FI557 149 = FIj127 149 from (up_row u558 (by decide) (rw517))) (show FL565 150 = FLj141 150 from (up_row u566 (by decide) (rw518))) (show FI557 156 = FIv464 156 from (up_row u558 (by decide) (rw519))) (show FI557 157 = FIv464 157 from (up_row u558 (by decide) (rw520))) (show FI557 159 = FIv464 159 from (up_row u558 (by decide) (rw521))) (show FI557 160 = FIv464 160 from (up_row u558 (by decide) (rw522))) (by have := (e571 : (x570).toInt = (y1_493).toInt + (1)); have := congrArg Int32.toInt (show FI557 121 67 = x22 from (up_c u558 (by decide) (kp501))); omega)) ⟨rfl, rfl, trivial⟩
                  exact hw_L (lp523 (((x22).toInt - 0 : Int).toNat + 1) ((0 : Int32)) FIv464 FLv465 fr466 fr467 hI468 (show FIv464 121 0 = (0 : Int32) from kp469) (show FIv464 121 13 = (0 : Int32) from kp470) (show FIv464 121 67 = x22 from kp471) (show FIv464 121 68 = g133 from kp472) (show FIv464 121 69 = g135 from kp473) (show FIv464 121 73 = g137 from kp474) (show FIv464 149 0 = g139 from kp475) (show FIv464 121 78 = x449 from kp476) (show FIv464 121 74 = x449 from kp477) (show rl_t (FIv464 152) (FLv465 153) from rl478) (show rl_e (FIv464 149) (FIv464 121 67) from rl479) (show rl_t (FIv464 149) (FLv465 150) from rl480) (show rl_w (FIv464 121 67) (FIv464 149) (FLv465 150) (FIv464 151) from rl481) (by have := ((by decide : (0 : Int32).toInt = 0) : ((0 : Int32)).toInt = 0); omega) (by have := ((by decide : (0 : Int32).toInt = 0) : ((0 : Int32)).toInt = 0); have := congrArg Int32.toInt (show FIv464 121 67 = x22 from kp471); omega) (show ∀ j : Nat, (j : Int) < 0 → FIv464 152 j = FIv464 149 j ∧ FLv465 153 j = FLv465 150 j from (by have := ((by decide : (0 : Int32).toInt = 0) : ((0 : Int32)).toInt = 0); exact (fun j hj => by omega))) (show FIv464 161 = FIj127 161 from rw484) (show FIv464 159 = FIj127 159 from rw485) (show FIv464 160 = FIj127 160 from rw486) (show FIv464 149 = FIj127 149 from rw487) (show FLv465 150 = FLj141 150 from rw488) (show FIv464 156 = FIv464 156 from rfl) (show FIv464 157 = FIv464 157 from rfl) (show FIv464 159 = FIv464 159 from rfl) (show FIv464 160 = FIv464 160 from rfl) (by have := ((by decide : (0 : Int32).toInt = 0) : ((0 : Int32)).toInt = 0); have := congrArg Int32.toInt (show FIv464 121 67 = x22 from kp471); omega)) ⟨rfl, rfl, trivial⟩
                · refine hw_aloadn (aX12_compile 88 rfl) rfl ?_
                  refine hw_get (v := .ref (base + 155)) (aX12_compile 89 rfl) wf_RX12_123 (c121 hS) (s121 hS) (by decide) (congrArg (fun r => va_rf (h_rf base r)) (r121_75 hF)) ?_
                  refine xw_iloadn (aX12_compile 90 rfl) rfl ?_
                  refine hw_aloadn (aX12_compile 91 rfl) rfl ?_
                  refine hw_get (v := .ref (base + 158)) (aX12_compile 92 rfl) wf_RX12_132 (c121 hS) (s121 hS) (by decide) (congrArg (fun r => va_rf (h_rf base r)) (r121_79 hF)) ?_
                  refine xw_iloadn (aX12_compile 93 rfl) rfl ?_
                  obtain ⟨x573, h574⟩ : ∃ y, FLv465 158 (y1_463).toNatClampNeg = y := ⟨_, rfl⟩
                  have h574l := congrArg Int64.toInt h574
                  have := l_rng x573
                  refine hw_lald (v := x573) (aX12_compile 94 rfl) (c158 hS) (s158 hS) (h_in rfl (by omega) (by omega)) (show FLv465 158 (y1_463).toNatClampNeg = x573 from h574) ?_
                  refine hv_last (k := (y1_463).toNatClampNeg) (aX12_compile 95 rfl) (c155 hS) (s155 hS) (h_in rfl (by omega) (by omega)) rfl (fun FL575 u576 => ?_)
                  have rl577 : rl_t (FIv464 152) (FL575 153) := by rw [show FL575 153 = FLv465 153 from up_row u576 (by decide) rfl]; exact rl478
                  have rl578 : rl_t (FIv464 149) (FL575 150) := by rw [show FL575 150 = FLv465 150 from up_row u576 (by decide) rfl]; exact rl480
                  have rl579 : rl_w (FIv464 121 67) (FIv464 149) (FL575 150) (FIv464 151) := by rw [show FL575 150 = FLv465 150 from up_row u576 (by decide) rfl]; exact rl481
                  refine hw_aloadn (aX12_compile 96 rfl) rfl ?_
                  refine hw_get (v := .ref (base + 156)) (aX12_compile 97 rfl) wf_RX12_126 (c121 hS) (s121 hS) (by decide) (congrArg (fun r => va_rf (h_rf base r)) (r121_76 hF)) ?_
                  refine xw_iloadn (aX12_compile 98 rfl) rfl ?_
                  refine hw_aloadn (aX12_compile 99 rfl) rfl ?_
                  refine hw_get (v := .ref (base + 159)) (aX12_compile 100 rfl) wf_RX12_135 (c121 hS) (s121 hS) (by decide) (congrArg (fun r => va_rf (h_rf base r)) (r121_80 hF)) ?_
                  refine xw_iloadn (aX12_compile 101 rfl) rfl ?_
                  obtain ⟨x580, h581⟩ : ∃ y, FIv464 159 (y1_463).toNatClampNeg = y := ⟨_, rfl⟩
                  have h581l := congrArg Int32.toInt h581
                  have := i_rng x580
                  refine hw_iald (v := x580) (aX12_compile 102 rfl) (c159 hS) (s159 hS) (h_in rfl (by omega) (by omega)) (show FIv464 159 (y1_463).toNatClampNeg = x580 from h581) ?_
                  have b582 := gI_159 hI468 (i_lt (x := y1_463) rfl (by omega) (by omega)); rw [h581] at b582
                  have hv583 : FIv464 159 (y1_463).toNatClampNeg = x580 := by rw [← (show FIv464 159 = FIv464 159 from rfl)]; exact h581
                  refine hv_iast (k := (y1_463).toNatClampNeg) (aX12_compile 103 rfl) (c156 hS) (s156 hS) (h_in rfl (by omega) (by omega)) rfl (fun FI584 u585 => ?_)
                  have rl586 : rl_t (FI584 152) (FL575 153) := by rw [show FI584 152 = FIv464 152 from up_row u585 (by decide) rfl]; exact rl577
                  have rl587 : rl_e (FI584 149) (FI584 121 67) := by rw [show FI584 149 = FIv464 149 from up_row u585 (by decide) rfl, show FI584 121 67 = FIv464 121 67 from up_c u585 (by decide) rfl]; exact rl479
                  have rl588 : rl_t (FI584 149) (FL575 150) := by rw [show FI584 149 = FIv464 149 from up_row u585 (by decide) rfl]; exact rl578
                  have rl589 : rl_w (FI584 121 67) (FI584 149) (FL575 150) (FI584 151) := by rw [show FI584 149 = FIv464 149 from up_row u585 (by decide) rfl, show FI584 151 = FIv464 151 from up_row u585 (by decide) rfl, show FI584 121 67 = FIv464 121 67 from up_c u585 (by decide) rfl]; exact rl579
                  have hI590 : g_I FI584 := gU_156 hI468 u585 (by omega) (by omega)
                  refine hw_aloadn (aX12_compile 104 rfl) rfl ?_
                  refine hw_get (v := .ref (base + 157)) (aX12_compile 105 rfl) wf_RX12_129 (c121 hS) (s121 hS) (by decide) (congrArg (fun r => va_rf (h_rf base r)) (r121_77 hF)) ?_
                  refine xw_iloadn (aX12_compile 106 rfl) rfl ?_
                  refine hw_aloadn (aX12_compile 107 rfl) rfl ?_
                  refine hw_get (v := .ref (base + 160)) (aX12_compile 108 rfl) wf_RX12_138 (c121 hS) (s121 hS) (by decide) (congrArg (fun r => va_rf (h_rf base r)) (r121_81 hF)) ?_
                  refine xw_iloadn (aX12_compile 109 rfl) rfl ?_
                  obtain ⟨x591, h592⟩ : ∃ y, FI584 160 (y1_463).toNatClampNeg = y := ⟨_, rfl⟩
                  have h592l := congrArg Int32.toInt h592
                  have := i_rng x591
                  refine hw_iald (v := x591) (aX12_compile 110 rfl) (c160 hS) (s160 hS) (h_in rfl (by omega) (by omega)) (show FI584 160 (y1_463).toNatClampNeg = x591 from h592) ?_
                  have b593 := gI_160 hI590 (i_lt (x := y1_463) rfl (by omega) (by omega)); rw [h592] at b593
                  have hv594 : FIv464 160 (y1_463).toNatClampNeg = x591 := by rw [← (show FI584 160 = FIv464 160 from (up_row u585 (by decide) (rfl)))]; exact h592
                  refine hv_iast (k := (y1_463).toNatClampNeg) (aX12_compile 111 rfl) (c157 hS) (s157 hS) (h_in rfl (by omega) (by omega)) rfl (fun FI595 u596 => ?_)
                  have rl597 : rl_t (FI595 152) (FL575 153) := by rw [show FI595 152 = FI584 152 from up_row u596 (by decide) rfl]; exact rl586
                  have rl598 : rl_e (FI595 149) (FI595 121 67) := by rw [show FI595 149 = FI584 149 from up_row u596 (by decide) rfl, show FI595 121 67 = FI584 121 67 from up_c u596 (by decide) rfl]; exact rl587
                  have rl599 : rl_t (FI595 149) (FL575 150) := by rw [show FI595 149 = FI584 149 from up_row u596 (by decide) rfl]; exact rl588
                  have rl600 : rl_w (FI595 121 67) (FI595 149) (FL575 150) (FI595 151) := by rw [show FI595 149 = FI584 149 from up_row u596 (by decide) rfl, show FI595 151 = FI584 151 from up_row u596 (by decide) rfl, show FI595 121 67 = FI584 121 67 from up_c u596 (by decide) rfl]; exact rl589
                  have hI601 : g_I FI595 := gU_157 hI590 u596 (by omega) (by omega)
                  refine hw_aloadn (aX12_compile 112 rfl) rfl ?_
                  refine hw_get (v := .ref (base + 125)) (aX12_compile 113 rfl) wf_RX12_20 (c121 hS) (s121 hS) (by decide) (congrArg (fun r => va_rf (h_rf base r)) (r121_4 hF)) ?_
                  refine hw_bp (v := (20 : Int32)) (aX12_compile 114 rfl) (by decide) ?_
                  refine xw_iloadn (aX12_compile 115 rfl) rfl ?_
                  refine xw_iadd (aX12_compile 116 rfl) ?_
                  refine hw_tie (A := (20) + ((y1_463).toInt)) (i_add (by decide : (20 : Int32).toInt = 20) rfl (by omega) (by omega)) (fun x602 e603 => ?_)
                  refine hw_aloadn (aX12_compile 117 rfl) rfl ?_
                  refine hw_get (v := .ref (base + 161)) (aX12_compile 118 rfl) wf_RX12_141 (c121 hS) (s121 hS) (by decide) (congrArg (fun r => va_rf (h_rf base r)) (r121_82 hF)) ?_
                  refine xw_iloadn (aX12_compile 119 rfl) rfl ?_
                  refine hw_ic (v := (1 : Int32)) (aX12_compile 120 rfl) (by decide) ?_
                  refine xw_iadd (aX12_compile 121 rfl) ?_
                  refine hw_tie (A := ((y1_463).toInt) + (1)) (i_add rfl (by decide : (1 : Int32).toInt = 1) (by omega) (by omega)) (fun x604 e605 => ?_)
                  obtain ⟨x606, h607⟩ : ∃ y, FI595 161 (x604).toNatClampNeg = y := ⟨_, rfl⟩
                  have h607l := congrArg Int32.toInt h607
                  have := i_rng x606
                  refine hw_iald (v := x606) (aX12_compile 122 rfl) (c161 hS) (s161 hS) (h_in e605 (by omega) (by omega)) (show FI595 161 (x604).toNatClampNeg = x606 from h607) ?_
                  have b608 := gI_161 hI601 (i_lt (x := x604) e605 (by omega) (by omega)); rw [h607] at b608
                  refine hw_aloadn (aX12_compile 123 rfl) rfl ?_
                  refine hw_get (v := .ref (base + 161)) (aX12_compile 124 rfl) wf_RX12_141 (c121 hS) (s121 hS) (by decide) (congrArg (fun r => va_rf (h_rf base r)) (r121_82 hF)) ?_
                  refine xw_iloadn (aX12_compile 125 rfl) rfl ?_
                  obtain ⟨x609, h610⟩ : ∃ y, FI595 161 (y1_463).toNatClampNeg = y := ⟨_, rfl⟩
                  have h610l := congrArg Int32.toInt h610
                  have := i_rng x609
                  refine hw_iald (v := x609) (aX12_compile 126 rfl) (c161 hS) (s161 hS) (h_in rfl (by omega) (by omega)) (show FI595 161 (y1_463).toNatClampNeg = x609 from h610) ?_
                  have b611 := gI_161 hI601 (i_lt (x := y1_463) rfl (by omega) (by omega)); rw [h610] at b611
                  have ey : (y1_463).toNatClampNeg = (y1_463).toInt.toNat := i_cl rfl
                  have eb : (x604).toNatClampNeg = (y1_463).toNatClampNeg + 1 := by rw [i_cl (x := x604) rfl, ey]; omega
                  have hb1 := hid_e hmb (y1_463).toNatClampNeg (by omega); have hb2 := hid_e h600 (y1_463).toNatClampNeg (by omega)
                  rw [← eb, ← (show FI595 161 = FIj127 161 from (up_row u596 (by decide) ((up_row u585 (by decide) (rw484))))), show FI595 161 (x604).toNatClampNeg = x606 from h607, show FI595 161 (y1_463).toNatClampNeg = x609 from h610] at hb1 hb2
                  refine xw_isub (aX12_compile 127 rfl) ?_
                  refine hw_tie (A := ((x606).toInt) - ((x609).toInt)) (i_sub rfl rfl (by omega) (by omega)) (fun x612 e613 => ?_)
                  refine hv_iast (k := (x602).toNatClampNeg) (aX12_compile 128 rfl) (c125 hS) (s125 hS) (h_in e603 (by omega) (by omega)) rfl (fun FI614 u615 => ?_)
                  have rl616 : rl_t (FI614 152) (FL575 153) := by rw [show FI614 152 = FI595 152 from up_row u615 (by decide) rfl]; exact rl597
                  have rl617 : rl_e (FI614 149) (FI614 121 67) := by rw [show FI614 149 = FI595 149 from up_row u615 (by decide) rfl, show FI614 121 67 = FI595 121 67 from up_c u615 (by decide) rfl]; exact rl598
                  have rl618 : rl_t (FI614 149) (FL575 150) := by rw [show FI614 149 = FI595 149 from up_row u615 (by decide) rfl]; exact rl599
                  have rl619 : rl_w (FI614 121 67) (FI614 149) (FL575 150) (FI614 151) := by rw [show FI614 149 = FI595 149 from up_row u615 (by decide) rfl, show FI614 151 = FI595 151 from up_row u615 (by decide) rfl, show FI614 121 67 = FI595 121 67 from up_c u615 (by decide) rfl]; exact rl600
                  have hI620 : g_I FI614 := gU_125 hI601 u615 (by have := (e613 : (x612).toInt = ((x606).toInt) - ((x609).toInt)); omega) (by have := (e613 : (x612).toInt = ((x606).toInt) - ((x609).toInt)); omega)
                  refine hw_ic (v := (0 : Int32)) (aX12_compile 129 rfl) (by decide) ?_
                  refine xw_istoren (L2 := [(2, .int ((0 : Int32))), (1, .int (y1_463)), (0, .ref (base + 121))]) (aX12_compile 130 rfl) (by decide) rfl ?_
                  have lp654 : ∀ (m : Nat) (y2 : Int32) (FIv621 : Nat → Nat → Int32), (g_fr n SH [(121, 0), (121, 13), (121, 31), (121, 32), (121, 53), (121, 54), (121, 55), (121, 56), (121, 57), (121, 67), (121, 68), (121, 69), (121, 70), (121, 71), (121, 73), (121, 74), (121, 78), (121, 90), (121, 91)] [124, 125, 149, 151, 152, 154, 156, 157, 159, 160, 161, 162, 163, 164, 165, 166, 167, 168] [] FI FIv621) → (g_I FIv621) → (FIv621 121 0 = (0 : Int32)) → (FIv621 121 13 = (0 : Int32)) → (FIv621 121 67 = x22) → (FIv621 121 68 = g133) → (FIv621 121 69 = g135) → (FIv621 121 73 = g137) → (FIv621 149 0 = g139) → (FIv621 121 78 = x449) → (FIv621 121 74 = x449) → (FIv621 159 (y1_463).toNatClampNeg = x580) → (FIv621 156 (y1_463).toNatClampNeg = x580) → (FIv621 160 (y1_463).toNatClampNeg = x591) → (FIv621 157 (y1_463).toNatClampNeg = x591) → (FIv621 161 (x604).toNatClampNeg = x606) → (FIv621 161 (y1_463).toNatClampNeg = x609) → (FIv621 125 (x602).toNatClampNeg = x612) → (rl_t (FIv621 152) (FL575 153)) → (rl_e (FIv621 149) (FIv621 121 67)) → (rl_t (FIv621 149) (FL575 150)) → (rl_w (FIv621 121 67) (FIv621 149) (FL575 150) (FIv621 151)) → (0 ≤ (y2).toInt ∧ (y2).toInt ≤ 600) → (FIv621 161 = FIj127 161) → (FIv621 159 = FIj127 159) → (FIv621 160 = FIj127 160) → (FIv621 149 = FIj127 149) → (FIv621 152 = FIj127 152) → (FIv621 156 = va_up (FIv464 156) ((y1_463).toNatClampNeg) (x580)) → (FIv621 157 = va_up (FIv464 157) ((y1_463).toNatClampNeg) (x591)) → (FIv621 159 = FIv464 159) → (FIv621 160 = FIv464 160) → 600 - (y2).toInt < m → hw zk base (d + 11) none 225 221 [(2, .int (y2)), (1, .int (y1_463)), (0, .ref (base + 121))] [] (n, sl, SH, FIv621, FL575, FR) (h_I (fun r s => ∃ FI' FL', s = (n, sl, SH, FI', FL', FR) ∧ g_I FI' ∧ g_fr n SH [(121, 0), (121, 13), (121, 31), (121, 32), (121, 53), (121, 54), (121, 55), (121, 56), (121, 57), (121, 67), (121, 68), (121, 69), (121, 70), (121, 71), (121, 73), (121, 74), (121, 78), (121, 90), (121, 91)] [124, 125, 149, 151, 152, 154, 156, 157, 159, 160, 161, 162, 163, 164, 165, 166, 167, 168] [] FI FI' ∧ g_fr n SH [] [150, 153, 155, 158] [] FL FL' ∧ (rl_t (FI' 149) (FL' 150)) ∧ (rl_t (FI' 152) (FL' 153)) ∧ (rl_v (FI' 121 74) (FI' 152) (FL' 153) (FI' 156) (FI' 157)))) := by
                    intro m
                    induction m with
                    | zero => intro y2 FIv621 fr622 hI623 kp624 kp625 kp626 kp627 kp628 kp629 kp630 kp631 kp632 kp633 kp634 kp635 kp636 kp637 kp638 kp639 rl640 rl641 rl642 rl643 iv644 rw645 rw646 rw647 rw648 rw649 rw650 rw651 rw652 rw653 hm; omega
                    | succ m ih221 =>
                      intro y2 FIv621 fr622 hI623 kp624 kp625 kp626 kp627 kp628 kp629 kp630 kp631 kp632 kp633 kp634 kp635 kp636 kp637 kp638 kp639 rl640 rl641 rl642 rl643 iv644 rw645 rw646 rw647 rw648 rw649 rw650 rw651 rw652 rw653 hm
                      have rg_y2 := i_rng y2
                      have := congrArg Int32.toInt kp624
                      have := congrArg Int32.toInt kp625
                      have := congrArg Int32.toInt kp626
                      have := congrArg Int32.toInt kp627
                      have := congrArg Int32.toInt kp628
                      have := congrArg Int32.toInt kp629
                      have := congrArg Int32.toInt kp630
                      have := congrArg Int32.toInt kp631
                      have := congrArg Int32.toInt kp632
                      have := congrArg Int32.toInt kp633
                      have := congrArg Int32.toInt kp634
                      have := congrArg Int32.toInt kp635
                      have := congrArg Int32.toInt kp636
                      have := congrArg Int32.toInt kp637
                      have := congrArg Int32.toInt kp638
                      have := congrArg Int32.toInt kp639
                      refine xw_iloadn (aX12_compile 131 rfl) rfl ?_
                      refine hw_aloadn (aX12_compile 132 rfl) rfl ?_
                      refine hw_get (v := .ref (base + 125)) (aX12_compile 133 rfl) wf_RX12_20 (c121 hS) (s121 hS) (by decide) (congrArg (fun r => va_rf (h_rf base r)) (r121_4 hF)) ?_
                      refine hw_bp (v := (20 : Int32)) (aX12_compile 134 rfl) (by decide) ?_
                      refine xw_iloadn (aX12_compile 135 rfl) rfl ?_
                      refine xw_iadd (aX12_compile 136 rfl) ?_
                      refine hw_tie (A := (20) + ((y1_463).toInt)) (i_add (by decide : (20 : Int32).toInt = 20) rfl (by omega) (by omega)) (fun x655 e656 => ?_)
                      obtain ⟨x657, h658⟩ : ∃ y, FIv621 125 (x655).toNatClampNeg = y := ⟨_, rfl⟩
                      have h658l := congrArg Int32.toInt h658
                      have := i_rng x657
                      refine hw_iald (v := x657) (aX12_compile 137 rfl) (c125 hS) (s125 hS) (h_in e656 (by omega) (by omega)) (show FIv621 125 (x655).toNatClampNeg = x657 from h658) ?_
                      have b659 := gI_125 hI623 (i_lt (x := x655) e656 (by omega) (by omega)); rw [h658] at b659
                      have esz : (x657).toInt = (x612).toInt := by rw [← (show FIv621 125 (x655).toNatClampNeg = x657 from h658), show x655 = x602 from i_eqv (by omega), show FIv621 125 (x602).toNatClampNeg = x612 from kp639]
                      refine hw_icge (tgt := 269) (aX12_compile 138 rfl) (by decide) rfl rfl (fun cd660 => ?_) (fun cd660 => ?_)
                      · obtain ⟨x661, q663⟩ : ∃ y : Int32, (y1_463) + Int32.ofInt (1) = y := ⟨_, rfl⟩
                        have e662 : (x661).toInt = (y1_463).toInt + (1) := by rw [← q663]; exact i_add rfl (by decide) (by omega) (by omega)
                        refine xw_iinc (L2 := [(1, .int (x661)), (2, .int (y2)), (0, .ref (base + 121))]) (aX12_compile 160 rfl) rfl (by decide) (by rw [q663]; rfl) ?_
                        refine xw_goto (tgt := 151) (aX12_compile 161 rfl) (by decide) ?_
                        exact hw_L (ih151 (x661) FIv621 FL575 fr622 (gf_a fr467 u576 (by decide)) hI623 (show FIv621 121 0 = (0 : Int32) from kp624) (show FIv621 121 13 = (0 : Int32) from kp625) (show FIv621 121 67 = x22 from kp626) (show FIv621 121 68 = g133 from kp627) (show FIv621 121 69 = g135 from kp628) (show FIv621 121 73 = g137 from kp629) (show FIv621 149 0 = g139 from kp630) (show FIv621 121 78 = x449 from kp631) (show FIv621 121 74 = x449 from kp632) (show rl_t (FIv621 152) (FL575 153) from rl640) (show rl_e (FIv621 149) (FIv621 121 67) from rl641) (show rl_t (FIv621 149) (FL575 150) from rl642) (show rl_w (FIv621 121 67) (FIv621 149) (FL575 150) (FIv621 151) from rl643) (by have := (e662 : (x661).toInt = (y1_463).toInt + (1)); omega) (by have := (e662 : (x661).toInt = (y1_463).toInt + (1)); have := congrArg Int32.toInt (show FIv621 121 78 = x449 from kp631); omega) (show ∀ j : Nat, (j : Int) < (x661).toInt → FIv621 156 j = FIv621 159 j ∧ FIv621 157 j = FIv621 160 j from (by have := (e662 : (x661).toInt = (y1_463).toInt + (1)); exact (fun j hj => by rw [show FIv621 156 = va_up (FIv464 156) ((y1_463).toNatClampNeg) (x580) from rw650, show FIv621 157 = va_up (FIv464 157) ((y1_463).toNatClampNeg) (x591) from rw651, show FIv621 159 = FIv464 159 from rw652, show FIv621 160 = FIv464 160 from rw653]; by_cases e : j = (y1_463).toNatClampNeg; { subst e; simp only [va_up, if_pos]; exact ⟨(hv583).symm, (hv594).symm⟩ }; { have e2 : (y1_463).toNatClampNeg = (y1_463).toInt.toNat := i_cl rfl; simp only [va_up, if_neg e]; exact xi151_0 j (by omega) }))) (show FIv621 161 = FIj127 161 from rw645) (show FIv621 159 = FIj127 159 from rw646) (show FIv621 160 = FIj127 160 from rw647) (show FIv621 149 = FIj127 149 from rw648) (show FL575 150 = FLj141 150 from (up_row u576 (by decide) (rw488))) (show FIv621 152 = FIj127 152 from rw649) (show FL575 153 = FLj141 153 from (up_row u576 (by decide) (rw490))) (by have := (e662 : (x661).toInt = (y1_463).toInt + (1)); have := congrArg Int32.toInt (show FIv621 121 78 = x449 from kp631); omega)) ⟨rfl, rfl, trivial⟩
                      · refine hw_aloadn (aX12_compile 139 rfl) rfl ?_
                        refine hw_get (v := .ref (base + 124)) (aX12_compile 140 rfl) wf_RX12_17 (c121 hS) (s121 hS) (by decide) (congrArg (fun r => va_rf (h_rf base r)) (r121_3 hF)) ?_
                        refine hw_sp (v := (12000 : Int32)) (aX12_compile 141 rfl) (by decide) ?_
                        refine hw_sp (v := (600 : Int32)) (aX12_compile 142 rfl) (by decide) ?_
                        refine xw_iloadn (aX12_compile 143 rfl) rfl ?_
                        refine xw_imul (aX12_compile 144 rfl) ?_
                        refine hw_tie (A := (600) * ((y1_463).toInt)) (i_mul (by decide : (600 : Int32).toInt = 600) rfl (by omega) (by omega)) (fun x664 e665 => ?_)
                        refine xw_iadd (aX12_compile 145 rfl) ?_
                        refine hw_tie (A := (12000) + ((600) * ((y1_463).toInt))) (i_add (by decide : (12000 : Int32).toInt = 12000) e665 (by omega) (by omega)) (fun x666 e667 => ?_)
                        refine xw_iloadn (aX12_compile 146 rfl) rfl ?_
                        refine xw_iadd (aX12_compile 147 rfl) ?_
                        refine hw_tie (A := ((12000) + ((600) * ((y1_463).toInt))) + ((y2).toInt)) (i_add e667 rfl (by omega) (by omega)) (fun x668 e669 => ?_)
                        refine hw_aloadn (aX12_compile 148 rfl) rfl ?_
                        refine hw_get (v := .ref (base + 154)) (aX12_compile 149 rfl) wf_RX12_120 (c121 hS) (s121 hS) (by decide) (congrArg (fun r => va_rf (h_rf base r)) (r121_72 hF)) ?_
                        refine hw_aloadn (aX12_compile 150 rfl) rfl ?_
                        refine hw_get (v := .ref (base + 161)) (aX12_compile 151 rfl) wf_RX12_141 (c121 hS) (s121 hS) (by decide) (congrArg (fun r => va_rf (h_rf base r)) (r121_82 hF)) ?_
                        refine xw_iloadn (aX12_compile 152 rfl) rfl ?_
                        refine hw_iald (v := x609) (aX12_compile 153 rfl) (c161 hS) (s161 hS) (h_in rfl (by omega) (by omega)) (show FIv621 161 (y1_463).toNatClampNeg = x609 from kp638) ?_
                        refine xw_iloadn (aX12_compile 154 rfl) rfl ?_
                        refine xw_iadd (aX12_compile 155 rfl) ?_
                        refine hw_tie (A := ((x609).toInt) + ((y2).toInt)) (i_add rfl rfl (by omega) (by omega)) (fun x670 e671 => ?_)
                        obtain ⟨x672, h673⟩ : ∃ y, FIv621 154 (x670).toNatClampNeg = y := ⟨_, rfl⟩
                        have h673l := congrArg Int32.toInt h673
                        have := i_rng x672
                        refine hw_iald (v := x672) (aX12_compile 156 rfl) (c154 hS) (s154 hS) (h_in e671 (by omega) (by omega)) (show FIv621 154 (x670).toNatClampNeg = x672 from h673) ?_
                        have b674 := gI_154 hI623 (i_lt (x := x670) e671 (by omega) (by omega)); rw [h673] at b674
                        refine hv_iast (k := (x668).toNatClampNeg) (aX12_compile 157 rfl) (c124 hS) (s124 hS) (h_in e669 (by omega) (by omega)) rfl (fun FI675 u676 => ?_)
                        have rl677 : rl_t (FI675 152) (FL575 153) := by rw [show FI675 152 = FIv621 152 from up_row u676 (by decide) rfl]; exact rl640
                        have rl678 : rl_e (FI675 149) (FI675 121 67) := by rw [show FI675 149 = FIv621 149 from up_row u676 (by decide) rfl, show FI675 121 67 = FIv621 121 67 from up_c u676 (by decide) rfl]; exact rl641
                        have rl679 : rl_t (FI675 149) (FL575 150) := by rw [show FI675 149 = FIv621 149 from up_row u676 (by decide) rfl]; exact rl642
                        have rl680 : rl_w (FI675 121 67) (FI675 149) (FL575 150) (FI675 151) := by rw [show FI675 149 = FIv621 149 from up_row u676 (by decide) rfl, show FI675 151 = FIv621 151 from up_row u676 (by decide) rfl, show FI675 121 67 = FIv621 121 67 from up_c u676 (by decide) rfl]; exact rl643
                        have hI681 : g_I FI675 := gU_124 hI623 u676 (by omega) (by omega)
                        obtain ⟨x682, q684⟩ : ∃ y : Int32, (y2) + Int32.ofInt (1) = y := ⟨_, rfl⟩
                        have e683 : (x682).toInt = (y2).toInt + (1) := by rw [← q684]; exact i_add rfl (by decide) (by omega) (by omega)
                        refine xw_iinc (L2 := [(2, .int (x682)), (1, .int (y1_463)), (0, .ref (base + 121))]) (aX12_compile 158 rfl) rfl (by decide) (by rw [q684]; rfl) ?_
                        refine xw_goto (tgt := 221) (aX12_compile 159 rfl) (by decide) ?_
                        exact hw_L (ih221 (x682) FI675 (gf_a fr622 u676 (by decide)) hI681 (show FI675 121 0 = (0 : Int32) from (up_c u676 (by decide) (kp624))) (show FI675 121 13 = (0 : Int32) from (up_c u676 (by decide) (kp625))) (show FI675 121 67 = x22 from (up_c u676 (by decide) (kp626))) (show FI675 121 68 = g133 from (up_c u676 (by decide) (kp627))) (show FI675 121 69 = g135 from (up_c u676 (by decide) (kp628))) (show FI675 121 73 = g137 from (up_c u676 (by decide) (kp629))) (show FI675 149 0 = g139 from (up_c u676 (by decide) (kp630))) (show FI675 121 78 = x449 from (up_c u676 (by decide) (kp631))) (show FI675 121 74 = x449 from (up_c u676 (by decide) (kp632))) (show FI675 159 (y1_463).toNatClampNeg = x580 from (up_c u676 (by decide) (kp633))) (show FI675 156 (y1_463).toNatClampNeg = x580 from (up_c u676 (by decide) (kp634))) (show FI675 160 (y1_463).toNatClampNeg = x591 from (up_c u676 (by decide) (kp635))) (show FI675 157 (y1_463).toNatClampNeg = x591 from (up_c u676 (by decide) (kp636))) (show FI675 161 (x604).toNatClampNeg = x606 from (up_c u676 (by decide) (kp637))) (show FI675 161 (y1_463).toNatClampNeg = x609 from (up_c u676 (by decide) (kp638))) (show FI675 125 (x602).toNatClampNeg = x612 from (up_c u676 (by decide) (kp639))) (show rl_t (FI675 152) (FL575 153) from rl677) (show rl_e (FI675 149) (FI675 121 67) from rl678) (show rl_t (FI675 149) (FL575 150) from rl679) (show rl_w (FI675 121 67) (FI675 149) (FL575 150) (FI675 151) from rl680) (by have := (e683 : (x682).toInt = (y2).toInt + (1)); omega) (show FI675 161 = FIj127 161 from (up_row u676 (by decide) (rw645))) (show FI675 159 = FIj127 159 from (up_row u676 (by decide) (rw646))) (show FI675 160 = FIj127 160 from (up_row u676 (by decide) (rw647))) (show FI675 149 = FIj127 149 from (up_row u676 (by decide) (rw648))) (show FI675 152 = FIj127 152 from (up_row u676 (by decide) (rw649))) (show FI675 156 = va_up (FIv464 156) ((y1_463).toNatClampNeg) (x580) from (up_row u676 (by decide) (rw650))) (show FI675 157 = va_up (FIv464 157) ((y1_463).toNatClampNeg) (x591) from (up_row u676 (by decide) (rw651))) (show FI675 159 = FIv464 159 from (up_row u676 (by decide) (rw652))) (show FI675 160 = FIv464 160 from (up_row u676 (by decide) (rw653))) (by have := (e683 : (x682).toInt = (y2).toInt + (1)); omega)) ⟨rfl, rfl, rfl, trivial⟩
                  exact hw_L (lp654 ((600 - 0 : Int).toNat + 1) ((0 : Int32)) FI614 (gf_a (gf_a (gf_a fr466 u585 (by decide)) u596 (by decide)) u615 (by decide)) hI620 (show FI614 121 0 = (0 : Int32) from (up_c u615 (by decide) ((up_c u596 (by decide) ((up_c u585 (by decide) (kp469))))))) (show FI614 121 13 = (0 : Int32) from (up_c u615 (by decide) ((up_c u596 (by decide) ((up_c u585 (by decide) (kp470))))))) (show FI614 121 67 = x22 from (up_c u615 (by decide) ((up_c u596 (by decide) ((up_c u585 (by decide) (kp471))))))) (show FI614 121 68 = g133 from (up_c u615 (by decide) ((up_c u596 (by decide) ((up_c u585 (by decide) (kp472))))))) (show FI614 121 69 = g135 from (up_c u615 (by decide) ((up_c u596 (by decide) ((up_c u585 (by decide) (kp473))))))) (show FI614 121 73 = g137 from (up_c u615 (by decide) ((up_c u596 (by decide) ((up_c u585 (by decide) (kp474))))))) (show FI614 149 0 = g139 from (up_c u615 (by decide) ((up_c u596 (by decide) ((up_c u585 (by decide) (kp475))))))) (show FI614 121 78 = x449 from (up_c u615 (by decide) ((up_c u596 (by decide) ((up_c u585 (by decide) (kp476))))))) (show FI614 121 74 = x449 from (up_c u615 (by decide) ((up_c u596 (by decide) ((up_c u585 (by decide) (kp477))))))) (show FI614 159 (y1_463).toNatClampNeg = x580 from (up_c u615 (by decide) ((up_c u596 (by decide) ((up_c u585 (by decide) (h581))))))) (show FI614 156 (y1_463).toNatClampNeg = x580 from (up_c u615 (by decide) ((up_c u596 (by decide) (up_eq u585))))) (show FI614 160 (y1_463).toNatClampNeg = x591 from (up_c u615 (by decide) ((up_c u596 (by decide) (h592))))) (show FI614 157 (y1_463).toNatClampNeg = x591 from (up_c u615 (by decide) (up_eq u596))) (show FI614 161 (x604).toNatClampNeg = x606 from (up_c u615 (by decide) (h607))) (show FI614 161 (y1_463).toNatClampNeg = x609 from (up_c u615 (by decide) (h610))) (show FI614 125 (x602).toNatClampNeg = x612 from up_eq u615) (show rl_t (FI614 152) (FL575 153) from rl616) (show rl_e (FI614 149) (FI614 121 67) from rl617) (show rl_t (FI614 149) (FL575 150) from rl618) (show rl_w (FI614 121 67) (FI614 149) (FL575 150) (FI614 151) from rl619) (by have := ((by decide : (0 : Int32).toInt = 0) : ((0 : Int32)).toInt = 0); omega) (show FI614 161 = FIj127 161 from (up_row u615 (by decide) ((up_row u596 (by decide) ((up_row u585 (by decide) (rw484))))))) (show FI614 159 = FIj127 159 from (up_row u615 (by decide) ((up_row u596 (by decide) ((up_row u585 (by decide) (rw485))))))) (show FI614 160 = FIj127 160 from (up_row u615 (by decide) ((up_row u596 (by decide) ((up_row u585 (by decide) (rw486))))))) (show FI614 149 = FIj127 149 from (up_row u615 (by decide) ((up_row u596 (by decide) ((up_row u585 (by decide) (rw487))))))) (show FI614 152 = FIj127 152 from (up_row u615 (by decide) ((up_row u596 (by decide) ((up_row u585 (by decide) (rw489))))))) (show FI614 156 = va_up (FIv464 156) ((y1_463).toNatClampNeg) (x580) from (up_row u615 (by decide) ((up_row u596 (by decide) ((up_va u585 (rfl))))))) (show FI614 157 = va_up (FIv464 157) ((y1_463).toNatClampNeg) (x591) from (up_row u615 (by decide) ((up_va u596 ((up_row u585 (by decide) (rfl))))))) (show FI614 159 = FIv464 159 from (up_row u615 (by decide) ((up_row u596 (by decide) ((up_row u585 (by decide) (rfl))))))) (show FI614 160 = FIv464 160 from (up_row u615 (by decide) ((up_row u596 (by decide) ((up_row u585 (by decide) (rfl))))))) (by have := ((by decide : (0 : Int32).toInt = 0) : ((0 : Int32)).toInt = 0); omega)) ⟨rfl, rfl, rfl, trivial⟩
            exact hw_L (lp491 (((x449).toInt - 0 : Int).toNat + 1) ((0 : Int32)) FI456 FLj141 (gf_f fr128 u457 (by decide)) fr142 hI462 (show FI456 121 0 = (0 : Int32) from (up_k u457 (by decide) (kp130))) (show FI456 121 13 = (0 : Int32) from (up_k u457 (by decide) (kp131))) (show FI456 121 67 = x22 from (up_k u457 (by decide) (kp132))) (show FI456 121 68 = g133 from (up_k u457 (by decide) (kp134))) (show FI456 121 69 = g135 from (up_k u457 (by decide) (kp136))) (show FI456 121 73 = g137 from (up_k u457 (by decide) (kp138))) (show FI456 149 0 = g139 from (up_c u457 (by decide) (kp140))) (show FI456 121 78 = x449 from (up_k u457 (by decide) (h450))) (show FI456 121 74 = x449 from up_eq u457) (show rl_t (FI456 152) (FLj141 153) from rl458) (show rl_e (FI456 149) (FI456 121 67) from rl459) (show rl_t (FI456 149) (FLj141 150) from rl460) (show rl_w (FI456 121 67) (FI456 149) (FLj141 150) (FI456 151) from rl461) (by have := ((by decide : (0 : Int32).toInt = 0) : ((0 : Int32)).toInt = 0); omega) (by have := ((by decide : (0 : Int32).toInt = 0) : ((0 : Int32)).toInt = 0); have := congrArg Int32.toInt (show FI456 121 78 = x449 from (up_k u457 (by decide) (h450))); omega) (show ∀ j : Nat, (j : Int) < 0 → FI456 156 j = FI456 159 j ∧ FI456 157 j = FI456 160 j from (by have := ((by decide : (0 : Int32).toInt = 0) : ((0 : Int32)).toInt = 0); exact (fun j hj => by omega))) (show FI456 161 = FIj127 161 from (up_row u457 (by decide) (rfl))) (show FI456 159 = FIj127 159 from (up_row u457 (by decide) (rfl))) (show FI456 160 = FIj127 160 from (up_row u457 (by decide) (rfl))) (show FI456 149 = FIj127 149 from (up_row u457 (by decide) (rfl))) (show FLj141 150 = FLj141 150 from rfl) (show FI456 152 = FIj127 152 from (up_row u457 (by decide) (rfl))) (show FLj141 153 = FLj141 153 from rfl) (by have := ((by decide : (0 : Int32).toInt = 0) : ((0 : Int32)).toInt = 0); have := congrArg Int32.toInt (show FI456 121 78 = x449 from (up_k u457 (by decide) (h450))); omega)) ⟨rfl, rfl, trivial⟩
          · refine hw_aloadn (aX12_compile 48 rfl) rfl ?_
            refine hw_get (v := .ref (base + 161)) (aX12_compile 49 rfl) wf_RX12_141 (c121 hS) (s121 hS) (by decide) (congrArg (fun r => va_rf (h_rf base r)) (r121_82 hF)) ?_
            refine xw_iloadn (aX12_compile 50 rfl) rfl ?_
            refine hw_ic (v := (1 : Int32)) (aX12_compile 51 rfl) (by decide) ?_
            refine xw_iadd (aX12_compile 52 rfl) ?_
            refine hw_tie (A := ((y1).toInt) + (1)) (i_add rfl (by decide : (1 : Int32).toInt = 1) (by omega) (by omega)) (fun x685 e686 => ?_)
            obtain ⟨x687, h688⟩ : ∃ y, FIj127 161 (x685).toNatClampNeg = y := ⟨_, rfl⟩
            have h688l := congrArg Int32.toInt h688
            have := i_rng x687
            refine hw_iald (v := x687) (aX12_compile 53 rfl) (c161 hS) (s161 hS) (h_in e686 (by omega) (by omega)) (show FIj127 161 (x685).toNatClampNeg = x687 from h688) ?_
            have b689 := gI_161 hI129 (i_lt (x := x685) e686 (by omega) (by omega)); rw [h688] at b689
            refine hw_aloadn (aX12_compile 54 rfl) rfl ?_
            refine hw_get (v := .ref (base + 161)) (aX12_compile 55 rfl) wf_RX12_141 (c121 hS) (s121 hS) (by decide) (congrArg (fun r => va_rf (h_rf base r)) (r121_82 hF)) ?_
            refine xw_iloadn (aX12_compile 56 rfl) rfl ?_
            obtain ⟨x690, h691⟩ : ∃ y, FIj127 161 (y1).toNatClampNeg = y := ⟨_, rfl⟩
            have h691l := congrArg Int32.toInt h691
            have := i_rng x690
            refine hw_iald (v := x690) (aX12_compile 57 rfl) (c161 hS) (s161 hS) (h_in rfl (by omega) (by omega)) (show FIj127 161 (y1).toNatClampNeg = x690 from h691) ?_
            have b692 := gI_161 hI129 (i_lt (x := y1) rfl (by omega) (by omega)); rw [h691] at b692
            refine xw_isub (aX12_compile 58 rfl) ?_
            refine hw_tie (A := ((x687).toInt) - ((x690).toInt)) (i_sub rfl rfl (by omega) (by omega)) (fun x693 e694 => ?_)
            refine xw_istoren (L2 := [(2, .int (x693)), (1, .int (y1)), (0, .ref (base + 121))]) (aX12_compile 59 rfl) (by decide) rfl ?_
            refine hw_aloadn (aX12_compile 60 rfl) rfl ?_
            refine hw_get (v := .ref (base + 163)) (aX12_compile 61 rfl) wf_RX12_147 (c121 hS) (s121 hS) (by decide) (congrArg (fun r => va_rf (h_rf base r)) (r121_84 hF)) ?_
            refine xw_iloadn (aX12_compile 62 rfl) rfl ?_
            obtain ⟨x695, h696⟩ : ∃ y, FIj127 163 (y1).toNatClampNeg = y := ⟨_, rfl⟩
            have h696l := congrArg Int32.toInt h696
            have := i_rng x695
            refine hw_zald (v := x695) (aX12_compile 63 rfl) (c163 hS) (s163 hS) (h_in rfl (by omega) (by omega)) (show FIj127 163 (y1).toNatClampNeg = x695 from h696) ?_
            have b697 := gI_163 hI129 (i_lt (x := y1) rfl (by omega) (by omega)); rw [h696] at b697
            refine hw_ifne (tgt := 122) (aX12_compile 64 rfl) (by decide) rfl (fun cd698 => ?_) (fun cd698 => ?_)
            · refine hw_aloadn (aX12_compile 68 rfl) rfl ?_
              refine hw_bp (v := (7 : Int32)) (aX12_compile 69 rfl) (by decide) ?_
              refine hw_aloadn (aX12_compile 70 rfl) rfl ?_
              refine hw_get (v := .ref (base + 162)) (aX12_compile 71 rfl) wf_RX12_144 (c121 hS) (s121 hS) (by decide) (congrArg (fun r => va_rf (h_rf base r)) (r121_83 hF)) ?_
              refine xw_iloadn (aX12_compile 72 rfl) rfl ?_
              obtain ⟨x699, h700⟩ : ∃ y, FIj127 162 (y1).toNatClampNeg = y := ⟨_, rfl⟩
              have h700l := congrArg Int32.toInt h700
              have := i_rng x699
              refine hw_iald (v := x699) (aX12_compile 73 rfl) (c162 hS) (s162 hS) (h_in rfl (by omega) (by omega)) (show FIj127 162 (y1).toNatClampNeg = x699 from h700) ?_
              refine hw_callV (Bs := [.int ((7 : Int32)), .int (x699)]) (rest := []) (aX12_compile 74 rfl) wc_RX12_521 (by decide) rfl wi_yX12_faulty wv_yX12_faulty (c121 hS) (s121 hS) rfl rfl rfl (Nat.le_of_ble_eq_true rfl) (Nat.le_of_ble_eq_true rfl) (n_faulty (d := d + 9) hS hF hI129 ((7 : Int32)) (x699) ) (fun v701 sv702 p703 => ?_)
              obtain ⟨r704, rfl, FI705, rfl, hI706, f707⟩ := p703
              have rl708 : rl_t (FI705 152) (FLj141 153) := by rw [show FI705 152 = FIj127 152 from gf_row f707 (c152 hS) (s152 hS) rfl rfl]; exact rl143
              have rl709 : rl_e (FI705 149) (FI705 121 67) := by rw [show FI705 149 = FIj127 149 from gf_row f707 (c149 hS) (s149 hS) rfl rfl, show FI705 121 67 = FIj127 121 67 from gf_at f707 (c121 hS) (s121 hS) rfl rfl]; exact rl144
              have rl710 : rl_t (FI705 149) (FLj141 150) := by rw [show FI705 149 = FIj127 149 from gf_row f707 (c149 hS) (s149 hS) rfl rfl]; exact rl145
              have rl711 : rl_v (FI705 121 74) (FI705 152) (FLj141 153) (FI705 156) (FI705 157) := by rw [show FI705 152 = FIj127 152 from gf_row f707 (c152 hS) (s152 hS) rfl rfl, show FI705 156 = FIj127 156 from gf_row f707 (c156 hS) (s156 hS) rfl rfl, show FI705 157 = FIj127 157 from gf_row f707 (c157 hS) (s157 hS) rfl rfl, show FI705 121 74 = FIj127 121 74 from gf_at f707 (c121 hS) (s121 hS) rfl rfl]; exact rl146
              have rl712 : rl_w (FI705 121 67) (FI705 149) (FLj141 150) (FI705 151) := by rw [show FI705 149 = FIj127 149 from gf_row f707 (c149 hS) (s149 hS) rfl rfl, show FI705 151 = FIj127 151 from gf_row f707 (c151 hS) (s151 hS) rfl rfl, show FI705 121 67 = FIj127 121 67 from gf_at f707 (c121 hS) (s121 hS) rfl rfl]; exact rl147
              have rg_r704 := i_rng r704
              show hw zk base _ _ _ _ _ [.int (r704)] _ _
              refine xw_iret (aX12_compile 75 rfl) rfl rfl ?_
              exact ⟨r704, rfl, FI705, FLj141, rfl, hI706, (gf_tr ex_rf fr128 f707 rfl rfl rfl), fr142, (show rl_t (FI705 149) (FLj141 150) from rl710), (show rl_t (FI705 152) (FLj141 153) from rl708), (show rl_v (FI705 121 74) (FI705 152) (FLj141 153) (FI705 156) (FI705 157) from rl711)⟩
            · refine xw_iloadn (aX12_compile 65 rfl) rfl ?_
              refine hw_sp (v := (600 : Int32)) (aX12_compile 66 rfl) (by decide) ?_
              refine hw_icle (tgt := 135) (aX12_compile 67 rfl) (by decide) e694 (by decide : (600 : Int32).toInt = 600) (fun cd713 => ?_) (fun cd713 => ?_)
              · obtain ⟨x714, q716⟩ : ∃ y : Int32, (y1) + Int32.ofInt (1) = y := ⟨_, rfl⟩
                have e715 : (x714).toInt = (y1).toInt + (1) := by rw [← q716]; exact i_add rfl (by decide) (by omega) (by omega)
                refine xw_iinc (L2 := [(1, .int (x714)), (2, .int (x693)), (0, .ref (base + 121))]) (aX12_compile 76 rfl) rfl (by decide) (by rw [q716]; rfl) ?_
                refine xw_goto (tgt := 82) (aX12_compile 77 rfl) (by decide) ?_
                exact hw_L (ih (x714) (by have := (e715 : (x714).toInt = (y1).toInt + (1)); omega) (by have := (e715 : (x714).toInt = (y1).toInt + (1)); have := congrArg Int32.toInt (show FIj127 121 78 = x449 from h450); omega) (show ∀ j : Nat, (j : Int) < (x714).toInt → (FIj127 161 (j + 1)).toInt - (FIj127 161 j).toInt ≤ 600 from (by have := (e715 : (x714).toInt = (y1).toInt + (1)); exact (fun j hj => by rcases Int.lt_or_le (j : Int) (y1).toInt with h | h; { exact xi82_0 j h }; { have e0 : j = (y1).toNatClampNeg := (by rw [i_cl (x := y1) rfl]; omega); have e1 : j + 1 = (x685).toNatClampNeg := (by rw [i_cl (x := x685) rfl]; have := e686; omega); rw [e1, show FIj127 161 (x685).toNatClampNeg = x687 from h688, e0, show FIj127 161 (y1).toNatClampNeg = x690 from h691]; have := e694; omega }))) (by have := (e715 : (x714).toInt = (y1).toInt + (1)); have := congrArg Int32.toInt (show FIj127 121 78 = x449 from h450); omega)) ⟨rfl, rfl, trivial⟩
              · refine hw_aloadn (aX12_compile 68 rfl) rfl ?_
                refine hw_bp (v := (7 : Int32)) (aX12_compile 69 rfl) (by decide) ?_
                refine hw_aloadn (aX12_compile 70 rfl) rfl ?_
                refine hw_get (v := .ref (base + 162)) (aX12_compile 71 rfl) wf_RX12_144 (c121 hS) (s121 hS) (by decide) (congrArg (fun r => va_rf (h_rf base r)) (r121_83 hF)) ?_
                refine xw_iloadn (aX12_compile 72 rfl) rfl ?_
                obtain ⟨x717, h718⟩ : ∃ y, FIj127 162 (y1).toNatClampNeg = y := ⟨_, rfl⟩
                have h718l := congrArg Int32.toInt h718
                have := i_rng x717
                refine hw_iald (v := x717) (aX12_compile 73 rfl) (c162 hS) (s162 hS) (h_in rfl (by omega) (by omega)) (show FIj127 162 (y1).toNatClampNeg = x717 from h718) ?_
                refine hw_callV (Bs := [.int ((7 : Int32)), .int (x717)]) (rest := []) (aX12_compile 74 rfl) wc_RX12_521 (by decide) rfl wi_yX12_faulty wv_yX12_faulty (c121 hS) (s121 hS) rfl rfl rfl (Nat.le_of_ble_eq_true rfl) (Nat.le_of_ble_eq_true rfl) (n_faulty (d := d + 9) hS hF hI129 ((7 : Int32)) (x717) ) (fun v719 sv720 p721 => ?_)
                obtain ⟨r722, rfl, FI723, rfl, hI724, f725⟩ := p721
                have rl726 : rl_t (FI723 152) (FLj141 153) := by rw [show FI723 152 = FIj127 152 from gf_row f725 (c152 hS) (s152 hS) rfl rfl]; exact rl143
                have rl727 : rl_e (FI723 149) (FI723 121 67) := by rw [show FI723 149 = FIj127 149 from gf_row f725 (c149 hS) (s149 hS) rfl rfl, show FI723 121 67 = FIj127 121 67 from gf_at f725 (c121 hS) (s121 hS) rfl rfl]; exact rl144
                have rl728 : rl_t (FI723 149) (FLj141 150) := by rw [show FI723 149 = FIj127 149 from gf_row f725 (c149 hS) (s149 hS) rfl rfl]; exact rl145
                have rl729 : rl_v (FI723 121 74) (FI723 152) (FLj141 153) (FI723 156) (FI723 157) := by rw [show FI723 152 = FIj127 152 from gf_row f725 (c152 hS) (s152 hS) rfl rfl, show FI723 156 = FIj127 156 from gf_row f725 (c156 hS) (s156 hS) rfl rfl, show FI723 157 = FIj127 157 from gf_row f725 (c157 hS) (s157 hS) rfl rfl, show FI723 121 74 = FIj127 121 74 from gf_at f725 (c121 hS) (s121 hS) rfl rfl]; exact rl146
                have rl730 : rl_w (FI723 121 67) (FI723 149) (FLj141 150) (FI723 151) := by rw [show FI723 149 = FIj127 149 from gf_row f725 (c149 hS) (s149 hS) rfl rfl, show FI723 151 = FIj127 151 from gf_row f725 (c151 hS) (s151 hS) rfl rfl, show FI723 121 67 = FIj127 121 67 from gf_at f725 (c121 hS) (s121 hS) rfl rfl]; exact rl147
                have rg_r722 := i_rng r722
                show hw zk base _ _ _ _ _ [.int (r722)] _ _
                refine xw_iret (aX12_compile 75 rfl) rfl rfl ?_
                exact ⟨r722, rfl, FI723, FLj141, rfl, hI724, (gf_tr ex_rf fr128 f725 rfl rfl rfl), fr142, (show rl_t (FI723 149) (FLj141 150) from rl728), (show rl_t (FI723 152) (FLj141 153) from rl726), (show rl_v (FI723 121 74) (FI723 152) (FLj141 153) (FI723 156) (FI723 157) from rl729)⟩
      exact hw_L (lp454 (((x449).toInt - 0 : Int).toNat + 1) ((0 : Int32)) (by have := ((by decide : (0 : Int32).toInt = 0) : ((0 : Int32)).toInt = 0); omega) (by have := ((by decide : (0 : Int32).toInt = 0) : ((0 : Int32)).toInt = 0); have := congrArg Int32.toInt (show FIj127 121 78 = x449 from h450); omega) (show ∀ j : Nat, (j : Int) < 0 → (FIj127 161 (j + 1)).toInt - (FIj127 161 j).toInt ≤ 600 from (by have := ((by decide : (0 : Int32).toInt = 0) : ((0 : Int32)).toInt = 0); exact (fun j hj => by omega))) (by have := ((by decide : (0 : Int32).toInt = 0) : ((0 : Int32)).toInt = 0); have := congrArg Int32.toInt (show FIj127 121 78 = x449 from h450); omega)) ⟨rfl, rfl, trivial⟩
    · refine hw_aloadn (aX12_compile 35 rfl) rfl ?_
      refine hw_aloadn (aX12_compile 36 rfl) rfl ?_
      refine hw_get (v := .int (g135)) (aX12_compile 37 rfl) wf_RX12_475 (c121 hS) (s121 hS) (by decide) (congrArg Value.int (show FIj127 121 69 = g135 from kp136)) ?_
      refine hw_aloadn (aX12_compile 38 rfl) rfl ?_
      obtain ⟨x731, h732⟩ : ∃ y, FIj127 121 70 = y := ⟨_, rfl⟩
      have h732l := congrArg Int32.toInt h732
      have := i_rng x731
      refine hw_get (v := .int (x731)) (aX12_compile 39 rfl) wf_RX12_481 (c121 hS) (s121 hS) (by decide) (congrArg Value.int (show FIj127 121 70 = x731 from h732)) ?_
      refine hw_callV (Bs := [.int (g135), .int (x731)]) (rest := []) (aX12_compile 40 rfl) wc_RX12_521 (by decide) rfl wi_yX12_faulty wv_yX12_faulty (c121 hS) (s121 hS) rfl rfl rfl (Nat.le_of_ble_eq_true rfl) (Nat.le_of_ble_eq_true rfl) (n_faulty (d := d + 9) hS hF hI129 (g135) (x731) ) (fun v733 sv734 p735 => ?_)
      obtain ⟨r736, rfl, FI737, rfl, hI738, f739⟩ := p735
      have rl740 : rl_t (FI737 152) (FLj141 153) := by rw [show FI737 152 = FIj127 152 from gf_row f739 (c152 hS) (s152 hS) rfl rfl]; exact rl143
      have rl741 : rl_e (FI737 149) (FI737 121 67) := by rw [show FI737 149 = FIj127 149 from gf_row f739 (c149 hS) (s149 hS) rfl rfl, show FI737 121 67 = FIj127 121 67 from gf_at f739 (c121 hS) (s121 hS) rfl rfl]; exact rl144
      have rl742 : rl_t (FI737 149) (FLj141 150) := by rw [show FI737 149 = FIj127 149 from gf_row f739 (c149 hS) (s149 hS) rfl rfl]; exact rl145
      have rl743 : rl_v (FI737 121 74) (FI737 152) (FLj141 153) (FI737 156) (FI737 157) := by rw [show FI737 152 = FIj127 152 from gf_row f739 (c152 hS) (s152 hS) rfl rfl, show FI737 156 = FIj127 156 from gf_row f739 (c156 hS) (s156 hS) rfl rfl, show FI737 157 = FIj127 157 from gf_row f739 (c157 hS) (s157 hS) rfl rfl, show FI737 121 74 = FIj127 121 74 from gf_at f739 (c121 hS) (s121 hS) rfl rfl]; exact rl146
      have rl744 : rl_w (FI737 121 67) (FI737 149) (FLj141 150) (FI737 151) := by rw [show FI737 149 = FIj127 149 from gf_row f739 (c149 hS) (s149 hS) rfl rfl, show FI737 151 = FIj127 151 from gf_row f739 (c151 hS) (s151 hS) rfl rfl, show FI737 121 67 = FIj127 121 67 from gf_at f739 (c121 hS) (s121 hS) rfl rfl]; exact rl147
      have rg_r736 := i_rng r736
      show hw zk base _ _ _ _ _ [.int (r736)] _ _
      refine xw_iret (aX12_compile 41 rfl) rfl rfl ?_
      exact ⟨r736, rfl, FI737, FLj141, rfl, hI738, (gf_tr ex_rf fr128 f739 rfl rfl rfl), fr142, (show rl_t (FI737 149) (FLj141 150) from rl742), (show rl_t (FI737 152) (FLj141 153) from rl740), (show rl_v (FI737 121 74) (FI737 152) (FLj141 153) (FI737 156) (FI737 157) from rl743)⟩
  refine hw_ifne (tgt := 60) (aX12_compile 22 rfl) (by decide) (by decide : (0 : Int32).toInt = 0) (fun cd745 => ?_) (fun cd745 => ?_)
  · omega
  · refine hw_aloadn (aX12_compile 23 rfl) rfl ?_
    refine hw_get (v := .ref (base + 149)) (aX12_compile 24 rfl) wf_RX12_105 (c121 hS) (s121 hS) (by decide) (congrArg (fun r => va_rf (h_rf base r)) (r121_62 hF)) ?_
    refine hw_aloadn (aX12_compile 25 rfl) rfl ?_
    refine hw_get (v := .int ((0 : Int32))) (aX12_compile 26 rfl) wf_RX12_478 (c121 hS) (s121 hS) (by decide) (congrArg Value.int (show FI57 121 68 = (0 : Int32) from (up_k u58 (by decide) ((up_k u50 (by decide) ((up_k u42 (by decide) (up_eq u34)))))))) ?_
    obtain ⟨x746, h747⟩ : ∃ y, FI57 149 0 = y := ⟨_, rfl⟩
    have h747l := congrArg Int32.toInt h747
    have := i_rng x746
    refine hw_iald (v := x746) (aX12_compile 27 rfl) (c149 hS) (s149 hS) (h_in (by decide : (0 : Int32).toInt = 0) (by omega) (by omega)) (show FI57 149 ((0 : Int32)).toNatClampNeg = x746 from h747) ?_
    refine hw_ifeq (tgt := 60) (aX12_compile 28 rfl) (by decide) rfl (fun cd748 => ?_) (fun cd748 => ?_)
    · exact hw_L (j445 ((0 : Int32)) ((0 : Int32)) ((0 : Int32)) (x746) FI57 FL12 (gf_f (gf_f (gf_f (gf_f (gf_f (gf_tr ex_rf (gf_f gf_rf u2 (by decide)) f14 rfl rfl rfl) u26 (by decide)) u34 (by decide)) u42 (by decide)) u50 (by decide)) u58 (by decide)) hI64 (show FI57 121 0 = (0 : Int32) from (up_k u58 (by decide) ((up_k u50 (by decide) ((up_k u42 (by decide) ((up_k u34 (by decide) ((up_k u26 (by decide) ((gf_at f14 (c121 hS) (s121 hS) rfl (up_eq u2))))))))))))) (show FI57 121 13 = (0 : Int32) from (up_k u58 (by decide) ((up_k u50 (by decide) ((up_k u42 (by decide) ((up_k u34 (by decide) (up_eq u26))))))))) (show FI57 121 67 = x22 from (up_k u58 (by decide) ((up_k u50 (by decide) ((up_k u42 (by decide) ((up_k u34 (by decide) ((up_k u26 (by decide) (h23))))))))))) (show FI57 121 68 = (0 : Int32) from (up_k u58 (by decide) ((up_k u50 (by decide) ((up_k u42 (by decide) (up_eq u34))))))) (by have := ((by decide : (0 : Int32).toInt = 0) : ((0 : Int32)).toInt = 0); show 0 ≤ ((0 : Int32)).toInt ∧ ((0 : Int32)).toInt ≤ 1000; omega) (show FI57 121 69 = (0 : Int32) from (up_k u58 (by decide) ((up_k u50 (by decide) (up_eq u42))))) (show FI57 121 73 = (0 : Int32) from up_eq u58) (by have := ((by decide : (0 : Int32).toInt = 0) : ((0 : Int32)).toInt = 0); show 0 ≤ ((0 : Int32)).toInt ∧ ((0 : Int32)).toInt ≤ 30000; omega) (show FI57 149 0 = x746 from h747) (gf_tr ex_rf gf_rf f15 rfl rfl rfl) (show rl_t (FI57 152) (FL12 153) from rl60) (show rl_e (FI57 149) (FI57 121 67) from rl62) (show rl_t (FI57 149) (FL12 150) from rl59) (show rl_v (FI57 121 74) (FI57 152) (FL12 153) (FI57 156) (FI57 157) from rl61) (show rl_w (FI57 121 67) (FI57 149) (FL12 150) (FI57 151) from rl63) (show (FI57 121 69).toInt = 0 → rl_mv (FI57 121 78) (FI57 121 67) (FI57 149) (FL12 150) (FI57 159) (FI57 160) from (fun _ => rl_mv_0 (by have := congrArg Int32.toInt (show FI57 121 78 = (0 : Int32) from (up_k u58 (by decide) (up_eq u50))); have := ((by decide : (0 : Int32).toInt = 0) : ((0 : Int32)).toInt = 0); omega))) (show (FI57 121 69).toInt = 0 → rl_mb (FI57 121 78) (FI57 161) (FI57 121 73).toInt from (fun _ => rl_mb_0 (by have := congrArg Int32.toInt (show FI57 121 78 = (0 : Int32) from (up_k u58 (by decide) (up_eq u50))); have := ((by decide : (0 : Int32).toInt = 0) : ((0 : Int32)).toInt = 0); omega))) (show (FI57 121 69).toInt = 0 → (FI57 121 73).toInt ≤ 4 * wp (FI57 151) (FI57 121 68) from (fun _ => (by have := wp_r rl63 (t := FI57 121 68) (by have := congrArg Int32.toInt (show FI57 121 67 = x22 from (up_k u58 (by decide) ((up_k u50 (by decide) ((up_k u42 (by decide) ((up_k u34 (by decide) ((up_k u26 (by decide) (h23))))))))))); have := congrArg Int32.toInt (show FI57 121 68 = (0 : Int32) from (up_k u58 (by decide) ((up_k u50 (by decide) ((up_k u42 (by decide) (up_eq u34))))))); have := ((by decide : (0 : Int32).toInt = 0) : ((0 : Int32)).toInt = 0); omega) (by have := congrArg Int32.toInt (show FI57 121 67 = x22 from (up_k u58 (by decide) ((up_k u50 (by decide) ((up_k u42 (by decide) ((up_k u34 (by decide) ((up_k u26 (by decide) (h23))))))))))); have := congrArg Int32.toInt (show FI57 121 68 = (0 : Int32) from (up_k u58 (by decide) ((up_k u50 (by decide) ((up_k u42 (by decide) (up_eq u34))))))); have := ((by decide : (0 : Int32).toInt = 0) : ((0 : Int32)).toInt = 0); omega); have := congrArg Int32.toInt (show FI57 121 73 = (0 : Int32) from up_eq u58); have := ((by decide : (0 : Int32).toInt = 0) : ((0 : Int32)).toInt = 0); omega))) (by have := ((by decide : (0 : Int32).toInt = 0) : ((0 : Int32)).toInt = 0); show 0 ≤ (x22).toInt - 1; omega)) ⟨rfl, trivial⟩
    · have hn67 := congrArg Int32.toInt (show FI57 121 67 = x22 from (up_k u58 (by decide) ((up_k u50 (by decide) ((up_k u42 (by decide) ((up_k u34 (by decide) ((up_k u26 (by decide) (h23)))))))))))
      have hne53 := rl_e_ne rl62 (t := (0 : Int32)) (by rw [show ((0 : Int32)).toNatClampNeg = 0 from by decide]; have := congrArg Int32.toInt (show FI57 149 0 = x746 from h747); omega)
      have lp766 : ∀ (m : Nat) (FIv749 : Nat → Nat → Int32) (FLv750 : Nat → Nat → Int64), (g_fr n SH [(121, 0), (121, 13), (121, 31), (121, 32), (121, 53), (121, 54), (121, 55), (121, 56), (121, 57), (121, 67), (121, 68), (121, 69), (121, 70), (121, 71), (121, 73), (121, 74), (121, 78), (121, 90), (121, 91)] [124, 125, 149, 151, 152, 154, 156, 157, 159, 160, 161, 162, 163, 164, 165, 166, 167, 168] [] FI FIv749) → (g_fr n SH [] [150, 153, 155, 158] [] FL FLv750) → (g_I FIv749) → (FIv749 121 0 = (0 : Int32)) → (FIv749 121 67 = x22) → (FIv749 121 13 = (0 : Int32)) → (FIv749 149 0 = x746) → (rl_t (FIv749 149) (FLv750 150)) → (rl_t (FIv749 152) (FLv750 153)) → (rl_v (FIv749 121 74) (FIv749 152) (FLv750 153) (FIv749 156) (FIv749 157)) → (rl_e (FIv749 149) (FIv749 121 67)) → (rl_w (FIv749 121 67) (FIv749 149) (FLv750 150) (FIv749 151)) → ((FIv749 121 69).toInt = 0) → ((FIv749 121 68).toInt < (x22).toInt - 1) → ((FIv749 121 73).toInt ≤ 20 * (FIv749 121 68).toInt) → (rl_mv (FIv749 121 78) (FIv749 121 67) (FIv749 149) (FLv750 150) (FIv749 159) (FIv749 160)) → (rl_mb (FIv749 121 78) (FIv749 161) (FIv749 121 73).toInt) → ((FIv749 121 73).toInt ≤ 4 * wp (FIv749 151) (FIv749 121 68)) → 1001 - (FIv749 121 68).toInt < m → hw zk base (d + 11) none 225 53 [(0, .ref (base + 121))] [] (n, sl, SH, FIv749, FLv750, FR) (h_I (fun r s => ∃ FI' FL', s = (n, sl, SH, FI', FL', FR) ∧ g_I FI' ∧ g_fr n SH [(121, 0), (121, 13), (121, 31), (121, 32), (121, 53), (121, 54), (121, 55), (121, 56), (121, 57), (121, 67), (121, 68), (121, 69), (121, 70), (121, 71), (121, 73), (121, 74), (121, 78), (121, 90), (121, 91)] [124, 125, 149, 151, 152, 154, 156, 157, 159, 160, 161, 162, 163, 164, 165, 166, 167, 168] [] FI FI' ∧ g_fr n SH [] [150, 153, 155, 158] [] FL FL' ∧ (rl_t (FI' 149) (FL' 150)) ∧ (rl_t (FI' 152) (FL' 153)) ∧ (rl_v (FI' 121 74) (FI' 152) (FL' 153) (FI' 156) (FI' 157)))) := by
        intro m
        induction m with
        | zero => intro FIv749 FLv750 fr751 fr752 hI753 kp754 kp755 kp756 kp757 rl758 rl759 rl760 rl761 rl762 iv763 iv764 iv765 xi53_0 xi53_1 xi53_2 hm; omega
        | succ m ih =>
          intro FIv749 FLv750 fr751 fr752 hI753 kp754 kp755 kp756 kp757 rl758 rl759 rl760 rl761 rl762 iv763 iv764 iv765 xi53_0 xi53_1 xi53_2 hm
          have := congrArg Int32.toInt kp754
          have := congrArg Int32.toInt kp755
          have := congrArg Int32.toInt kp756
          have := congrArg Int32.toInt kp757
          obtain ⟨x767, h768⟩ : ∃ y, FIv749 121 69 = y := ⟨_, rfl⟩
          have h768l := congrArg Int32.toInt h768
          have := i_rng x767
          obtain ⟨x769, h770⟩ : ∃ y, FIv749 121 68 = y := ⟨_, rfl⟩
          have h770l := congrArg Int32.toInt h770
          have b771 := gI_121_68 hI753; rw [h770] at b771
          obtain ⟨x772, h773⟩ : ∃ y, FIv749 121 73 = y := ⟨_, rfl⟩
          have h773l := congrArg Int32.toInt h773
          have b774 := gI_121_73 hI753; rw [h773] at b774
          have hn67 := congrArg Int32.toInt (show FIv749 121 67 = x22 from kp755)
          have hne53 := rl_e_ne rl761 (t := (0 : Int32)) (by rw [show ((0 : Int32)).toNatClampNeg = 0 from by decide]; have := congrArg Int32.toInt (show FIv749 149 0 = x746 from kp757); omega)
          refine hw_aloadn (aX12_compile 29 rfl) rfl ?_
          refine hw_callV (Bs := []) (rest := []) (aX12_compile 30 rfl) wc_RX12_518 (by decide) rfl wi_yX12_declared wv_yX12_declared (c121 hS) (s121 hS) rfl rfl rfl (Nat.le_of_ble_eq_true rfl) (Nat.le_of_ble_eq_true rfl) (n_declared (d := d) hS hF hI753 (by have := congrArg Int32.toInt (show FIv749 121 68 = x769 from h770); have := congrArg Int32.toInt (show FIv749 121 67 = x22 from kp755); omega) (by have := congrArg Int32.toInt (show FIv749 121 69 = x767 from h768); omega) (by have := congrArg Int32.toInt (show FIv749 121 73 = x772 from h773); have := congrArg Int32.toInt (show FIv749 121 68 = x769 from h770); omega) (xi53_0) (xi53_1) (show rl_e (FIv749 149) (FIv749 121 67) from rl761) (show rl_t (FIv749 149) (FLv750 150) from rl758) (show rl_w (FIv749 121 67) (FIv749 149) (FLv750 150) (FIv749 151) from rl762)) (fun v775 sv776 p777 => ?_)
          have := congrArg Int32.toInt (show FIv749 121 68 = x769 from h770)
          obtain ⟨rfl, FI779, FL780, rfl, hI781, f782, f783, t784, t785, t786, u787, u788, u789⟩ := p777
          have rl790 : rl_t (FI779 149) (FL780 150) := by rw [show FI779 149 = FIv749 149 from gf_row f782 (c149 hS) (s149 hS) rfl rfl, show FL780 150 = FLv750 150 from gf_row f783 (c150 hS) (s150 hS) rfl rfl]; exact rl758
          have rl791 : rl_t (FI779 152) (FL780 153) := by rw [show FI779 152 = FIv749 152 from gf_row f782 (c152 hS) (s152 hS) rfl rfl, show FL780 153 = FLv750 153 from gf_row f783 (c153 hS) (s153 hS) rfl rfl]; exact rl759
          have rl792 : rl_v (FI779 121 74) (FI779 152) (FL780 153) (FI779 156) (FI779 157) := by rw [show FI779 152 = FIv749 152 from gf_row f782 (c152 hS) (s152 hS) rfl rfl, show FL780 153 = FLv750 153 from gf_row f783 (c153 hS) (s153 hS) rfl rfl, show FI779 156 = FIv749 156 from gf_row f782 (c156 hS) (s156 hS) rfl rfl, show FI779 157 = FIv749 157 from gf_row f782 (c157 hS) (s157 hS) rfl rfl, show FI779 121 74 = FIv749 121 74 from gf_at f782 (c121 hS) (s121 hS) rfl rfl]; exact rl760
          have rl793 : rl_e (FI779 149) (FI779 121 67) := by rw [show FI779 149 = FIv749 149 from gf_row f782 (c149 hS) (s149 hS) rfl rfl, show FI779 121 67 = FIv749 121 67 from gf_at f782 (c121 hS) (s121 hS) rfl rfl]; exact rl761
          have rl794 : rl_w (FI779 121 67) (FI779 149) (FL780 150) (FI779 151) := by rw [show FI779 149 = FIv749 149 from gf_row f782 (c149 hS) (s149 hS) rfl rfl, show FL780 150 = FLv750 150 from gf_row f783 (c150 hS) (s150 hS) rfl rfl, show FI779 151 = FIv749 151 from gf_row f782 (c151 hS) (s151 hS) rfl rfl, show FI779 121 67 = FIv749 121 67 from gf_at f782 (c121 hS) (s121 hS) rfl rfl]; exact rl762
          obtain ⟨x795, h796⟩ : ∃ y, FI779 121 68 = y := ⟨_, rfl⟩
          have h796l := congrArg Int32.toInt h796
          have b797 := gI_121_68 hI781; rw [h796] at b797
          have := congrArg Int32.toInt (show FI779 121 67 = x22 from (gf_at f782 (c121 hS) (s121 hS) rfl (kp755)))
          obtain ⟨x798, h799⟩ : ∃ y, FI779 121 69 = y := ⟨_, rfl⟩
          have h799l := congrArg Int32.toInt h799
          have := i_rng x798
          obtain ⟨x800, h801⟩ : ∃ y, FI779 121 73 = y := ⟨_, rfl⟩
          have h801l := congrArg Int32.toInt h801
          have b802 := gI_121_73 hI781; rw [h801] at b802
          show hw zk base _ _ _ _ _ [] _ _
          refine xw_goto (tgt := 34) (aX12_compile 31 rfl) (by decide) ?_
          refine hw_aloadn (aX12_compile 20 rfl) rfl ?_
          refine hw_get (v := .int (x798)) (aX12_compile 21 rfl) wf_RX12_475 (c121 hS) (s121 hS) (by decide) (congrArg Value.int (show FI779 121 69 = x798 from h799)) ?_
          refine hw_ifne (tgt := 60) (aX12_compile 22 rfl) (by decide) rfl (fun cd803 => ?_) (fun cd803 => ?_)
          · exact hw_L (j445 (x795) (x798) (x800) (x746) FI779 FL780 (gf_tr ex_rf fr751 f782 rfl rfl rfl) hI781 (show FI779 121 0 = (0 : Int32) from (gf_at f782 (c121 hS) (s121 hS) rfl (kp754))) (show FI779 121 13 = (0 : Int32) from (gf_at f782 (c121 hS) (s121 hS) rfl (kp756))) (show FI779 121 67 = x22 from (gf_at f782 (c121 hS) (s121 hS) rfl (kp755))) (show FI779 121 68 = x795 from h796) (by show 0 ≤ (x795).toInt ∧ (x795).toInt ≤ 1000; omega) (show FI779 121 69 = x798 from h799) (show FI779 121 73 = x800 from h801) (by show 0 ≤ (x800).toInt ∧ (x800).toInt ≤ 30000; omega) (show FI779 149 0 = x746 from (gf_at f782 (c149 hS) (s149 hS) rfl (kp757))) (gf_tr ex_rf fr752 f783 rfl rfl rfl) (show rl_t (FI779 152) (FL780 153) from rl791) (show rl_e (FI779 149) (FI779 121 67) from rl793) (show rl_t (FI779 149) (FL780 150) from rl790) (show rl_v (FI779 121 74) (FI779 152) (FL780 153) (FI779 156) (FI779 157) from rl792) (show rl_w (FI779 121 67) (FI779 149) (FL780 150) (FI779 151) from rl794) (show (FI779 121 69).toInt = 0 → rl_mv (FI779 121 78) (FI779 121 67) (FI779 149) (FL780 150) (FI779 159) (FI779 160) from u787) (show (FI779 121 69).toInt = 0 → rl_mb (FI779 121 78) (FI779 161) (FI779 121 73).toInt from u788) (show (FI779 121 69).toInt = 0 → (FI779 121 73).toInt ≤ 4 * wp (FI779 151) (FI779 121 68) from (fun h => by have h1 := u789 h; have h2 := xi53_2; rw [show FI779 151 = FIv749 151 from (gf_row f782 (c151 hS) (s151 hS) rfl (rfl))]; omega)) (by show (x795).toInt ≤ (x22).toInt - 1; omega)) ⟨rfl, trivial⟩
          · refine hw_aloadn (aX12_compile 23 rfl) rfl ?_
            refine hw_get (v := .ref (base + 149)) (aX12_compile 24 rfl) wf_RX12_105 (c121 hS) (s121 hS) (by decide) (congrArg (fun r => va_rf (h_rf base r)) (r121_62 hF)) ?_
            refine hw_aloadn (aX12_compile 25 rfl) rfl ?_
            refine hw_get (v := .int (x795)) (aX12_compile 26 rfl) wf_RX12_478 (c121 hS) (s121 hS) (by decide) (congrArg Value.int (show FI779 121 68 = x795 from h796)) ?_
            obtain ⟨x804, h805⟩ : ∃ y, FI779 149 (x795).toNatClampNeg = y := ⟨_, rfl⟩
            have h805l := congrArg Int32.toInt h805
            have := i_rng x804
            refine hw_iald (v := x804) (aX12_compile 27 rfl) (c149 hS) (s149 hS) (h_in rfl (by omega) (by omega)) (show FI779 149 (x795).toNatClampNeg = x804 from h805) ?_
            refine hw_ifeq (tgt := 60) (aX12_compile 28 rfl) (by decide) rfl (fun cd806 => ?_) (fun cd806 => ?_)
            · exact hw_L (j445 (x795) (x798) (x800) (x746) FI779 FL780 (gf_tr ex_rf fr751 f782 rfl rfl rfl) hI781 (show FI779 121 0 = (0 : Int32) from (gf_at f782 (c121 hS) (s121 hS) rfl (kp754))) (show FI779 121 13 = (0 : Int32) from (gf_at f782 (c121 hS) (s121 hS) rfl (kp756))) (show FI779 121 67 = x22 from (gf_at f782 (c121 hS) (s121 hS) rfl (kp755))) (show FI779 121 68 = x795 from h796) (by show 0 ≤ (x795).toInt ∧ (x795).toInt ≤ 1000; omega) (show FI779 121 69 = x798 from h799) (show FI779 121 73 = x800 from h801) (by show 0 ≤ (x800).toInt ∧ (x800).toInt ≤ 30000; omega) (show FI779 149 0 = x746 from (gf_at f782 (c149 hS) (s149 hS) rfl (kp757))) (gf_tr ex_rf fr752 f783 rfl rfl rfl) (show rl_t (FI779 152) (FL780 153) from rl791) (show rl_e (FI779 149) (FI779 121 67) from rl793) (show rl_t (FI779 149) (FL780 150) from rl790) (show rl_v (FI779 121 74) (FI779 152) (FL780 153) (FI779 156) (FI779 157) from rl792) (show rl_w (FI779 121 67) (FI779 149) (FL780 150) (FI779 151) from rl794) (show (FI779 121 69).toInt = 0 → rl_mv (FI779 121 78) (FI779 121 67) (FI779 149) (FL780 150) (FI779 159) (FI779 160) from u787) (show (FI779 121 69).toInt = 0 → rl_mb (FI779 121 78) (FI779 161) (FI779 121 73).toInt from u788) (show (FI779 121 69).toInt = 0 → (FI779 121 73).toInt ≤ 4 * wp (FI779 151) (FI779 121 68) from (fun h => by have h1 := u789 h; have h2 := xi53_2; rw [show FI779 151 = FIv749 151 from (gf_row f782 (c151 hS) (s151 hS) rfl (rfl))]; omega)) (by show (x795).toInt ≤ (x22).toInt - 1; omega)) ⟨rfl, trivial⟩
            · have hn67 := congrArg Int32.toInt (show FI779 121 67 = x22 from (gf_at f782 (c121 hS) (s121 hS) rfl (kp755)))
              have hne53 := rl_e_ne rl793 (t := x795) (by omega)
              exact hw_L (ih FI779 FL780 (gf_tr ex_rf fr751 f782 rfl rfl rfl) (gf_tr ex_rf fr752 f783 rfl rfl rfl) hI781 (show FI779 121 0 = (0 : Int32) from (gf_at f782 (c121 hS) (s121 hS) rfl (kp754))) (show FI779 121 67 = x22 from (gf_at f782 (c121 hS) (s121 hS) rfl (kp755))) (show FI779 121 13 = (0 : Int32) from (gf_at f782 (c121 hS) (s121 hS) rfl (kp756))) (show FI779 149 0 = x746 from (gf_at f782 (c149 hS) (s149 hS) rfl (kp757))) (show rl_t (FI779 149) (FL780 150) from rl790) (show rl_t (FI779 152) (FL780 153) from rl791) (show rl_v (FI779 121 74) (FI779 152) (FL780 153) (FI779 156) (FI779 157) from rl792) (show rl_e (FI779 149) (FI779 121 67) from rl793) (show rl_w (FI779 121 67) (FI779 149) (FL780 150) (FI779 151) from rl794) (by have := congrArg Int32.toInt (show FI779 121 69 = x798 from h799); omega) (by have := congrArg Int32.toInt (show FI779 121 67 = x22 from (gf_at f782 (c121 hS) (s121 hS) rfl (kp755))); have := congrArg Int32.toInt (show FI779 121 68 = x795 from h796); omega) (by have := congrArg Int32.toInt (show FI779 121 68 = x795 from h796); have := congrArg Int32.toInt (show FI779 121 73 = x800 from h801); omega) (show rl_mv (FI779 121 78) (FI779 121 67) (FI779 149) (FL780 150) (FI779 159) (FI779 160) from (by exact (u787 (by have := congrArg Int32.toInt (show FI779 121 69 = x798 from h799); omega)))) (show rl_mb (FI779 121 78) (FI779 161) (FI779 121 73).toInt from (by exact (u788 (by have := congrArg Int32.toInt (show FI779 121 69 = x798 from h799); omega)))) (show (FI779 121 73).toInt ≤ 4 * wp (FI779 151) (FI779 121 68) from (by have := congrArg Int32.toInt (show FI779 121 73 = x800 from h801); exact (by have h1 := u789 (by have := congrArg Int32.toInt (show FI779 121 69 = x798 from h799); omega); have h2 := xi53_2; rw [show FI779 151 = FIv749 151 from (gf_row f782 (c151 hS) (s151 hS) rfl (rfl))]; omega))) (by have := congrArg Int32.toInt (show FI779 121 68 = x795 from h796); omega)) ⟨rfl, trivial⟩
      exact hw_L (lp766 ((1001 - 0 : Int).toNat + 1) FI57 FL12 (gf_f (gf_f (gf_f (gf_f (gf_f (gf_tr ex_rf (gf_f gf_rf u2 (by decide)) f14 rfl rfl rfl) u26 (by decide)) u34 (by decide)) u42 (by decide)) u50 (by decide)) u58 (by decide)) (gf_tr ex_rf gf_rf f15 rfl rfl rfl) hI64 (show FI57 121 0 = (0 : Int32) from (up_k u58 (by decide) ((up_k u50 (by decide) ((up_k u42 (by decide) ((up_k u34 (by decide) ((up_k u26 (by decide) ((gf_at f14 (c121 hS) (s121 hS) rfl (up_eq u2))))))))))))) (show FI57 121 67 = x22 from (up_k u58 (by decide) ((up_k u50 (by decide) ((up_k u42 (by decide) ((up_k u34 (by decide) ((up_k u26 (by decide) (h23))))))))))) (show FI57 121 13 = (0 : Int32) from (up_k u58 (by decide) ((up_k u50 (by decide) ((up_k u42 (by decide) ((up_k u34 (by decide) (up_eq u26))))))))) (show FI57 149 0 = x746 from h747) (show rl_t (FI57 149) (FL12 150) from rl59) (show rl_t (FI57 152) (FL12 153) from rl60) (show rl_v (FI57 121 74) (FI57 152) (FL12 153) (FI57 156) (FI57 157) from rl61) (show rl_e (FI57 149) (FI57 121 67) from rl62) (show rl_w (FI57 121 67) (FI57 149) (FL12 150) (FI57 151) from rl63) (by have := congrArg Int32.toInt (show FI57 121 69 = (0 : Int32) from (up_k u58 (by decide) ((up_k u50 (by decide) (up_eq u42))))); have := ((by decide : (0 : Int32).toInt = 0) : ((0 : Int32)).toInt = 0); omega) (by have := congrArg Int32.toInt (show FI57 121 67 = x22 from (up_k u58 (by decide) ((up_k u50 (by decide) ((up_k u42 (by decide) ((up_k u34 (by decide) ((up_k u26 (by decide) (h23))))))))))); have := congrArg Int32.toInt (show FI57 121 68 = (0 : Int32) from (up_k u58 (by decide) ((up_k u50 (by decide) ((up_k u42 (by decide) (up_eq u34))))))); have := ((by decide : (0 : Int32).toInt = 0) : ((0 : Int32)).toInt = 0); omega) (by have := congrArg Int32.toInt (show FI57 121 68 = (0 : Int32) from (up_k u58 (by decide) ((up_k u50 (by decide) ((up_k u42 (by decide) (up_eq u34))))))); have := ((by decide : (0 : Int32).toInt = 0) : ((0 : Int32)).toInt = 0); have := congrArg Int32.toInt (show FI57 121 73 = (0 : Int32) from up_eq u58); have := ((by decide : (0 : Int32).toInt = 0) : ((0 : Int32)).toInt = 0); omega) (show rl_mv (FI57 121 78) (FI57 121 67) (FI57 149) (FL12 150) (FI57 159) (FI57 160) from (by exact rl_mv_0 (by have := congrArg Int32.toInt (show FI57 121 78 = (0 : Int32) from (up_k u58 (by decide) (up_eq u50))); have := ((by decide : (0 : Int32).toInt = 0) : ((0 : Int32)).toInt = 0); omega))) (show rl_mb (FI57 121 78) (FI57 161) (FI57 121 73).toInt from (by exact rl_mb_0 (by have := congrArg Int32.toInt (show FI57 121 78 = (0 : Int32) from (up_k u58 (by decide) (up_eq u50))); have := ((by decide : (0 : Int32).toInt = 0) : ((0 : Int32)).toInt = 0); omega))) (show (FI57 121 73).toInt ≤ 4 * wp (FI57 151) (FI57 121 68) from (by have := congrArg Int32.toInt (show FI57 121 73 = (0 : Int32) from up_eq u58); have := ((by decide : (0 : Int32).toInt = 0) : ((0 : Int32)).toInt = 0); exact (by have := wp_r rl63 (t := FI57 121 68) (by have := congrArg Int32.toInt (show FI57 121 67 = x22 from (up_k u58 (by decide) ((up_k u50 (by decide) ((up_k u42 (by decide) ((up_k u34 (by decide) ((up_k u26 (by decide) (h23))))))))))); have := congrArg Int32.toInt (show FI57 121 68 = (0 : Int32) from (up_k u58 (by decide) ((up_k u50 (by decide) ((up_k u42 (by decide) (up_eq u34))))))); have := ((by decide : (0 : Int32).toInt = 0) : ((0 : Int32)).toInt = 0); omega) (by have := congrArg Int32.toInt (show FI57 121 67 = x22 from (up_k u58 (by decide) ((up_k u50 (by decide) ((up_k u42 (by decide) ((up_k u34 (by decide) ((up_k u26 (by decide) (h23))))))))))); have := congrArg Int32.toInt (show FI57 121 68 = (0 : Int32) from (up_k u58 (by decide) ((up_k u50 (by decide) ((up_k u42 (by decide) (up_eq u34))))))); have := ((by decide : (0 : Int32).toInt = 0) : ((0 : Int32)).toInt = 0); omega); have := congrArg Int32.toInt (show FI57 121 73 = (0 : Int32) from up_eq u58); have := ((by decide : (0 : Int32).toInt = 0) : ((0 : Int32)).toInt = 0); omega))) (by have := congrArg Int32.toInt (show FI57 121 68 = (0 : Int32) from (up_k u58 (by decide) ((up_k u50 (by decide) ((up_k u42 (by decide) (up_eq u34))))))); have := ((by decide : (0 : Int32).toInt = 0) : ((0 : Int32)).toInt = 0); omega)) ⟨rfl, trivial⟩
