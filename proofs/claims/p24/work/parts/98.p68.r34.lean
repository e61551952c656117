section
def nX12_compile : Nat := 0xac0c02b42a577c01b602032a0201b5032a2b01b5032addffa7010184502f1b6c00b42a1b7500b42a4f2e1b6900b42a1b7200b42a2100a2be01b42a1b3c0387ffa7010184d3ffa70102844f2e601c2e1b8d00b42a7800b42a601c60681b580211e02e111100b42a2600a22e601b14101400b42a1c3d034f642e1b8d00b42a2e60041b8d00b42a601b14101400b42a4f2e1b8a00b42a1b8100b42a4f2e1b8700b42a1b7e00b42a502f1b8400b42a1b7b00b42a7700a20302b42a1b3c030c02b50302b42a2ac8ffa7010184ac0902b62e1b9000b42a07102a1000a45802111c0a009a331b9300b42a3d642e1b8d00b42a2e60041b8d00b42a3600a20302b42a1b3c03ac0902b6e101b42adb01b42a2a100099db01b42ae9ffa70602b62a0a00992ede01b42a6900b42a16009adb01b42aed01b5032a0302b5032adb01b5032ade01b5032abe00b5032a0102b62abb00b5032a
theorem bX12_compile : cX12_compile.data.toList.map UInt8.toNat = x_un nX12_compile 337 := by decide +kernel
def iX12_compile : List (Nat × Jvm.ClassFile.Instr × Nat) := [(0, .aload_n 0, 1), (1, .iconst 0, 1), (2, .putfield 187, 3), (5, .aload_n 0, 1), (6, .invokevirtual 513, 3), (9, .aload_n 0, 1), (10, .iconst 0, 1), (11, .putfield 190, 3), (14, .aload_n 0, 1), (15, .iconst 0, 1), (16, .putfield 478, 3), (19, .aload_n 0, 1), (20, .iconst 0, 1), (21, .putfield 475, 3), (24, .aload_n 0, 1), (25, .iconst 0, 1), (26, .putfield 515, 3), (29, .aload_n 0, 1), (30, .iconst 0, 1), (31, .putfield 493, 3), (34, .aload_n 0, 1), (35, .getfield 475, 3), (38, .ifCond .ne 22, 3), (41, .aload_n 0, 1), (42, .getfield 105, 3), (45, .aload_n 0, 1), (46, .getfield 478, 3), (49, .iaload, 1), (50, .ifCond .eq 10, 3), (53, .aload_n 0, 1), (54, .invokevirtual 518, 3), (57, .goto (-23), 3), (60, .aload_n 0, 1), (61, .getfield 475, 3), (64, .ifCond .eq 16, 3), (67, .aload_n 0, 1), (68, .aload_n 0, 1), (69, .getfield 475, 3), (72, .aload_n 0, 1), (73, .getfield 481, 3), (76, .invokevirtual 521, 3), (79, .ireturn, 1), (80, .iconst 0, 1), (81, .istore_n 1, 1), (82, .iload_n 1, 1), (83, .aload_n 0, 1), (84, .getfield 515, 3), (87, .if_icmp .ge 54, 3), (90, .aload_n 0, 1), (91, .getfield 141, 3), (94, .iload_n 1, 1), (95, .iconst 1, 1), (96, .iadd, 1), (97, .iaload, 1), (98, .aload_n 0, 1), (99, .getfield 141, 3), (102, .iload_n 1, 1), (103, .iaload, 1), (104, .isub, 1), (105, .istore_n 2, 1), (106, .aload_n 0, 1), (107, .getfield 147, 3), (110, .iload_n 1, 1), (111, .baload, 1), (112, .ifCond .ne 10, 3), (115, .iload_n 2, 1), (116, .sipush 600, 3), (119, .if_icmp .le 16, 3), (122, .aload_n 0, 1), (123, .bipush 7, 2), (125, .aload_n 0, 1), (126, .getfield 144, 3), (129, .iload_n 1, 1), (130, .iaload, 1), (131, .invokevirtual 521, 3), (134, .ireturn, 1), (135, .iinc 1 1, 3), (138, .goto (-56), 3), (141, .aload_n 0, 1), (142, .aload_n 0, 1), (143, .getfield 515, 3), (146, .putfield 524, 3), (149, .iconst 0, 1), (150, .istore_n 1, 1), (151, .iload_n 1, 1), (152, .aload_n 0, 1), (153, .getfield 515, 3), (156, .if_icmp .ge 119, 3), (159, .aload_n 0, 1), (160, .getfield 123, 3), (163, .iload_n 1, 1), (164, .aload_n 0, 1), (165, .getfield 132, 3), (168, .iload_n 1, 1), (169, .laload, 1), (170, .lastore, 1), (171, .aload_n 0, 1), (172, .getfield 126, 3), (175, .iload_n 1, 1), (176, .aload_n 0, 1), (177, .getfield 135, 3), (180, .iload_n 1, 1), (181, .iaload, 1), (182, .iastore, 1), (183, .aload_n 0, 1), (184, .getfield 129, 3), (187, .iload_n 1, 1), (188, .aload_n 0, 1), (189, .getfield 138, 3), (192, .iload_n 1, 1), (193, .iaload, 1), (194, .iastore, 1), (195, .aload_n 0, 1), (196, .getfield 20, 3), (199, .bipush 20, 2), (201, .iload_n 1, 1), (202, .iadd, 1), (203, .aload_n 0, 1), (204, .getfield 141, 3), (207, .iload_n 1, 1), (208, .iconst 1, 1), (209, .iadd, 1), (210, .iaload, 1), (211, .aload_n 0, 1), (212, .getfield 141, 3), (215, .iload_n 1, 1), (216, .iaload, 1), (217, .isub, 1), (218, .iastore, 1), (219, .iconst 0, 1), (220, .istore_n 2, 1), (221, .iload_n 2, 1), (222, .aload_n 0, 1), (223, .getfield 20, 3), (226, .bipush 20, 2), (228, .iload_n 1, 1), (229, .iadd, 1), (230, .iaload, 1), (231, .if_icmp .ge 38, 3), (234, .aload_n 0, 1), (235, .getfield 17, 3), (238, .sipush 12000, 3), (241, .sipush 600, 3), (244, .iload_n 1, 1), (245, .imul, 1), (246, .iadd, 1), (247, .iload_n 2, 1), (248, .iadd, 1), (249, .aload_n 0, 1), (250, .getfield 120, 3), (253, .aload_n 0, 1), (254, .getfield 141, 3), (257, .iload_n 1, 1), (258, .iaload, 1), (259, .iload_n 2, 1), (260, .iadd, 1), (261, .iaload, 1), (262, .iastore, 1), (263, .iinc 2 1, 3), (266, .goto (-45), 3), (269, .iinc 1 1, 3), (272, .goto (-121), 3), (275, .iconst 0, 1), (276, .istore_n 1, 1), (277, .iload_n 1, 1), (278, .aload_n 0, 1), (279, .getfield 446, 3), (282, .if_icmp .ge 33, 3), (285, .aload_n 0, 1), (286, .getfield 114, 3), (289, .iload_n 1, 1), (290, .aload_n 0, 1), (291, .getfield 105, 3), (294, .iload_n 1, 1), (295, .iaload, 1), (296, .iastore, 1), (297, .aload_n 0, 1), (298, .getfield 117, 3), (301, .iload_n 1, 1), (302, .aload_n 0, 1), (303, .getfield 108, 3), (306, .iload_n 1, 1), (307, .laload, 1), (308, .lastore, 1), (309, .iinc 1 1, 3), (312, .goto (-35), 3), (315, .aload_n 0, 1), (316, .iconst 0, 1), (317, .putfield 299, 3), (320, .aload_n 0, 1), (321, .iconst 0, 1), (322, .putfield 258, 3), (325, .aload_n 0, 1), (326, .iconst 0, 1), (327, .iconst (-1), 1), (328, .invokevirtual 380, 3), (331, .pop, 1), (332, .aload_n 0, 1), (333, .getfield 524, 3), (336, .ireturn, 1)]
theorem dX12_compile : x_il nX12_compile 337 iX12_compile = true := by decide +kernel
theorem aX12_compile (k : Nat) {pc : Nat} {i : Jvm.ClassFile.Instr} {len : Nat} (hk : iX12_compile[k]? = some (pc, i, len)) : x_at xMM 225 pc i len yX12_compile 3 (some .int) := ⟨cX12_compile, rfl, x_il_ok bX12_compile dX12_compile k hk⟩
set_option maxHeartbeats 4000000 in
set_option maxRecDepth 100000 in
theorem n_compile {zk : xK} {base d n sl : Nat} {SH : Nat → Nat × Nat} {FI : Nat → Nat → Int32} {FL : Nat → Nat → Int64} {FR : Nat → Nat → Option Nat} (hS : h_S n SH) (hF : h_FR FR) (hI : g_I FI) (rel_tok : rl_t (FI 149) (FL 150)) (rel_kept : rl_t (FI 152) (FL 153)) (rel_var : rl_v (FI 121 74) (FI 152) (FL 153) (FI 156) (FI 157)) : hw zk base (d + 11) none 225 0 [(0, .ref (base + 121))] [] (n, sl, SH, FI, FL, FR) (h_I (fun r s => ∃ FI' FL', s = (n, sl, SH, FI', FL', FR) ∧ g_I FI' ∧ g_fr n SH [(121, 0), (121, 13), (121, 31), (121, 32), (121, 53), (121, 54), (121, 55), (121, 56), (121, 57), (121, 67), (121, 68), (121, 69), (121, 70), (121, 71), (121, 73), (121, 74), (121, 78), (121, 90), (121, 91)] [124, 125, 149, 151, 152, 154, 156, 157, 159, 160, 161, 162, 163, 164, 165, 166, 167, 168] [] FI FI' ∧ g_fr n SH [] [150, 153, 155, 158] [] FL FL' ∧ ((FI' 121 13).toInt = 0) ∧ (rl_t (FI' 149) (FL' 150)) ∧ (rl_t (FI' 152) (FL' 153)) ∧ (rl_v (FI' 121 74) (FI' 152) (FL' 153) (FI' 156) (FI' 157)))) := by
  obtain ⟨x1, h2⟩ : ∃ y, FI 121 13 = y := ⟨_, rfl⟩
  have h2l := congrArg Int32.toInt h2
  have b3 := gI_121_13 hI; rw [h2] at b3
  refine hw_aloadn (aX12_compile 0 rfl) rfl ?_
  refine hw_ic (v := (0 : Int32)) (aX12_compile 1 rfl) (by decide) ?_
  refine hv_puti (aX12_compile 2 rfl) wf_RX12_187 (c121 hS) (s121 hS) (by decide) rfl rfl (fun FI4 u5 => ?_)
  have rl6 : rl_t (FI4 149) (FL 150) := by rw [show FI4 149 = FI 149 from up_row u5 (by decide) rfl]; exact rel_tok
  have rl7 : rl_t (FI4 152) (FL 153) := by rw [show FI4 152 = FI 152 from up_row u5 (by decide) rfl]; exact rel_kept
  have rl8 : rl_v (FI4 121 74) (FI4 152) (FL 153) (FI4 156) (FI4 157) := by rw [show FI4 152 = FI 152 from up_row u5 (by decide) rfl, show FI4 156 = FI 156 from up_row u5 (by decide) rfl, show FI4 157 = FI 157 from up_row u5 (by decide) rfl, show FI4 121 74 = FI 121 74 from up_k u5 (by decide) rfl]; exact rel_var
  have hI9 : g_I FI4 := gU_F hI u5 rfl
  refine hw_aloadn (aX12_compile 3 rfl) rfl ?_
  refine hw_callV (Bs := []) (rest := []) (aX12_compile 4 rfl) wc_RX12_513 (by decide) rfl wi_yX12_tokens wv_yX12_tokens (c121 hS) (s121 hS) rfl rfl rfl (Nat.le_of_ble_eq_true rfl) (Nat.le_of_ble_eq_true rfl) (n_tokens (d := d + 8) hS hF hI9 (show rl_t (FI4 149) (FL 150) from rl6)) (fun v10 sv11 p12 => ?_)
  obtain ⟨rfl, FI14, FL15, rfl, hI16, f17, f18, t19, u20, u21, rl22⟩ := p12
  have rl23 : rl_t (FI14 152) (FL15 153) := by rw [show FI14 152 = FI4 152 from gf_row f17 (c152 hS) (s152 hS) rfl rfl, show FL15 153 = FL 153 from gf_row f18 (c153 hS) (s153 hS) rfl rfl]; exact rl7
  have rl24 : rl_v (FI14 121 74) (FI14 152) (FL15 153) (FI14 156) (FI14 157) := by rw [show FI14 152 = FI4 152 from gf_row f17 (c152 hS) (s152 hS) rfl rfl, show FL15 153 = FL 153 from gf_row f18 (c153 hS) (s153 hS) rfl rfl, show FI14 156 = FI4 156 from gf_row f17 (c156 hS) (s156 hS) rfl rfl, show FI14 157 = FI4 157 from gf_row f17 (c157 hS) (s157 hS) rfl rfl, show FI14 121 74 = FI4 121 74 from gf_at f17 (c121 hS) (s121 hS) rfl rfl]; exact rl8
  obtain ⟨x25, h26⟩ : ∃ y, FI14 121 67 = y := ⟨_, rfl⟩
  have h26l := congrArg Int32.toInt h26
  have b27 := gI_121_67 hI16; rw [h26] at b27
  show hw zk base _ _ _ _ _ [] _ _
  refine hw_aloadn (aX12_compile 5 rfl) rfl ?_
  refine hw_ic (v := (0 : Int32)) (aX12_compile 6 rfl) (by decide) ?_
  refine hv_puti (aX12_compile 7 rfl) wf_RX12_190 (c121 hS) (s121 hS) (by decide) rfl rfl (fun FI28 u29 => ?_)
  have rl30 : rl_t (FI28 149) (FL15 150) := by rw [show FI28 149 = FI14 149 from up_row u29 (by decide) rfl]; exact rl22
  have rl31 : rl_t (FI28 152) (FL15 153) := by rw [show FI28 152 = FI14 152 from up_row u29 (by decide) rfl]; exact rl23
  have rl32 : rl_v (FI28 121 74) (FI28 152) (FL15 153) (FI28 156) (FI28 157) := by rw [show FI28 152 = FI14 152 from up_row u29 (by decide) rfl, show FI28 156 = FI14 156 from up_row u29 (by decide) rfl, show FI28 157 = FI14 157 from up_row u29 (by decide) rfl, show FI28 121 74 = FI14 121 74 from up_k u29 (by decide) rfl]; exact rl24
  have rl33 : rl_e (FI28 149) (FI28 121 67) := by rw [show FI28 149 = FI14 149 from up_row u29 (by decide) rfl, show FI28 121 67 = FI14 121 67 from up_k u29 (by decide) rfl]; exact u20
  have rl34 : rl_w (FI28 121 67) (FI28 149) (FL15 150) (FI28 151) := by rw [show FI28 149 = FI14 149 from up_row u29 (by decide) rfl, show FI28 151 = FI14 151 from up_row u29 (by decide) rfl, show FI28 121 67 = FI14 121 67 from up_k u29 (by decide) rfl]; exact u21
  have hI35 : g_I FI28 := gU_121_13 hI16 u29 (by have := ((by decide : (0 : Int32).toInt = 0) : ((0 : Int32)).toInt = 0); omega) (by have := ((by decide : (0 : Int32).toInt = 0) : ((0 : Int32)).toInt = 0); omega)
  refine hw_aloadn (aX12_compile 8 rfl) rfl ?_
  refine hw_ic (v := (0 : Int32)) (aX12_compile 9 rfl) (by decide) ?_
  refine hv_puti (aX12_compile 10 rfl) wf_RX12_478 (c121 hS) (s121 hS) (by decide) rfl rfl (fun FI36 u37 => ?_)
  have rl38 : rl_t (FI36 149) (FL15 150) := by rw [show FI36 149 = FI28 149 from up_row u37 (by decide) rfl]; exact rl30
  have rl39 : rl_t (FI36 152) (FL15 153) := by rw [show FI36 152 = FI28 152 from up_row u37 (by decide) rfl]; exact rl31
  have rl40 : rl_v (FI36 121 74) (FI36 152) (FL15 153) (FI36 156) (FI36 157) := by rw [show FI36 152 = FI28 152 from up_row u37 (by decide) rfl, show FI36 156 = FI28 156 from up_row u37 (by decide) rfl, show FI36 157 = FI28 157 from up_row u37 (by decide) rfl, show FI36 121 74 = FI28 121 74 from up_k u37 (by decide) rfl]; exact rl32
  have rl41 : rl_e (FI36 149) (FI36 121 67) := by rw [show FI36 149 = FI28 149 from up_row u37 (by decide) rfl, show FI36 121 67 = FI28 121 67 from up_k u37 (by decide) rfl]; exact rl33
  have rl42 : rl_w (FI36 121 67) (FI36 149) (FL15 150) (FI36 151) := by rw [show FI36 149 = FI28 149 from up_row u37 (by decide) rfl, show FI36 151 = FI28 151 from up_row u37 (by decide) rfl, show FI36 121 67 = FI28 121 67 from up_k u37 (by decide) rfl]; exact rl34
  have hI43 : g_I FI36 := gU_121_68 hI35 u37 (by have := ((by decide : (0 : Int32).toInt = 0) : ((0 : Int32)).toInt = 0); omega) (by have := ((by decide : (0 : Int32).toInt = 0) : ((0 : Int32)).toInt = 0); omega)
  refine hw_aloadn (aX12_compile 11 rfl) rfl ?_
  refine hw_ic (v := (0 : Int32)) (aX12_compile 12 rfl) (by decide) ?_
  refine hv_puti (aX12_compile 13 rfl) wf_RX12_475 (c121 hS) (s121 hS) (by decide) rfl rfl (fun FI44 u45 => ?_)
  have rl46 : rl_t (FI44 149) (FL15 150) := by rw [show FI44 149 = FI36 149 from up_row u45 (by decide) rfl]; exact rl38
  have rl47 : rl_t (FI44 152) (FL15 153) := by rw [show FI44 152 = FI36 152 from up_row u45 (by decide) rfl]; exact rl39
  have rl48 : rl_v (FI44 121 74) (FI44 152) (FL15 153) (FI44 156) (FI44 157) := by rw [show FI44 152 = FI36 152 from up_row u45 (by decide) rfl, show FI44 156 = FI36 156 from up_row u45 (by decide) rfl, show FI44 157 = FI36 157 from up_row u45 (by decide) rfl, show FI44 121 74 = FI36 121 74 from up_k u45 (by decide) rfl]; exact rl40
  have rl49 : rl_e (FI44 149) (FI44 121 67) := by rw [show FI44 149 = FI36 149 from up_row u45 (by decide) rfl, show FI44 121 67 = FI36 121 67 from up_k u45 (by decide) rfl]; exact rl41
  have rl50 : rl_w (FI44 121 67) (FI44 149) (FL15 150) (FI44 151) := by rw [show FI44 149 = FI36 149 from up_row u45 (by decide) rfl, show FI44 151 = FI36 151 from up_row u45 (by decide) rfl, show FI44 121 67 = FI36 121 67 from up_k u45 (by decide) rfl]; exact rl42
  have hI51 : g_I FI44 := gU_F hI43 u45 rfl
  refine hw_aloadn (aX12_compile 14 rfl) rfl ?_
  refine hw_ic (v := (0 : Int32)) (aX12_compile 15 rfl) (by decide) ?_
  refine hv_puti (aX12_compile 16 rfl) wf_RX12_515 (c121 hS) (s121 hS) (by decide) rfl rfl (fun FI52 u53 => ?_)
  have rl54 : rl_t (FI52 149) (FL15 150) := by rw [show FI52 149 = FI44 149 from up_row u53 (by decide) rfl]; exact rl46
  have rl55 : rl_t (FI52 152) (FL15 153) := by rw [show FI52 152 = FI44 152 from up_row u53 (by decide) rfl]; exact rl47
  have rl56 : rl_v (FI52 121 74) (FI52 152) (FL15 153) (FI52 156) (FI52 157) := by rw [show FI52 152 = FI44 152 from up_row u53 (by decide) rfl, show FI52 156 = FI44 156 from up_row u53 (by decide) rfl, show FI52 157 = FI44 157 from up_row u53 (by decide) rfl, show FI52 121 74 = FI44 121 74 from up_k u53 (by decide) rfl]; exact rl48
  have rl57 : rl_e (FI52 149) (FI52 121 67) := by rw [show FI52 149 = FI44 149 from up_row u53 (by decide) rfl, show FI52 121 67 = FI44 121 67 from up_k u53 (by decide) rfl]; exact rl49
  have rl58 : rl_w (FI52 121 67) (FI52 149) (FL15 150) (FI52 151) := by rw [show FI52 149 = FI44 149 from up_row u53 (by decide) rfl, show FI52 151 = FI44 151 from up_row u53 (by decide) rfl, show FI52 121 67 = FI44 121 67 from up_k u53 (by decide) rfl]; exact rl50
  have hI59 : g_I FI52 := gU_121_78 hI51 u53 (by have := ((by decide : (0 : Int32).toInt = 0) : ((0 : Int32)).toInt = 0); omega) (by have := ((by decide : (0 : Int32).toInt = 0) : ((0 : Int32)).toInt = 0); omega)
  refine hw_aloadn (aX12_compile 17 rfl) rfl ?_
  refine hw_ic (v := (0 : Int32)) (aX12_compile 18 rfl) (by decide) ?_
  refine hv_puti (aX12_compile 19 rfl) wf_RX12_493 (c121 hS) (s121 hS) (by decide) rfl rfl (fun FI60 u61 => ?_)
  have rl62 : rl_t (FI60 149) (FL15 150) := by rw [show FI60 149 = FI52 149 from up_row u61 (by decide) rfl]; exact rl54
  have rl63 : rl_t (FI60 152) (FL15 153) := by rw [show FI60 152 = FI52 152 from up_row u61 (by decide) rfl]; exact rl55
  have rl64 : rl_v (FI60 121 74) (FI60 152) (FL15 153) (FI60 156) (FI60 157) := by rw [show FI60 152 = FI52 152 from up_row u61 (by decide) rfl, show FI60 156 = FI52 156 from up_row u61 (by decide) rfl, show FI60 157 = FI52 157 from up_row u61 (by decide) rfl, show FI60 121 74 = FI52 121 74 from up_k u61 (by decide) rfl]; exact rl56
  have rl65 : rl_e (FI60 149) (FI60 121 67) := by rw [show FI60 149 = FI52 149 from up_row u61 (by decide) rfl, show FI60 121 67 = FI52 121 67 from up_k u61 (by decide) rfl]; exact rl57
  have rl66 : rl_w (FI60 121 67) (FI60 149) (FL15 150) (FI60 151) := by rw [show FI60 149 = FI52 149 from up_row u61 (by decide) rfl, show FI60 151 = FI52 151 from up_row u61 (by decide) rfl, show FI60 121 67 = FI52 121 67 from up_k u61 (by decide) rfl]; exact rl58
  have hI67 : g_I FI60 := gU_121_73 hI59 u61 (by have := ((by decide : (0 : Int32).toInt = 0) : ((0 : Int32)).toInt = 0); omega) (by have := ((by decide : (0 : Int32).toInt = 0) : ((0 : Int32)).toInt = 0); omega)
  refine hw_aloadn (aX12_compile 20 rfl) rfl ?_
  refine hw_get (v := .int ((0 : Int32))) (aX12_compile 21 rfl) wf_RX12_475 (c121 hS) (s121 hS) (by decide) (congrArg Value.int (show FI60 121 69 = (0 : Int32) from (up_k u61 (by decide) ((up_k u53 (by decide) (up_eq u45)))))) ?_
  have j448 : ∀ (g136 : Int32) (g138 : Int32) (g140 : Int32) (g142 : Int32) (FIj130 : Nat → Nat → Int32) (FLj144 : Nat → Nat → Int64), (g_fr n SH [(121, 0), (121, 13), (121, 31), (121, 32), (121, 53), (121, 54), (121, 55), (121, 56), (121, 57), (121, 67), (121, 68), (121, 69), (121, 70), (121, 71), (121, 73), (121, 74), (121, 78), (121, 90), (121, 91)] [124, 125, 149, 151, 152, 154, 156, 157, 159, 160, 161, 162, 163, 164, 165, 166, 167, 168] [] FI FIj130) → (g_I FIj130) → (FIj130 121 0 = (0 : Int32)) → (FIj130 121 13 = (0 : Int32)) → (FIj130 121 67 = x25) → (FIj130 121 68 = g136) → (0 ≤ (g136).toInt ∧ (g136).toInt ≤ 1000) → (FIj130 121 69 = g138) → (FIj130 121 73 = g140) → (0 ≤ (g140).toInt ∧ (g140).toInt ≤ 30000) → (FIj130 149 0 = g142) → (g_fr n SH [] [150, 153, 155, 158] [] FL FLj144) → (rl_t (FIj130 152) (FLj144 153)) → (rl_e (FIj130 149) (FIj130 121 67)) → (rl_t (FIj130 149) (FLj144 150)) → (rl_v (FIj130 121 74) (FIj130 152) (FLj144 153) (FIj130 156) (FIj130 157)) → (rl_w (FIj130 121 67) (FIj130 149) (FLj144 150) (FIj130 151)) → ((FIj130 121 69).toInt = 0 → rl_mv (FIj130 121 78) (FIj130 121 67) (FIj130 149) (FLj144 150) (FIj130 159) (FIj130 160)) → ((FIj130 121 69).toInt = 0 → rl_mb (FIj130 121 78) (FIj130 161) (FIj130 121 73).toInt) → ((FIj130 121 69).toInt = 0 → (FIj130 121 73).toInt ≤ 4 * wp (FIj130 151) (FIj130 121 68)) → ((g136).toInt ≤ (x25).toInt - 1) → hw zk base (d + 11) none 225 60 [(0, .ref (base + 121))] [] (n, sl, SH, FIj130, FLj144, FR) (h_I (fun r s => ∃ FI' FL', s = (n, sl, SH, FI', FL', FR) ∧ g_I FI' ∧ g_fr n SH [(121, 0), (121, 13), (121, 31), (121, 32), (121, 53), (121, 54), (121, 55), (121, 56), (121, 57), (121, 67), (121, 68), (121, 69), (121, 70), (121, 71), (121, 73), (121, 74), (121, 78), (121, 90), (121, 91)] [124, 125, 149, 151, 152, 154, 156, 157, 159, 160, 161, 162, 163, 164, 165, 166, 167, 168] [] FI FI' ∧ g_fr n SH [] [150, 153, 155, 158] [] FL FL' ∧ ((FI' 121 13).toInt = 0) ∧ (rl_t (FI' 149) (FL' 150)) ∧ (rl_t (FI' 152) (FL' 153)) ∧ (rl_v (FI' 121 74) (FI' 152) (FL' 153) (FI' 156) (FI' 157)))) := by
    intro g136 g138 g140 g142 FIj130 FLj144 fr131 hI132 kp133 kp134 kp135 kp137 q449 kp139 kp141 q450 kp143 fr145 rl146 rl147 rl148 rl149 rl150 fc60_0 fc60_1 fc60_2 fc60_3
    have rg_g136 := i_rng g136
    have rg_g138 := i_rng g138
    have rg_g140 := i_rng g140
    have rg_g142 := i_rng g142
    have := congrArg Int32.toInt kp133
    have := congrArg Int32.toInt kp134
    have := congrArg Int32.toInt kp135
    have := congrArg Int32.toInt kp137
    have := congrArg Int32.toInt kp139
    have := congrArg Int32.toInt kp141
    have := congrArg Int32.toInt kp143
    refine hw_aloadn (aX12_compile 32 rfl) rfl ?_
    refine hw_get (v := .int (g138)) (aX12_compile 33 rfl) wf_RX12_475 (c121 hS) (s121 hS) (by decide) (congrArg Value.int (show FIj130 121 69 = g138 from kp139)) ?_
    refine hw_ifeq (tgt := 80) (aX12_compile 34 rfl) (by decide) rfl (fun cd451 => ?_) (fun cd451 => ?_)
    · have := congrArg Int32.toInt (show FIj130 121 69 = g138 from kp139)
      have := congrArg Int32.toInt (show FIj130 121 68 = g136 from kp137)
      have := congrArg Int32.toInt (show FIj130 121 67 = x25 from kp135)
      have := congrArg Int32.toInt (show FIj130 121 73 = g140 from kp141)
      obtain ⟨x452, h453⟩ : ∃ y, FIj130 121 78 = y := ⟨_, rfl⟩
      have h453l := congrArg Int32.toInt h453
      have b454 := gI_121_78 hI132; rw [h453] at b454
      have := congrArg Int32.toInt (show FIj130 121 78 = x452 from h453)
      have hmv := hid_i (fc60_0 (by omega)); have hmb := hid_i (fc60_1 (by omega)); have hpt := fc60_2 (by omega); have hw4 := wp_r rl150 (t := FIj130 121 68) (by omega) (by omega); have h4000 : (FIj130 121 73).toInt ≤ 4000 := (by omega); clear fc60_0 fc60_1 fc60_2 hpt hw4
      refine hw_ic (v := (0 : Int32)) (aX12_compile 42 rfl) (by decide) ?_
      refine xw_istoren (L2 := [(1, .int ((0 : Int32))), (0, .ref (base + 121))]) (aX12_compile 43 rfl) (by decide) rfl ?_
      have lp457 : ∀ (m : Nat) (y1 : Int32), (0 ≤ (y1).toInt ∧ (y1).toInt ≤ 12) → ((y1).toInt ≤ (x452).toInt) → (∀ j : Nat, (j : Int) < (y1).toInt → (FIj130 161 (j + 1)).toInt - (FIj130 161 j).toInt ≤ 600) → (x452).toInt - (y1).toInt < m → hw zk base (d + 11) none 225 82 [(1, .int (y1)), (0, .ref (base + 121))] [] (n, sl, SH, FIj130, FLj144, FR) (h_I (fun r s => ∃ FI' FL', s = (n, sl, SH, FI', FL', FR) ∧ g_I FI' ∧ g_fr n SH [(121, 0), (121, 13), (121, 31), (121, 32), (121, 53), (121, 54), (121, 55), (121, 56), (121, 57), (121, 67), (121, 68), (121, 69), (121, 70), (121, 71), (121, 73), (121, 74), (121, 78), (121, 90), (121, 91)] [124, 125, 149, 151, 152, 154, 156, 157, 159, 160, 161, 162, 163, 164, 165, 166, 167, 168] [] FI FI' ∧ g_fr n SH [] [150, 153, 155, 158] [] FL FL' ∧ ((FI' 121 13).toInt = 0) ∧ (rl_t (FI' 149) (FL' 150)) ∧ (rl_t (FI' 152) (FL' 153)) ∧ (rl_v (FI' 121 74) (FI' 152) (FL' 153) (FI' 156) (FI' 157)))) := by
        intro m
        induction m with
        | zero => intro y1 iv455 iv456 xi82_0 hm; omega
        | succ m ih =>
          intro y1 iv455 iv456 xi82_0 hm
          have rg_y1 := i_rng y1
          refine xw_iloadn (aX12_compile 44 rfl) rfl ?_
          refine hw_aloadn (aX12_compile 45 rfl) rfl ?_
          refine hw_get (v := .int (x452)) (aX12_compile 46 rfl) wf_RX12_515 (c121 hS) (s121 hS) (by decide) (congrArg Value.int (show FIj130 121 78 = x452 from h453)) ?_
          refine hw_icge (tgt := 141) (aX12_compile 47 rfl) (by decide) rfl rfl (fun cd458 => ?_) (fun cd458 => ?_)
          · have h600 := hid_i xi82_0; have hy82 : (FIj130 121 78).toInt ≤ (y1).toInt := (by omega)
            refine hw_aloadn (aX12_compile 78 rfl) rfl ?_
            refine hw_aloadn (aX12_compile 79 rfl) rfl ?_
            refine hw_get (v := .int (x452)) (aX12_compile 80 rfl) wf_RX12_515 (c121 hS) (s121 hS) (by decide) (congrArg Value.int (show FIj130 121 78 = x452 from h453)) ?_
            refine hv_puti (aX12_compile 81 rfl) wf_RX12_524 (c121 hS) (s121 hS) (by decide) rfl rfl (fun FI459 u460 => ?_)
            have rl461 : rl_t (FI459 152) (FLj144 153) := by rw [show FI459 152 = FIj130 152 from up_row u460 (by decide) rfl]; exact rl146
            have rl462 : rl_e (FI459 149) (FI459 121 67) := by rw [show FI459 149 = FIj130 149 from up_row u460 (by decide) rfl, show FI459 121 67 = FIj130 121 67 from up_k u460 (by decide) rfl]; exact rl147
            have rl463 : rl_t (FI459 149) (FLj144 150) := by rw [show FI459 149 = FIj130 149 from up_row u460 (by decide) rfl]; exact rl148
            have rl464 : rl_w (FI459 121 67) (FI459 149) (FLj144 150) (FI459 151) := by rw [show FI459 149 = FIj130 149 from up_row u460 (by decide) rfl, show FI459 151 = FIj130 151 from up_row u460 (by decide) rfl, show FI459 121 67 = FIj130 121 67 from up_k u460 (by decide) rfl]; exact rl150
            have hI465 : g_I FI459 := gU_121_74 hI132 u460 (by omega) (by omega)
            refine hw_ic (v := (0 : Int32)) (aX12_compile 82 rfl) (by decide) ?_
            refine xw_istoren (L2 := [(1, .int ((0 : Int32))), (0, .ref (base + 121))]) (aX12_compile 83 rfl) (by decide) rfl ?_
            have lp494 : ∀ (m : Nat) (y1_466 : Int32) (FIv467 : Nat → Nat → Int32) (FLv468 : Nat → Nat → Int64), (g_fr n SH [(121, 0), (121, 13), (121, 31), (121, 32), (121, 53), (121, 54), (121, 55), (121, 56), (121, 57), (121, 67), (121, 68), (121, 69), (121, 70), (121, 71), (121, 73), (121, 74), (121, 78), (121, 90), (121, 91)] [124, 125, 149, 151, 152, 154, 156, 157, 159, 160, 161, 162, 163, 164, 165, 166, 167, 168] [] FI FIv467) → (g_fr n SH [] [150, 153, 155, 158] [] FL FLv468) → (g_I FIv467) → (FIv467 121 0 = (0 : Int32)) → (FIv467 121 13 = (0 : Int32)) → (FIv467 121 67 = x25) → (FIv467 121 68 = g136) → (FIv467 121 69 = g138) → (FIv467 121 73 = g140) → (FIv467 149 0 = g142) → (FIv467 121 78 = x452) → (FIv467 121 74 = x452) → (rl_t (FIv467 152) (FLv468 153)) → (rl_e (FIv467 149) (FIv467 121 67)) → (rl_t (FIv467 149) (FLv468 150)) → (rl_w (FIv467 121 67) (FIv467 149) (FLv468 150) (FIv467 151)) → (0 ≤ (y1_466).toInt ∧ (y1_466).toInt ≤ 12) → ((y1_466).toInt ≤ (x452).toInt) → (∀ j : Nat, (j : Int) < (y1_466).toInt → FIv467 156 j = FIv467 159 j ∧ FIv467 157 j = FIv467 160 j) → (FIv467 161 = FIj130 161) → (FIv467 159 = FIj130 159) → (FIv467 160 = FIj130 160) → (FIv467 149 = FIj130 149) → (FLv468 150 = FLj144 150) → (FIv467 152 = FIj130 152) → (FLv468 153 = FLj144 153) → (x452).toInt - (y1_466).toInt < m → hw zk base (d + 11) none 225 151 [(1, .int (y1_466)), (0, .ref (base + 121))] [] (n, sl, SH, FIv467, FLv468, FR) (h_I (fun r s => ∃ FI' FL', s = (n, sl, SH, FI', FL', FR) ∧ g_I FI' ∧ g_fr n SH [(121, 0), (121, 13), (121, 31), (121, 32), (121, 53), (121, 54), (121, 55), (121, 56), (121, 57), (121, 67), (121, 68), (121, 69), (121, 70), (121, 71), (121, 73), (121, 74), (121, 78), (121, 90), (121, 91)] [124, 125, 149, 151, 152, 154, 156, 157, 159, 160, 161, 162, 163, 164, 165, 166, 167, 168] [] FI FI' ∧ g_fr n SH [] [150, 153, 155, 158] [] FL FL' ∧ ((FI' 121 13).toInt = 0) ∧ (rl_t (FI' 149) (FL' 150)) ∧ (rl_t (FI' 152) (FL' 153)) ∧ (rl_v (FI' 121 74) (FI' 152) (FL' 153) (FI' 156) (FI' 157)))) := by
              intro m
              induction m with
              | zero => intro y1_466 FIv467 FLv468 fr469 fr470 hI471 kp472 kp473 kp474 kp475 kp476 kp477 kp478 kp479 kp480 rl481 rl482 rl483 rl484 iv485 iv486 xi151_0 rw487 rw488 rw489 rw490 rw491 rw492 rw493 hm; omega
              | succ m ih151 =>
                intro y1_466 FIv467 FLv468 fr469 fr470 hI471 kp472 kp473 kp474 kp475 kp476 kp477 kp478 kp479 kp480 rl481 rl482 rl483 rl484 iv485 iv486 xi151_0 rw487 rw488 rw489 rw490 rw491 rw492 rw493 hm
                have rg_y1_466 := i_rng y1_466
                have := congrArg Int32.toInt kp472
                have := congrArg Int32.toInt kp473
                have := congrArg Int32.toInt kp474
                have := congrArg Int32.toInt kp475
                have := congrArg Int32.toInt kp476
                have := congrArg Int32.toInt kp477
                have := congrArg Int32.toInt kp478
                have := congrArg Int32.toInt kp479
                have := congrArg Int32.toInt kp480
                refine xw_iloadn (aX12_compile 84 rfl) rfl ?_
                refine hw_aloadn (aX12_compile 85 rfl) rfl ?_
                refine hw_get (v := .int (x452)) (aX12_compile 86 rfl) wf_RX12_515 (c121 hS) (s121 hS) (by decide) (congrArg Value.int (show FIv467 121 78 = x452 from kp479)) ?_
                refine hw_icge (tgt := 275) (aX12_compile 87 rfl) (by decide) rfl rfl (fun cd495 => ?_) (fun cd495 => ?_)
                · have h156 := hid_i xi151_0; have hy151 : (FIv467 121 78).toInt ≤ (y1_466).toInt := (by have := congrArg Int32.toInt (show FIv467 121 78 = x452 from kp479); omega)
                  refine hw_ic (v := (0 : Int32)) (aX12_compile 162 rfl) (by decide) ?_
                  refine xw_istoren (L2 := [(1, .int ((0 : Int32))), (0, .ref (base + 121))]) (aX12_compile 163 rfl) (by decide) rfl ?_
                  have lp526 : ∀ (m : Nat) (y1_496 : Int32) (FIv497 : Nat → Nat → Int32) (FLv498 : Nat → Nat → Int64), (g_fr n SH [(121, 0), (121, 13), (121, 31), (121, 32), (121, 53), (121, 54), (121, 55), (121, 56), (121, 57), (121, 67), (121, 68), (121, 69), (121, 70), (121, 71), (121, 73), (121, 74), (121, 78), (121, 90), (121, 91)] [124, 125, 149, 151, 152, 154, 156, 157, 159, 160, 161, 162, 163, 164, 165, 166, 167, 168] [] FI FIv497) → (g_fr n SH [] [150, 153, 155, 158] [] FL FLv498) → (g_I FIv497) → (FIv497 121 0 = (0 : Int32)) → (FIv497 121 13 = (0 : Int32)) → (FIv497 121 67 = x25) → (FIv497 121 68 = g136) → (FIv497 121 69 = g138) → (FIv497 121 73 = g140) → (FIv497 149 0 = g142) → (FIv497 121 78 = x452) → (FIv497 121 74 = x452) → (rl_t (FIv497 152) (FLv498 153)) → (rl_e (FIv497 149) (FIv497 121 67)) → (rl_t (FIv497 149) (FLv498 150)) → (rl_w (FIv497 121 67) (FIv497 149) (FLv498 150) (FIv497 151)) → (0 ≤ (y1_496).toInt ∧ (y1_496).toInt ≤ 1001) → ((y1_496).toInt ≤ (x25).toInt) → (∀ j : Nat, (j : Int) < (y1_496).toInt → FIv497 152 j = FIv497 149 j ∧ FLv498 153 j = FLv498 150 j) → (FIv497 161 = FIj130 161) → (FIv497 159 = FIj130 159) → (FIv497 160 = FIj130 160) → (FIv497 149 = FIj130 149) → (FLv498 150 = FLj144 150) → (FIv497 156 = FIv467 156) → (FIv497 157 = FIv467 157) → (FIv497 159 = FIv467 159) → (FIv497 160 = FIv467 160) → (x25).toInt - (y1_496).toInt < m → hw zk base (d + 11) none 225 277 [(1, .int (y1_496)), (0, .ref (base + 121))] [] (n, sl, SH, FIv497, FLv498, FR) (h_I (fun r s => ∃ FI' FL', s = (n, sl, SH, FI', FL', FR) ∧ g_I FI' ∧ g_fr n SH [(121, 0), (121, 13), (121, 31), (121, 32), (121, 53), (121, 54), (121, 55), (121, 56), (121, 57), (121, 67), (121, 68), (121, 69), (121, 70), (121, 71), (121, 73), (121, 74), (121, 78), (121, 90), (121, 91)] [124, 125, 149, 151, 152, 154, 156, 157, 159, 160, 161, 162, 163, 164, 165, 166, 167, 168] [] FI FI' ∧ g_fr n SH [] [150, 153, 155, 158] [] FL FL' ∧ ((FI' 121 13).toInt = 0) ∧ (rl_t (FI' 149) (FL' 150)) ∧ (rl_t (FI' 152) (FL' 153)) ∧ (rl_v (FI' 121 74) (FI' 152) (FL' 153) (FI' 156) (FI' 157)))) := by
                    intro m
                    induction m with
                    | zero => intro y1_496 FIv497 FLv498 fr499 fr500 hI501 kp502 kp503 kp504 kp505 kp506 kp507 kp508 kp509 kp510 rl511 rl512 rl513 rl514 iv515 iv516 xi277_0 rw517 rw518 rw519 rw520 rw521 rw522 rw523 rw524 rw525 hm; omega
                    | succ m ih277 =>
                      intro y1_496 FIv497 FLv498 fr499 fr500 hI501 kp502 kp503 kp504 kp505 kp506 kp507 kp508 kp509 kp510 rl511 rl512 rl513 rl514 iv515 iv516 xi277_0 rw517 rw518 rw519 rw520 rw521 rw522 rw523 rw524 rw525 hm
                      have rg_y1_496 := i_rng y1_496
                      have := congrArg Int32.toInt kp502
                      have := congrArg Int32.toInt kp503
                      have := congrArg Int32.toInt kp504
                      have := congrArg Int32.toInt kp505
                      have := congrArg Int32.toInt kp506
                      have := congrArg Int32.toInt kp507
                      have := congrArg Int32.toInt kp508
                      have := congrArg Int32.toInt kp509
                      have := congrArg Int32.toInt kp510
                      refine xw_iloadn (aX12_compile 164 rfl) rfl ?_
                      refine hw_aloadn (aX12_compile 165 rfl) rfl ?_
                      refine hw_get (v := .int (x25)) (aX12_compile 166 rfl) wf_RX12_446 (c121 hS) (s121 hS) (by decide) (congrArg Value.int (show FIv497 121 67 = x25 from kp504)) ?_
                      refine hw_icge (tgt := 315) (aX12_compile 167 rfl) (by decide) rfl rfl (fun cd527 => ?_) (fun cd527 => ?_)
                      · have hv67 := congrArg Int32.toInt (show FIv497 121 67 = x25 from kp504); have hv78 := congrArg Int32.toInt (show FIv497 121 78 = x452 from kp509)
                        have hm9 := hid_e hmv; rw [show FIj130 121 67 = x25 from kp135, show FIj130 121 78 = x452 from h453, ← (show FIv497 149 = FIj130 149 from rw520), ← (show FLv498 150 = FLj144 150 from rw521), ← (show FIv497 159 = FIj130 159 from rw518), ← (show FIv497 160 = FIj130 160 from rw519)] at hm9
                        have rl528 : rl_v (FIv497 121 74) (FIv497 152) (FLv498 153) (FIv497 156) (FIv497 157) := by rw [show FIv497 121 74 = x452 from kp510]; exact rl_v_of hm9 (by omega) (fun j hj => xi277_0 j (by omega)) (fun j hj => by have z := hid_e h156 j (by omega); rw [← (show FIv497 156 = FIv467 156 from rw522), ← (show FIv497 157 = FIv467 157 from rw523), ← (show FIv497 159 = FIv467 159 from rw524), ← (show FIv497 160 = FIv467 160 from rw525)] at z; exact z)
                        refine hw_aloadn (aX12_compile 186 rfl) rfl ?_
                        refine hw_ic (v := (0 : Int32)) (aX12_compile 187 rfl) (by decide) ?_
                        refine hv_puti (aX12_compile 188 rfl) wf_RX12_299 (c121 hS) (s121 hS) (by decide) rfl rfl (fun FI529 u530 => ?_)
                        have rl531 : rl_t (FI529 152) (FLv498 153) := by rw [show FI529 152 = FIv497 152 from up_row u530 (by decide) rfl]; exact rl511
                        have rl532 : rl_e (FI529 149) (FI529 121 67) := by rw [show FI529 149 = FIv497 149 from up_row u530 (by decide) rfl, show FI529 121 67 = FIv497 121 67 from up_k u530 (by decide) rfl]; exact rl512
                        have rl533 : rl_t (FI529 149) (FLv498 150) := by rw [show FI529 149 = FIv497 149 from up_row u530 (by decide) rfl]; exact rl513
                        have rl534 : rl_w (FI529 121 67) (FI529 149) (FLv498 150) (FI529 151) := by rw [show FI529 149 = FIv497 149 from up_row u530 (by decide) rfl, show FI529 151 = FIv497 151 from up_row u530 (by decide) rfl, show FI529 121 67 = FIv497 121 67 from up_k u530 (by decide) rfl]; exact rl514
                        have rl535 : rl_v (FI529 121 74) (FI529 152) (FLv498 153) (FI529 156) (FI529 157) := by rw [show FI529 152 = FIv497 152 from up_row u530 (by decide) rfl, show FI529 156 = FIv497 156 from up_row u530 (by decide) rfl, show FI529 157 = FIv497 157 from up_row u530 (by decide) rfl, show FI529 121 74 = FIv497 121 74 from up_k u530 (by decide) rfl]; exact rl528
                        have hI536 : g_I FI529 := gU_F hI501 u530 rfl
                        refine hw_aloadn (aX12_compile 189 rfl) rfl ?_
                        refine hw_ic (v := (0 : Int32)) (aX12_compile 190 rfl) (by decide) ?_
                        refine hv_puti (aX12_compile 191 rfl) wf_RX12_258 (c121 hS) (s121 hS) (by decide) rfl rfl (fun FI537 u538 => ?_)
                        have rl539 : rl_t (FI537 152) (FLv498 153) := by rw [show FI537 152 = FI529 152 from up_row u538 (by decide) rfl]; exact rl531
                        have rl540 : rl_e (FI537 149) (FI537 121 67) := by rw [show FI537 149 = FI529 149 from up_row u538 (by decide) rfl, show FI537 121 67 = FI529 121 67 from up_k u538 (by decide) rfl]; exact rl532
                        have rl541 : rl_t (FI537 149) (FLv498 150) := by rw [show FI537 149 = FI529 149 from up_row u538 (by decide) rfl]; exact rl533
                        have rl542 : rl_w (FI537 121 67) (FI537 149) (FLv498 150) (FI537 151) := by rw [show FI537 149 = FI529 149 from up_row u538 (by decide) rfl, show FI537 151 = FI529 151 from up_row u538 (by decide) rfl, show FI537 121 67 = FI529 121 67 from up_k u538 (by decide) rfl]; exact rl534
                        have rl543 : rl_v (FI537 121 74) (FI537 152) (FLv498 153) (FI537 156) (FI537 157) := by rw [show FI537 152 = FI529 152 from up_row u538 (by decide) rfl, show FI537 156 = FI529 156 from up_row u538 (by decide) rfl, show FI537 157 = FI529 157 from up_row u538 (by decide) rfl, show FI537 121 74 = FI529 121 74 from up_k u538 (by decide) rfl]; exact rl535
                        have hI544 : g_I FI537 := gU_F hI536 u538 rfl
                        refine hw_aloadn (aX12_compile 192 rfl) rfl ?_
                        refine hw_ic (v := (0 : Int32)) (aX12_compile 193 rfl) (by decide) ?_
                        refine hw_ic (v := ((-1) : Int32)) (aX12_compile 194 rfl) (by decide) ?_
                        refine hw_callV (Bs := [.int ((0 : Int32)), .int (((-1) : Int32))]) (rest := []) (aX12_compile 195 rfl) wc_RX12_380 (by decide) rfl wi_yX12_tells wv_yX12_tells (c121 hS) (s121 hS) rfl rfl rfl (Nat.le_of_ble_eq_true rfl) (Nat.le_of_ble_eq_true rfl) (n_tells (d := d + 10) hS hF hI544 ((0 : Int32)) (((-1) : Int32)) ) (fun v545 sv546 p547 => ?_)
                        have := ((by decide : (0 : Int32).toInt = 0) : ((0 : Int32)).toInt = 0)
                        obtain ⟨r548, rfl, FI549, rfl, hI550, f551, t552⟩ := p547
                        have rl553 : rl_t (FI549 152) (FLv498 153) := by rw [show FI549 152 = FI537 152 from gf_row f551 (c152 hS) (s152 hS) rfl rfl]; exact rl539
                        have rl554 : rl_e (FI549 149) (FI549 121 67) := by rw [show FI549 149 = FI537 149 from gf_row f551 (c149 hS) (s149 hS) rfl rfl, show FI549 121 67 = FI537 121 67 from gf_at f551 (c121 hS) (s121 hS) rfl rfl]; exact rl540
                        have rl555 : rl_t (FI549 149) (FLv498 150) := by rw [show FI549 149 = FI537 149 from gf_row f551 (c149 hS) (s149 hS) rfl rfl]; exact rl541
                        have rl556 : rl_w (FI549 121 67) (FI549 149) (FLv498 150) (FI549 151) := by rw [show FI549 149 = FI537 149 from gf_row f551 (c149 hS) (s149 hS) rfl rfl, show FI549 151 = FI537 151 from gf_row f551 (c151 hS) (s151 hS) rfl rfl, show FI549 121 67 = FI537 121 67 from gf_at f551 (c121 hS) (s121 hS) rfl rfl]; exact rl542
                        have rl557 : rl_v (FI549 121 74) (FI549 152) (FLv498 153) (FI549 156) (FI549 157) := by rw [show FI549 152 = FI537 152 from gf_row f551 (c152 hS) (s152 hS) rfl rfl, show FI549 156 = FI537 156 from gf_row f551 (c156 hS) (s156 hS) rfl rfl, show FI549 157 = FI537 157 from gf_row f551 (c157 hS) (s157 hS) rfl rfl, show FI549 121 74 = FI537 121 74 from gf_at f551 (c121 hS) (s121 hS) rfl rfl]; exact rl543
                        have rg_r548 := i_rng r548
                        show hw zk base _ _ _ _ _ [.int (r548)] _ _
                        refine xw_pop (aX12_compile 196 rfl) rfl ?_
                        refine hw_aloadn (aX12_compile 197 rfl) rfl ?_
                        refine hw_get (v := .int (x452)) (aX12_compile 198 rfl) wf_RX12_524 (c121 hS) (s121 hS) (by decide) (congrArg Value.int (show FI549 121 74 = x452 from (gf_at f551 (c121 hS) (s121 hS) rfl ((up_k u538 (by decide) ((up_k u530 (by decide) (kp510)))))))) ?_
                        refine xw_iret (aX12_compile 199 rfl) rfl rfl ?_
                        exact ⟨x452, rfl, FI549, FLv498, rfl, hI550, (gf_tr ex_rf (gf_f (gf_f fr499 u530 (by decide)) u538 (by decide)) f551 rfl rfl rfl), fr500, (by have := congrArg Int32.toInt (show FI549 121 13 = (0 : Int32) from (gf_at f551 (c121 hS) (s121 hS) rfl ((up_k u538 (by decide) ((up_k u530 (by decide) (kp503))))))); have := ((by decide : (0 : Int32).toInt = 0) : ((0 : Int32)).toInt = 0); omega), (show rl_t (FI549 149) (FLv498 150) from rl555), (show rl_t (FI549 152) (FLv498 153) from rl553), (show rl_v (FI549 121 74) (FI549 152) (FLv498 153) (FI549 156) (FI549 157) from rl557)⟩
                      · refine hw_aloadn (aX12_compile 168 rfl) rfl ?_
                        refine hw_get (v := .ref (base + 152)) (aX12_compile 169 rfl) wf_RX12_114 (c121 hS) (s121 hS) (by decide) (congrArg (fun r => va_rf (h_rf base r)) (r121_65 hF)) ?_
                        refine xw_iloadn (aX12_compile 170 rfl) rfl ?_
                        refine hw_aloadn (aX12_compile 171 rfl) rfl ?_
                        refine hw_get (v := .ref (base + 149)) (aX12_compile 172 rfl) wf_RX12_105 (c121 hS) (s121 hS) (by decide) (congrArg (fun r => va_rf (h_rf base r)) (r121_62 hF)) ?_
                        refine xw_iloadn (aX12_compile 173 rfl) rfl ?_
                        obtain ⟨x558, h559⟩ : ∃ y, FIv497 149 (y1_496).toNatClampNeg = y := ⟨_, rfl⟩
                        have h559l := congrArg Int32.toInt h559
                        have := i_rng x558
                        refine hw_iald (v := x558) (aX12_compile 174 rfl) (c149 hS) (s149 hS) (h_in rfl (by omega) (by omega)) (show FIv497 149 (y1_496).toNatClampNeg = x558 from h559) ?_
                        refine hv_iast (k := (y1_496).toNatClampNeg) (aX12_compile 175 rfl) (c152 hS) (s152 hS) (h_in rfl (by omega) (by omega)) rfl (fun FI560 u561 => ?_)
                        have rl562 : rl_e (FI560 149) (FI560 121 67) := by rw [show FI560 149 = FIv497 149 from up_row u561 (by decide) rfl, show FI560 121 67 = FIv497 121 67 from up_c u561 (by decide) rfl]; exact rl512
                        have rl563 : rl_t (FI560 149) (FLv498 150) := by rw [show FI560 149 = FIv497 149 from up_row u561 (by decide) rfl]; exact rl513
                        have rl564 : rl_w (FI560 121 67) (FI560 149) (FLv498 150) (FI560 151) := by rw [show FI560 149 = FIv497 149 from up_row u561 (by decide) rfl, show FI560 151 = FIv497 151 from up_row u561 (by decide) rfl, show FI560 121 67 = FIv497 121 67 from up_c u561 (by decide) rfl]; exact rl514
                        have hI565 : g_I FI560 := gU_F hI501 u561 rfl
                        refine hw_aloadn (aX12_compile 176 rfl) rfl ?_
                        refine hw_get (v := .ref (base + 153)) (aX12_compile 177 rfl) wf_RX12_117 (c121 hS) (s121 hS) (by decide) (congrArg (fun r => va_rf (h_rf base r)) (r121_66 hF)) ?_
                        refine xw_iloadn (aX12_compile 178 rfl) rfl ?_
                        refine hw_aloadn (aX12_compile 179 rfl) rfl ?_
                        refine hw_get (v := .ref (base + 150)) (aX12_compile 180 rfl) wf_RX12_108 (c121 hS) (s121 hS) (by decide) (congrArg (fun r => va_rf (h_rf base r)) (r121_63 hF)) ?_
                        refine xw_iloadn (aX12_compile 181 rfl) rfl ?_
                        obtain ⟨x566, h567⟩ : ∃ y, FLv498 150 (y1_496).toNatClampNeg = y := ⟨_, rfl⟩
                        have h567l := congrArg Int64.toInt h567
                        have := l_rng x566
                        refine hw_lald (v := x566) (aX12_compile 182 rfl) (c150 hS) (s150 hS) (h_in rfl (by omega) (by omega)) (show FLv498 150 (y1_496).toNatClampNeg = x566 from h567) ?_
                        have ht := rl563 (y1_496).toNatClampNeg; rw [show FI560 149 (y1_496).toNatClampNeg = x558 from (up_c u561 (by decide) (h559)), show FLv498 150 (y1_496).toNatClampNeg = x566 from h567] at ht
                        refine hv_last (k := (y1_496).toNatClampNeg) (aX12_compile 183 rfl) (c153 hS) (s153 hS) (h_in rfl (by omega) (by omega)) rfl (fun FL568 u569 => ?_)
                        have rl570 : rl_t (FI560 149) (FL568 150) := by rw [show FL568 150 = FLv498 150 from up_row u569 (by decide) rfl]; exact rl563
                        have rl571 : rl_w (FI560 121 67) (FI560 149) (FL568 150) (FI560 151) := by rw [show FL568 150 = FLv498 150 from up_row u569 (by decide) rfl]; exact rl564
                        have rl572 : rl_t (FI560 152) (FL568 153) := by rw [show FI560 152 = va_up (FIv497 152) ((y1_496).toNatClampNeg) (x558) from (up_va u561 (rfl)), show FL568 153 = va_up (FLv498 153) ((y1_496).toNatClampNeg) (x566) from (up_va u569 (rfl))]; exact rl_t_up rl511 ht.1 ht.2
                        obtain ⟨x573, q575⟩ : ∃ y : Int32, (y1_496) + Int32.ofInt (1) = y := ⟨_, rfl⟩
                        have e574 : (x573).toInt = (y1_496).toInt + (1) := by rw [← q575]; exact i_add rfl (by decide) (by omega) (by omega)
                        refine xw_iinc (L2 := [(1, .int (x573)), (0, .ref (base + 121))]) (aX12_compile 184 rfl) rfl (by decide) (by rw [q575]; rfl) ?_
                        refine xw_goto (tgt := 277) (aX12_compile 185 rfl) (by decide) ?_
                        exact hw_L (ih277 (x573) FI560 FL568 (gf_a fr499 u561 (by decide)) (gf_a fr500 u569 (by decide)) hI565 (show FI560 121 0 = (0 : Int32) from (up_c u561 (by decide) (kp502))) (show FI560 121 13 = (0 : Int32) from (up_c u561 (by decide) (kp503))) (show FI560 121 67 = x25 from (up_c u561 (by decide) (kp504))) (show FI560 121 68 = g136 from (up_c u561 (by decide) (kp505))) (show FI560 121 69 = g138 from (up_c u561 (by decide) (kp506))) (show FI560 121 73 = g140 from (up_c u561 (by decide) (kp507))) (show FI560 149 0 = g142 from (up_c u561 (by decide) (kp508))) (show FI560 121 78 = x452 from (up_c u561 (by decide) (kp509))) (show FI560 121 74 = x452 from (up_c u561 (by decide) (kp510))) (show rl_t (FI560 152) (FL568 153) from rl572) (show rl_e (FI560 149) (FI560 121 67) from rl562) (show rl_t (FI560 149) (FL568 150) from rl570) (show rl_w (FI560 121 67) (FI560 149) (FL568 150) (FI560 151) from rl571) (by have := (e574 : (x573).toInt = (y1_496).toInt + (1)); omega) (by have := (e574 : (x573).toInt = (y1_496).toInt + (1)); have := congrArg Int32.toInt (show FI560 121 67 = x25 from (up_c u561 (by decide) (kp504))); omega) (show ∀ j : Nat, (j : Int) < (x573).toInt → FI560 152 j = FI560 149 j ∧ FL568 153 j = FL568 150 j from (by have := (e574 : (x573).toInt = (y1_496).toInt + (1)); exact (fun j hj => by rw [show FI560 152 = va_up (FIv497 152) ((y1_496).toNatClampNeg) (x558) from (up_va u561 (rfl)), show FI560 149 = FIv497 149 from (up_row u561 (by decide) (rfl)), show FL568 153 = va_up (FLv498 153) ((y1_496).toNatClampNeg) (x566) from (up_va u569 (rfl)), show FL568 150 = FLv498 150 from (up_row u569 (by decide) (rfl))]; by_cases e : j = (y1_496).toNatClampNeg; { subst e; simp only [va_up, if_pos]; exact ⟨(show FIv497 149 (y1_496).toNatClampNeg = x558 from (congrFun ((up_row u561 (by decide) (rfl))) _).symm.trans ((up_c u561 (by decide) (h559)))).symm, (show FLv498 150 (y1_496).toNatClampNeg = x566 from (congrFun ((up_row u569 (by decide) (rfl))) _).symm.trans ((up_c u569 (by decide) (h567)))).symm⟩ }; { have e2 : (y1_496).toNatClampNeg = (y1_496).toInt.toNat := i_cl rfl; simp only [va_up, if_neg e]; exact xi277_0 j (by omega) }))) (show FI560 161 = FIj130 161 from (up_row u561 (by decide) (rw517))) (show FI560 159 = FIj130 159 from (up_row u561 (by decide) (rw518))) (show FI560 160 = FIj130 160 from (up_row u561 (by decide) (rw519))) (show FI560 149 = FIj130 149 from (up_row u561 (by decide) (rw520))) (show FL568 150 = FLj144 150 from (up_row u569 (by decide) (rw521))) (show FI560 156 = FIv467 156 from (up_row u561 (by decide) (rw522))) (show FI560 157 = FIv467 157 from (up_row u561 (by decide) (rw523))) (show FI560 159 = FIv467 159 from (up_row u561 (by decide) (rw524))) (show FI560 160 = FIv467 160 from (up_row u561 (by decide) (rw525))) (by have := (e574 : (x573).toInt = (y1_496).toInt + (1)); have := congrArg Int32.toInt (show FI560 121 67 = x25 from (up_c u561 (by decide) (kp504))); omega)) ⟨rfl, rfl, trivial⟩
                  exact hw_L (lp526 (((x25).toInt - 0 : Int).toNat + 1) ((0 : Int32)) FIv467 FLv468 fr469 fr470 hI471 (show FIv467 121 0 = (0 : Int32) from kp472) (show FIv467 121 13 = (0 : Int32) from kp473) (show FIv467 121 67 = x25 from kp474) (show FIv467 121 68 = g136 from kp475) (show FIv467 121 69 = g138 from kp476) (show FIv467 121 73 = g140 from kp477) (show FIv467 149 0 = g142 from kp478) (show FIv467 121 78 = x452 from kp479) (show FIv467 121 74 = x452 from kp480) (show rl_t (FIv467 152) (FLv468 153) from rl481) (show rl_e (FIv467 149) (FIv467 121 67) from rl482) (show rl_t (FIv467 149) (FLv468 150) from rl483) (show rl_w (FIv467 121 67) (FIv467 149) (FLv468 150) (FIv467 151) from rl484) (by have := ((by decide : (0 : Int32).toInt = 0) : ((0 : Int32)).toInt = 0); omega) (by have := ((by decide : (0 : Int32).toInt = 0) : ((0 : Int32)).toInt = 0); have := congrArg Int32.toInt (show FIv467 121 67 = x25 from kp474); omega) (show ∀ j : Nat, (j : Int) < 0 → FIv467 152 j = FIv467 149 j ∧ FLv468 153 j = FLv468 150 j from (by have := ((by decide : (0 : Int32).toInt = 0) : ((0 : Int32)).toInt = 0); exact (fun j hj => by omega))) (show FIv467 161 = FIj130 161 from rw487) (show FIv467 159 = FIj130 159 from rw488) (show FIv467 160 = FIj130 160 from rw489) (show FIv467 149 = FIj130 149 from rw490) (show FLv468 150 = FLj144 150 from rw491) (show FIv467 156 = FIv467 156 from rfl) (show FIv467 157 = FIv467 157 from rfl) (show FIv467 159 = FIv467 159 from rfl) (show FIv467 160 = FIv467 160 from rfl) (by have := ((by decide : (0 : Int32).toInt = 0) : ((0 : Int32)).toInt = 0); have := congrArg Int32.toInt (show FIv467 121 67 = x25 from kp474); omega)) ⟨rfl, rfl, trivial⟩
                · refine hw_aloadn (aX12_compile 88 rfl) rfl ?_
                  refine hw_get (v := .ref (base + 155)) (aX12_compile 89 rfl) wf_RX12_123 (c121 hS) (s121 hS) (by decide) (congrArg (fun r => va_rf (h_rf base r)) (r121_75 hF)) ?_
                  refine xw_iloadn (aX12_compile 90 rfl) rfl ?_
                  refine hw_aloadn (aX12_compile 91 rfl) rfl ?_
                  refine hw_get (v := .ref (base + 158)) (aX12_compile 92 rfl) wf_RX12_132 (c121 hS) (s121 hS) (by decide) (congrArg (fun r => va_rf (h_rf base r)) (r121_79 hF)) ?_
                  refine xw_iloadn (aX12_compile 93 rfl) rfl ?_
                  obtain ⟨x576, h577⟩ : ∃ y, FLv468 158 (y1_466).toNatClampNeg = y := ⟨_, rfl⟩
                  have h577l := congrArg Int64.toInt h577
                  have := l_rng x576
                  refine hw_lald (v := x576) (aX12_compile 94 rfl) (c158 hS) (s158 hS) (h_in rfl (by omega) (by omega)) (show FLv468 158 (y1_466).toNatClampNeg = x576 from h577) ?_
                  refine hv_last (k := (y1_466).toNatClampNeg) (aX12_compile 95 rfl) (c155 hS) (s155 hS) (h_in rfl (by omega) (by omega)) rfl (fun FL578 u579 => ?_)
                  have rl580 : rl_t (FIv467 152) (FL578 153) := by rw [show FL578 153 = FLv468 153 from up_row u579 (by decide) rfl]; exact rl481
                  have rl581 : rl_t (FIv467 149) (FL578 150) := by rw [show FL578 150 = FLv468 150 from up_row u579 (by decide) rfl]; exact rl483
                  have rl582 : rl_w (FIv467 121 67) (FIv467 149) (FL578 150) (FIv467 151) := by rw [show FL578 150 = FLv468 150 from up_row u579 (by decide) rfl]; exact rl484
                  refine hw_aloadn (aX12_compile 96 rfl) rfl ?_
                  refine hw_get (v := .ref (base + 156)) (aX12_compile 97 rfl) wf_RX12_126 (c121 hS) (s121 hS) (by decide) (congrArg (fun r => va_rf (h_rf base r)) (r121_76 hF)) ?_
                  refine xw_iloadn (aX12_compile 98 rfl) rfl ?_
                  refine hw_aloadn (aX12_compile 99 rfl) rfl ?_
                  refine hw_get (v := .ref (base + 159)) (aX12_compile 100 rfl) wf_RX12_135 (c121 hS) (s121 hS) (by decide) (congrArg (fun r => va_rf (h_rf base r)) (r121_80 hF)) ?_
                  refine xw_iloadn (aX12_compile 101 rfl) rfl ?_
                  obtain ⟨x583, h584⟩ : ∃ y, FIv467 159 (y1_466).toNatClampNeg = y := ⟨_, rfl⟩
                  have h584l := congrArg Int32.toInt h584
                  have := i_rng x583
                  refine hw_iald (v := x583) (aX12_compile 102 rfl) (c159 hS) (s159 hS) (h_in rfl (by omega) (by omega)) (show FIv467 159 (y1_466).toNatClampNeg = x583 from h584) ?_
                  have b585 := gI_159 hI471 (i_lt (x := y1_466) rfl (by omega) (by omega)); rw [h584] at b585
                  have hv586 : FIv467 159 (y1_466).toNatClampNeg = x583 := by rw [← (show FIv467 159 = FIv467 159 from rfl)]; exact h584
                  refine hv_iast (k := (y1_466).toNatClampNeg) (aX12_compile 103 rfl) (c156 hS) (s156 hS) (h_in rfl (by omega) (by omega)) rfl (fun FI587 u588 => ?_)
                  have rl589 : rl_t (FI587 152) (FL578 153) := by rw [show FI587 152 = FIv467 152 from up_row u588 (by decide) rfl]; exact rl580
                  have rl590 : rl_e (FI587 149) (FI587 121 67) := by rw [show FI587 149 = FIv467 149 from up_row u588 (by decide) rfl, show FI587 121 67 = FIv467 121 67 from up_c u588 (by decide) rfl]; exact rl482
                  have rl591 : rl_t (FI587 149) (FL578 150) := by rw [show FI587 149 = FIv467 149 from up_row u588 (by decide) rfl]; exact rl581
                  have rl592 : rl_w (FI587 121 67) (FI587 149) (FL578 150) (FI587 151) := by rw [show FI587 149 = FIv467 149 from up_row u588 (by decide) rfl, show FI587 151 = FIv467 151 from up_row u588 (by decide) rfl, show FI587 121 67 = FIv467 121 67 from up_c u588 (by decide) rfl]; exact rl582
                  have hI593 : g_I FI587 := gU_156 hI471 u588 (by omega) (by omega)
                  refine hw_aloadn (aX12_compile 104 rfl) rfl ?_
                  refine hw_get (v := .ref (base + 157)) (aX12_compile 105 rfl) wf_RX12_129 (c121 hS) (s121 hS) (by decide) (congrArg (fun r => va_rf (h_rf base r)) (r121_77 hF)) ?_
                  refine xw_iloadn (aX12_compile 106 rfl) rfl ?_
                  refine hw_aloadn (aX12_compile 107 rfl) rfl ?_
                  refine hw_get (v := .ref (base + 160)) (aX12_compile 108 rfl) wf_RX12_138 (c121 hS) (s121 hS) (by decide) (congrArg (fun r => va_rf (h_rf base r)) (r121_81 hF)) ?_
                  refine xw_iloadn (aX12_compile 109 rfl) rfl ?_
                  obtain ⟨x594, h595⟩ : ∃ y, FI587 160 (y1_466).toNatClampNeg = y := ⟨_, rfl⟩
                  have h595l := congrArg Int32.toInt h595
                  have := i_rng x594
                  refine hw_iald (v := x594) (aX12_compile 110 rfl) (c160 hS) (s160 hS) (h_in rfl (by omega) (by omega)) (show FI587 160 (y1_466).toNatClampNeg = x594 from h595) ?_
                  have b596 := gI_160 hI593 (i_lt (x := y1_466) rfl (by omega) (by omega)); rw [h595] at b596
                  have hv597 : FIv467 160 (y1_466).toNatClampNeg = x594 := by rw [← (show FI587 160 = FIv467 160 from (up_row u588 (by decide) (rfl)))]; exact h595
                  refine hv_iast (k := (y1_466).toNatClampNeg) (aX12_compile 111 rfl) (c157 hS) (s157 hS) (h_in rfl (by omega) (by omega)) rfl (fun FI598 u599 => ?_)
                  have rl600 : rl_t (FI598 152) (FL578 153) := by rw [show FI598 152 = FI587 152 from up_row u599 (by decide) rfl]; exact rl589
                  have rl601 : rl_e (FI598 149) (FI598 121 67) := by rw [show FI598 149 = FI587 149 from up_row u599 (by decide) rfl, show FI598 121 67 = FI587 121 67 from up_c u599 (by decide) rfl]; exact rl590
                  have rl602 : rl_t (FI598 149) (FL578 150) := by rw [show FI598 149 = FI587 149 from up_row u599 (by decide) rfl]; exact rl591
                  have rl603 : rl_w (FI598 121 67) (FI598 149) (FL578 150) (FI598 151) := by rw [show FI598 149 = FI587 149 from up_row u599 (by decide) rfl, show FI598 151 = FI587 151 from up_row u599 (by decide) rfl, show FI598 121 67 = FI587 121 67 from up_c u599 (by decide) rfl]; exact rl592
                  have hI604 : g_I FI598 := gU_157 hI593 u599 (by omega) (by omega)
                  refine hw_aloadn (aX12_compile 112 rfl) rfl ?_
                  refine hw_get (v := .ref (base + 125)) (aX12_compile 113 rfl) wf_RX12_20 (c121 hS) (s121 hS) (by decide) (congrArg (fun r => va_rf (h_rf base r)) (r121_4 hF)) ?_
                  refine hw_bp (v := (20 : Int32)) (aX12_compile 114 rfl) (by decide) ?_
                  refine xw_iloadn (aX12_compile 115 rfl) rfl ?_
                  refine xw_iadd (aX12_compile 116 rfl) ?_
                  refine hw_tie (A := (20) + ((y1_466).toInt)) (i_add (by decide : (20 : Int32).toInt = 20) rfl (by omega) (by omega)) (fun x605 e606 => ?_)
                  refine hw_aloadn (aX12_compile 117 rfl) rfl ?_
                  refine hw_get (v := .ref (base + 161)) (aX12_compile 118 rfl) wf_RX12_141 (c121 hS) (s121 hS) (by decide) (congrArg (fun r => va_rf (h_rf base r)) (r121_82 hF)) ?_
                  refine xw_iloadn (aX12_compile 119 rfl) rfl ?_
                  refine hw_ic (v := (1 : Int32)) (aX12_compile 120 rfl) (by decide) ?_
                  refine xw_iadd (aX12_compile 121 rfl) ?_
                  refine hw_tie (A := ((y1_466).toInt) + (1)) (i_add rfl (by decide : (1 : Int32).toInt = 1) (by omega) (by omega)) (fun x607 e608 => ?_)
                  obtain ⟨x609, h610⟩ : ∃ y, FI598 161 (x607).toNatClampNeg = y := ⟨_, rfl⟩
                  have h610l := congrArg Int32.toInt h610
                  have := i_rng x609
                  refine hw_iald (v := x609) (aX12_compile 122 rfl) (c161 hS) (s161 hS) (h_in e608 (by omega) (by omega)) (show FI598 161 (x607).toNatClampNeg = x609 from h610) ?_
                  have b611 := gI_161 hI604 (i_lt (x := x607) e608 (by omega) (by omega)); rw [h610] at b611
                  refine hw_aloadn (aX12_compile 123 rfl) rfl ?_
                  refine hw_get (v := .ref (base + 161)) (aX12_compile 124 rfl) wf_RX12_141 (c121 hS) (s121 hS) (by decide) (congrArg (fun r => va_rf (h_rf base r)) (r121_82 hF)) ?_
                  refine xw_iloadn (aX12_compile 125 rfl) rfl ?_
                  obtain ⟨x612, h613⟩ : ∃ y, FI598 161 (y1_466).toNatClampNeg = y := ⟨_, rfl⟩
                  have h613l := congrArg Int32.toInt h613
                  have := i_rng x612
                  refine hw_iald (v := x612) (aX12_compile 126 rfl) (c161 hS) (s161 hS) (h_in rfl (by omega) (by omega)) (show FI598 161 (y1_466).toNatClampNeg = x612 from h613) ?_
                  have b614 := gI_161 hI604 (i_lt (x := y1_466) rfl (by omega) (by omega)); rw [h613] at b614
                  have ey : (y1_466).toNatClampNeg = (y1_466).toInt.toNat := i_cl rfl
                  have eb : (x607).toNatClampNeg = (y1_466).toNatClampNeg + 1 := by rw [i_cl (x := x607) rfl, ey]; omega
                  have hb1 := hid_e hmb (y1_466).toNatClampNeg (by omega); have hb2 := hid_e h600 (y1_466).toNatClampNeg (by omega)
                  rw [← eb, ← (show FI598 161 = FIj130 161 from (up_row u599 (by decide) ((up_row u588 (by decide) (rw487))))), show FI598 161 (x607).toNatClampNeg = x609 from h610, show FI598 161 (y1_466).toNatClampNeg = x612 from h613] at hb1 hb2
                  refine xw_isub (aX12_compile 127 rfl) ?_
                  refine hw_tie (A := ((x609).toInt) - ((x612).toInt)) (i_sub rfl rfl (by omega) (by omega)) (fun x615 e616 => ?_)
                  refine hv_iast (k := (x605).toNatClampNeg) (aX12_compile 128 rfl) (c125 hS) (s125 hS) (h_in e606 (by omega) (by omega)) rfl (fun FI617 u618 => ?_)
                  have rl619 : rl_t (FI617 152) (FL578 153) := by rw [show FI617 152 = FI598 152 from up_row u618 (by decide) rfl]; exact rl600
                  have rl620 : rl_e (FI617 149) (FI617 121 67) := by rw [show FI617 149 = FI598 149 from up_row u618 (by decide) rfl, show FI617 121 67 = FI598 121 67 from up_c u618 (by decide) rfl]; exact rl601
                  have rl621 : rl_t (FI617 149) (FL578 150) := by rw [show FI617 149 = FI598 149 from up_row u618 (by decide) rfl]; exact rl602
                  have rl622 : rl_w (FI617 121 67) (FI617 149) (FL578 150) (FI617 151) := by rw [show FI617 149 = FI598 149 from up_row u618 (by decide) rfl, show FI617 151 = FI598 151 from up_row u618 (by decide) rfl, show FI617 121 67 = FI598 121 67 from up_c u618 (by decide) rfl]; exact rl603
                  have hI623 : g_I FI617 := gU_125 hI604 u618 (by have := (e616 : (x615).toInt = ((x609).toInt) - ((x612).toInt)); omega) (by have := (e616 : (x615).toInt = ((x609).toInt) - ((x612).toInt)); omega)
                  refine hw_ic (v := (0 : Int32)) (aX12_compile 129 rfl) (by decide) ?_
                  refine xw_istoren (L2 := [(2, .int ((0 : Int32))), (1, .int (y1_466)), (0, .ref (base + 121))]) (aX12_compile 130 rfl) (by decide) rfl ?_
                  have lp657 : ∀ (m : Nat) (y2 : Int32) (FIv624 : Nat → Nat → Int32), (g_fr n SH [(121, 0), (121, 13), (121, 31), (121, 32), (121, 53), (121, 54), (121, 55), (121, 56), (121, 57), (121, 67), (121, 68), (121, 69), (121, 70), (121, 71), (121, 73), (121, 74), (121, 78), (121, 90), (121, 91)] [124, 125, 149, 151, 152, 154, 156, 157, 159, 160, 161, 162, 163, 164, 165, 166, 167, 168] [] FI FIv624) → (g_I FIv624) → (FIv624 121 0 = (0 : Int32)) → (FIv624 121 13 = (0 : Int32)) → (FIv624 121 67 = x25) → (FIv624 121 68 = g136) → (FIv624 121 69 = g138) → (FIv624 121 73 = g140) → (FIv624 149 0 = g142) → (FIv624 121 78 = x452) → (FIv624 121 74 = x452) → (FIv624 159 (y1_466).toNatClampNeg = x583) → (FIv624 156 (y1_466).toNatClampNeg = x583) → (FIv624 160 (y1_466).toNatClampNeg = x594) → (FIv624 157 (y1_466).toNatClampNeg = x594) → (FIv624 161 (x607).toNatClampNeg = x609) → (FIv624 161 (y1_466).toNatClampNeg = x612) → (FIv624 125 (x605).toNatClampNeg = x615) → (rl_t (FIv624 152) (FL578 153)) → (rl_e (FIv624 149) (FIv624 121 67)) → (rl_t (FIv624 149) (FL578 150)) → (rl_w (FIv624 121 67) (FIv624 149) (FL578 150) (FIv624 151)) → (0 ≤ (y2).toInt ∧ (y2).toInt ≤ 600) → (FIv624 161 = FIj130 161) → (FIv624 159 = FIj130 159) → (FIv624 160 = FIj130 160) → (FIv624 149 = FIj130 149) → (FIv624 152 = FIj130 152) → (FIv624 156 = va_up (FIv467 156) ((y1_466).toNatClampNeg) (x583)) → (FIv624 157 = va_up (FIv467 157) ((y1_466).toNatClampNeg) (x594)) → (FIv624 159 = FIv467 159) → (FIv624 160 = FIv467 160) → 600 - (y2).toInt < m → hw zk base (d + 11) none 225 221 [(2, .int (y2)), (1, .int (y1_466)), (0, .ref (base + 121))] [] (n, sl, SH, FIv624, FL578, FR) (h_I (fun r s => ∃ FI' FL', s = (n, sl, SH, FI', FL', FR) ∧ g_I FI' ∧ g_fr n SH [(121, 0), (121, 13), (121, 31), (121, 32), (121, 53), (121, 54), (121, 55), (121, 56), (121, 57), (121, 67), (121, 68), (121, 69), (121, 70), (121, 71), (121, 73), (121, 74), (121, 78), (121, 90), (121, 91)] [124, 125, 149, 151, 152, 154, 156, 157, 159, 160, 161, 162, 163, 164, 165, 166, 167, 168] [] FI FI' ∧ g_fr n SH [] [150, 153, 155, 158] [] FL FL' ∧ ((FI' 121 13).toInt = 0) ∧ (rl_t (FI' 149) (FL' 150)) ∧ (rl_t (FI' 152) (FL' 153)) ∧ (rl_v (FI' 121 74) (FI' 152) (FL' 153) (FI' 156) (FI' 157)))) := by
                    intro m
                    induction m with
                    | zero => intro y2 FIv624 fr625 hI626 kp627 kp628 kp629 kp630 kp631 kp632 kp633 kp634 kp635 kp636 kp637 kp638 kp639 kp640 kp641 kp642 rl643 rl644 rl645 rl646 iv647 rw648 rw649 rw650 rw651 rw652 rw653 rw654 rw655 rw656 hm; omega
                    | succ m ih221 =>
                      intro y2 FIv624 fr625 hI626 kp627 kp628 kp629 kp630 kp631 kp632 kp633 kp634 kp635 kp636 kp637 kp638 kp639 kp640 kp641 kp642 rl643 rl644 rl645 rl646 iv647 rw648 rw649 rw650 rw651 rw652 rw653 rw654 rw655 rw656 hm
                      have rg_y2 := i_rng y2
                      have := congrArg Int32.toInt kp627
                      have := congrArg Int32.toInt kp628
                      have := congrArg Int32.toInt kp629
                      have := congrArg Int32.toInt kp630
                      have := congrArg Int32.toInt kp631
                      have := congrArg Int32.toInt kp632
                      have := congrArg Int32.toInt kp633
                      have := congrArg Int32.toInt kp634
                      have := congrArg Int32.toInt kp635
                      have := congrArg Int32.toInt kp636
                      have := congrArg Int32.toInt kp637
                      have := congrArg Int32.toInt kp638
                      have := congrArg Int32.toInt kp639
                      have := congrArg Int32.toInt kp640
                      have := congrArg Int32.toInt kp641
                      have := congrArg Int32.toInt kp642
                      refine xw_iloadn (aX12_compile 131 rfl) rfl ?_
                      refine hw_aloadn (aX12_compile 132 rfl) rfl ?_
                      refine hw_get (v := .ref (base + 125)) (aX12_compile 133 rfl) wf_RX12_20 (c121 hS) (s121 hS) (by decide) (congrArg (fun r => va_rf (h_rf base r)) (r121_4 hF)) ?_
                      refine hw_bp (v := (20 : Int32)) (aX12_compile 134 rfl) (by decide) ?_
                      refine xw_iloadn (aX12_compile 135 rfl) rfl ?_
                      refine xw_iadd (aX12_compile 136 rfl) ?_
                      refine hw_tie (A := (20) + ((y1_466).toInt)) (i_add (by decide : (20 : Int32).toInt = 20) rfl (by omega) (by omega)) (fun x658 e659 => ?_)
                      obtain ⟨x660, h661⟩ : ∃ y, FIv624 125 (x658).toNatClampNeg = y := ⟨_, rfl⟩
                      have h661l := congrArg Int32.toInt h661
                      have := i_rng x660
                      refine hw_iald (v := x660) (aX12_compile 137 rfl) (c125 hS) (s125 hS) (h_in e659 (by omega) (by omega)) (show FIv624 125 (x658).toNatClampNeg = x660 from h661) ?_
                      have b662 := gI_125 hI626 (i_lt (x := x658) e659 (by omega) (by omega)); rw [h661] at b662
                      have esz : (x660).toInt = (x615).toInt := by rw [← (show FIv624 125 (x658).toNatClampNeg = x660 from h661), show x658 = x605 from i_eqv (by omega), show FIv624 125 (x605).toNatClampNeg = x615 from kp642]
                      refine hw_icge (tgt := 269) (aX12_compile 138 rfl) (by decide) rfl rfl (fun cd663 => ?_) (fun cd663 => ?_)
                      · obtain ⟨x664, q666⟩ : ∃ y : Int32, (y1_466) + Int32.ofInt (1) = y := ⟨_, rfl⟩
                        have e665 : (x664).toInt = (y1_466).toInt + (1) := by rw [← q666]; exact i_add rfl (by decide) (by omega) (by omega)
                        refine xw_iinc (L2 := [(1, .int (x664)), (2, .int (y2)), (0, .ref (base + 121))]) (aX12_compile 160 rfl) rfl (by decide) (by rw [q666]; rfl) ?_
                        refine xw_goto (tgt := 151) (aX12_compile 161 rfl) (by decide) ?_
                        exact hw_L (ih151 (x664) FIv624 FL578 fr625 (gf_a fr470 u579 (by decide)) hI626 (show FIv624 121 0 = (0 : Int32) from kp627) (show FIv624 121 13 = (0 : Int32) from kp628) (show FIv624 121 67 = x25 from kp629) (show FIv624 121 68 = g136 from kp630) (show FIv624 121 69 = g138 from kp631) (show FIv624 121 73 = g140 from kp632) (show FIv624 149 0 = g142 from kp633) (show FIv624 121 78 = x452 from kp634) (show FIv624 121 74 = x452 from kp635) (show rl_t (FIv624 152) (FL578 153) from rl643) (show rl_e (FIv624 149) (FIv624 121 67) from rl644) (show rl_t (FIv624 149) (FL578 150) from rl645) (show rl_w (FIv624 121 67) (FIv624 149) (FL578 150) (FIv624 151) from rl646) (by have := (e665 : (x664).toInt = (y1_466).toInt + (1)); omega) (by have := (e665 : (x664).toInt = (y1_466).toInt + (1)); have := congrArg Int32.toInt (show FIv624 121 78 = x452 from kp634); omega) (show ∀ j : Nat, (j : Int) < (x664).toInt → FIv624 156 j = FIv624 159 j ∧ FIv624 157 j = FIv624 160 j from (by have := (e665 : (x664).toInt = (y1_466).toInt + (1)); exact (fun j hj => by rw [show FIv624 156 = va_up (FIv467 156) ((y1_466).toNatClampNeg) (x583) from rw653, show FIv624 157 = va_up (FIv467 157) ((y1_466).toNatClampNeg) (x594) from rw654, show FIv624 159 = FIv467 159 from rw655, show FIv624 160 = FIv467 160 from rw656]; by_cases e : j = (y1_466).toNatClampNeg; { subst e; simp only [va_up, if_pos]; exact ⟨(hv586).symm, (hv597).symm⟩ }; { have e2 : (y1_466).toNatClampNeg = (y1_466).toInt.toNat := i_cl rfl; simp only [va_up, if_neg e]; exact xi151_0 j (by omega) }))) (show FIv624 161 = FIj130 161 from rw648) (show FIv624 159 = FIj130 159 from rw649) (show FIv624 160 = FIj130 160 from rw650) (show FIv624 149 = FIj130 149 from rw651) (show FL578 150 = FLj144 150 from (up_row u579 (by decide) (rw491))) (show FIv624 152 = FIj130 152 from rw652) (show FL578 153 = FLj144 153 from (up_row u579 (by decide) (rw493))) (by have := (e665 : (x664).toInt = (y1_466).toInt + (1)); have := congrArg Int32.toInt (show FIv624 121 78 = x452 from kp634); omega)) ⟨rfl, rfl, trivial⟩
                      · refine hw_aloadn (aX12_compile 139 rfl) rfl ?_
                        refine hw_get (v := .ref (base + 124)) (aX12_compile 140 rfl) wf_RX12_17 (c121 hS) (s121 hS) (by decide) (congrArg (fun r => va_rf (h_rf base r)) (r121_3 hF)) ?_
                        refine hw_sp (v := (12000 : Int32)) (aX12_compile 141 rfl) (by decide) ?_
                        refine hw_sp (v := (600 : Int32)) (aX12_compile 142 rfl) (by decide) ?_
                        refine xw_iloadn (aX12_compile 143 rfl) rfl ?_
                        refine xw_imul (aX12_compile 144 rfl) ?_
                        refine hw_tie (A := (600) * ((y1_466).toInt)) (i_mul (by decide : (600 : Int32).toInt = 600) rfl (by omega) (by omega)) (fun x667 e668 => ?_)
                        refine xw_iadd (aX12_compile 145 rfl) ?_
                        refine hw_tie (A := (12000) + ((600) * ((y1_466).toInt))) (i_add (by decide : (12000 : Int32).toInt = 12000) e668 (by omega) (by omega)) (fun x669 e670 => ?_)
                        refine xw_iloadn (aX12_compile 146 rfl) rfl ?_
                        refine xw_iadd (aX12_compile 147 rfl) ?_
                        refine hw_tie (A := ((12000) + ((600) * ((y1_466).toInt))) + ((y2).toInt)) (i_add e670 rfl (by omega) (by omega)) (fun x671 e672 => ?_)
                        refine hw_aloadn (aX12_compile 148 rfl) rfl ?_
                        refine hw_get (v := .ref (base + 154)) (aX12_compile 149 rfl) wf_RX12_120 (c121 hS) (s121 hS) (by decide) (congrArg (fun r => va_rf (h_rf base r)) (r121_72 hF)) ?_
                        refine hw_aloadn (aX12_compile 150 rfl) rfl ?_
                        refine hw_get (v := .ref (base + 161)) (aX12_compile 151 rfl) wf_RX12_141 (c121 hS) (s121 hS) (by decide) (congrArg (fun r => va_rf (h_rf base r)) (r121_82 hF)) ?_
                        refine xw_iloadn (aX12_compile 152 rfl) rfl ?_
                        refine hw_iald (v := x612) (aX12_compile 153 rfl) (c161 hS) (s161 hS) (h_in rfl (by omega) (by omega)) (show FIv624 161 (y1_466).toNatClampNeg = x612 from kp641) ?_
                        refine xw_iloadn (aX12_compile 154 rfl) rfl ?_
                        refine xw_iadd (aX12_compile 155 rfl) ?_
                        refine hw_tie (A := ((x612).toInt) + ((y2).toInt)) (i_add rfl rfl (by omega) (by omega)) (fun x673 e674 => ?_)
                        obtain ⟨x675, h676⟩ : ∃ y, FIv624 154 (x673).toNatClampNeg = y := ⟨_, rfl⟩
                        have h676l := congrArg Int32.toInt h676
                        have := i_rng x675
                        refine hw_iald (v := x675) (aX12_compile 156 rfl) (c154 hS) (s154 hS) (h_in e674 (by omega) (by omega)) (show FIv624 154 (x673).toNatClampNeg = x675 from h676) ?_
                        have b677 := gI_154 hI626 (i_lt (x := x673) e674 (by omega) (by omega)); rw [h676] at b677
                        refine hv_iast (k := (x671).toNatClampNeg) (aX12_compile 157 rfl) (c124 hS) (s124 hS) (h_in e672 (by omega) (by omega)) rfl (fun FI678 u679 => ?_)
                        have rl680 : rl_t (FI678 152) (FL578 153) := by rw [show FI678 152 = FIv624 152 from up_row u679 (by decide) rfl]; exact rl643
                        have rl681 : rl_e (FI678 149) (FI678 121 67) := by rw [show FI678 149 = FIv624 149 from up_row u679 (by decide) rfl, show FI678 121 67 = FIv624 121 67 from up_c u679 (by decide) rfl]; exact rl644
                        have rl682 : rl_t (FI678 149) (FL578 150) := by rw [show FI678 149 = FIv624 149 from up_row u679 (by decide) rfl]; exact rl645
                        have rl683 : rl_w (FI678 121 67) (FI678 149) (FL578 150) (FI678 151) := by rw [show FI678 149 = FIv624 149 from up_row u679 (by decide) rfl, show FI678 151 = FIv624 151 from up_row u679 (by decide) rfl, show FI678 121 67 = FIv624 121 67 from up_c u679 (by decide) rfl]; exact rl646
                        have hI684 : g_I FI678 := gU_124 hI626 u679 (by omega) (by omega)
                        obtain ⟨x685, q687⟩ : ∃ y : Int32, (y2) + Int32.ofInt (1) = y := ⟨_, rfl⟩
                        have e686 : (x685).toInt = (y2).toInt + (1) := by rw [← q687]; exact i_add rfl (by decide) (by omega) (by omega)
                        refine xw_iinc (L2 := [(2, .int (x685)), (1, .int (y1_466)), (0, .ref (base + 121))]) (aX12_compile 158 rfl) rfl (by decide) (by rw [q687]; rfl) ?_
                        refine xw_goto (tgt := 221) (aX12_compile 159 rfl) (by decide) ?_
                        exact hw_L (ih221 (x685) FI678 (gf_a fr625 u679 (by decide)) hI684 (show FI678 121 0 = (0 : Int32) from (up_c u679 (by decide) (kp627))) (show FI678 121 13 = (0 : Int32) from (up_c u679 (by decide) (kp628))) (show FI678 121 67 = x25 from (up_c u679 (by decide) (kp629))) (show FI678 121 68 = g136 from (up_c u679 (by decide) (kp630))) (show FI678 121 69 = g138 from (up_c u679 (by decide) (kp631))) (show FI678 121 73 = g140 from (up_c u679 (by decide) (kp632))) (show FI678 149 0 = g142 from (up_c u679 (by decide) (kp633))) (show FI678 121 78 = x452 from (up_c u679 (by decide) (kp634))) (show FI678 121 74 = x452 from (up_c u679 (by decide) (kp635))) (show FI678 159 (y1_466).toNatClampNeg = x583 from (up_c u679 (by decide) (kp636))) (show FI678 156 (y1_466).toNatClampNeg = x583 from (up_c u679 (by decide) (kp637))) (show FI678 160 (y1_466).toNatClampNeg = x594 from (up_c u679 (by decide) (kp638))) (show FI678 157 (y1_466).toNatClampNeg = x594 from (up_c u679 (by decide) (kp639))) (show FI678 161 (x607).toNatClampNeg = x609 from (up_c u679 (by decide) (kp640))) (show FI678 161 (y1_466).toNatClampNeg = x612 from (up_c u679 (by decide) (kp641))) (show FI678 125 (x605).toNatClampNeg = x615 from (up_c u679 (by decide) (kp642))) (show rl_t (FI678 152) (FL578 153) from rl680) (show rl_e (FI678 149) (FI678 121 67) from rl681) (show rl_t (FI678 149) (FL578 150) from rl682) (show rl_w (FI678 121 67) (FI678 149) (FL578 150) (FI678 151) from rl683) (by have := (e686 : (x685).toInt = (y2).toInt + (1)); omega) (show FI678 161 = FIj130 161 from (up_row u679 (by decide) (rw648))) (show FI678 159 = FIj130 159 from (up_row u679 (by decide) (rw649))) (show FI678 160 = FIj130 160 from (up_row u679 (by decide) (rw650))) (show FI678 149 = FIj130 149 from (up_row u679 (by decide) (rw651))) (show FI678 152 = FIj130 152 from (up_row u679 (by decide) (rw652))) (show FI678 156 = va_up (FIv467 156) ((y1_466).toNatClampNeg) (x583) from (up_row u679 (by decide) (rw653))) (show FI678 157 = va_up (FIv467 157) ((y1_466).toNatClampNeg) (x594) from (up_row u679 (by decide) (rw654))) (show FI678 159 = FIv467 159 from (up_row u679 (by decide) (rw655))) (show FI678 160 = FIv467 160 from (up_row u679 (by decide) (rw656))) (by have := (e686 : (x685).toInt = (y2).toInt + (1)); omega)) ⟨rfl, rfl, rfl, trivial⟩
                  exact hw_L (lp657 ((600 - 0 : Int).toNat + 1) ((0 : Int32)) FI617 (gf_a (gf_a (gf_a fr469 u588 (by decide)) u599 (by decide)) u618 (by decide)) hI623 (show FI617 121 0 = (0 : Int32) from (up_c u618 (by decide) ((up_c u599 (by decide) ((up_c u588 (by decide) (kp472))))))) (show FI617 121 13 = (0 : Int32) from (up_c u618 (by decide) ((up_c u599 (by decide) ((up_c u588 (by decide) (kp473))))))) (show FI617 121 67 = x25 from (up_c u618 (by decide) ((up_c u599 (by decide) ((up_c u588 (by decide) (kp474))))))) (show FI617 121 68 = g136 from (up_c u618 (by decide) ((up_c u599 (by decide) ((up_c u588 (by decide) (kp475))))))) (show FI617 121 69 = g138 from (up_c u618 (by decide) ((up_c u599 (by decide) ((up_c u588 (by decide) (kp476))))))) (show FI617 121 73 = g140 from (up_c u618 (by decide) ((up_c u599 (by decide) ((up_c u588 (by decide) (kp477))))))) (show FI617 149 0 = g142 from (up_c u618 (by decide) ((up_c u599 (by decide) ((up_c u588 (by decide) (kp478))))))) (show FI617 121 78 = x452 from (up_c u618 (by decide) ((up_c u599 (by decide) ((up_c u588 (by decide) (kp479))))))) (show FI617 121 74 = x452 from (up_c u618 (by decide) ((up_c u599 (by decide) ((up_c u588 (by decide) (kp480))))))) (show FI617 159 (y1_466).toNatClampNeg = x583 from (up_c u618 (by decide) ((up_c u599 (by decide) ((up_c u588 (by decide) (h584))))))) (show FI617 156 (y1_466).toNatClampNeg = x583 from (up_c u618 (by decide) ((up_c u599 (by decide) (up_eq u588))))) (show FI617 160 (y1_466).toNatClampNeg = x594 from (up_c u618 (by decide) ((up_c u599 (by decide) (h595))))) (show FI617 157 (y1_466).toNatClampNeg = x594 from (up_c u618 (by decide) (up_eq u599))) (show FI617 161 (x607).toNatClampNeg = x609 from (up_c u618 (by decide) (h610))) (show FI617 161 (y1_466).toNatClampNeg = x612 from (up_c u618 (by decide) (h613))) (show FI617 125 (x605).toNatClampNeg = x615 from up_eq u618) (show rl_t (FI617 152) (FL578 153) from rl619) (show rl_e (FI617 149) (FI617 121 67) from rl620) (show rl_t (FI617 149) (FL578 150) from rl621) (show rl_w (FI617 121 67) (FI617 149) (FL578 150) (FI617 151) from rl622) (by have := ((by decide : (0 : Int32).toInt = 0) : ((0 : Int32)).toInt = 0); omega) (show FI617 161 = FIj130 161 from (up_row u618 (by decide) ((up_row u599 (by decide) ((up_row u588 (by decide) (rw487))))))) (show FI617 159 = FIj130 159 from (up_row u618 (by decide) ((up_row u599 (by decide) ((up_row u588 (by decide) (rw488))))))) (show FI617 160 = FIj130 160 from (up_row u618 (by decide) ((up_row u599 (by decide) ((up_row u588 (by decide) (rw489))))))) (show FI617 149 = FIj130 149 from (up_row u618 (by decide) ((up_row u599 (by decide) ((up_row u588 (by decide) (rw490))))))) (show FI617 152 = FIj130 152 from (up_row u618 (by decide) ((up_row u599 (by decide) ((up_row u588 (by decide) (rw492))))))) (show FI617 156 = va_up (FIv467 156) ((y1_466).toNatClampNeg) (x583) from (up_row u618 (by decide) ((up_row u599 (by decide) ((up_va u588 (rfl))))))) (show FI617 157 = va_up (FIv467 157) ((y1_466).toNatClampNeg) (x594) from (up_row u618 (by decide) ((up_va u599 ((up_row u588 (by decide) (rfl))))))) (show FI617 159 = FIv467 159 from (up_row u618 (by decide) ((up_row u599 (by decide) ((up_row u588 (by decide) (rfl))))))) (show FI617 160 = FIv467 160 from (up_row u618 (by decide) ((up_row u599 (by decide) ((up_row u588 (by decide) (rfl))))))) (by have := ((by decide : (0 : Int32).toInt = 0) : ((0 : Int32)).toInt = 0); omega)) ⟨rfl, rfl, rfl, trivial⟩
            exact hw_L (lp494 (((x452).toInt - 0 : Int).toNat + 1) ((0 : Int32)) FI459 FLj144 (gf_f fr131 u460 (by decide)) fr145 hI465 (show FI459 121 0 = (0 : Int32) from (up_k u460 (by decide) (kp133))) (show FI459 121 13 = (0 : Int32) from (up_k u460 (by decide) (kp134))) (show FI459 121 67 = x25 from (up_k u460 (by decide) (kp135))) (show FI459 121 68 = g136 from (up_k u460 (by decide) (kp137))) (show FI459 121 69 = g138 from (up_k u460 (by decide) (kp139))) (show FI459 121 73 = g140 from (up_k u460 (by decide) (kp141))) (show FI459 149 0 = g142 from (up_c u460 (by decide) (kp143))) (show FI459 121 78 = x452 from (up_k u460 (by decide) (h453))) (show FI459 121 74 = x452 from up_eq u460) (show rl_t (FI459 152) (FLj144 153) from rl461) (show rl_e (FI459 149) (FI459 121 67) from rl462) (show rl_t (FI459 149) (FLj144 150) from rl463) (show rl_w (FI459 121 67) (FI459 149) (FLj144 150) (FI459 151) from rl464) (by have := ((by decide : (0 : Int32).toInt = 0) : ((0 : Int32)).toInt = 0); omega) (by have := ((by decide : (0 : Int32).toInt = 0) : ((0 : Int32)).toInt = 0); have := congrArg Int32.toInt (show FI459 121 78 = x452 from (up_k u460 (by decide) (h453))); omega) (show ∀ j : Nat, (j : Int) < 0 → FI459 156 j = FI459 159 j ∧ FI459 157 j = FI459 160 j from (by have := ((by decide : (0 : Int32).toInt = 0) : ((0 : Int32)).toInt = 0); exact (fun j hj => by omega))) (show FI459 161 = FIj130 161 from (up_row u460 (by decide) (rfl))) (show FI459 159 = FIj130 159 from (up_row u460 (by decide) (rfl))) (show FI459 160 = FIj130 160 from (up_row u460 (by decide) (rfl))) (show FI459 149 = FIj130 149 from (up_row u460 (by decide) (rfl))) (show FLj144 150 = FLj144 150 from rfl) (show FI459 152 = FIj130 152 from (up_row u460 (by decide) (rfl))) (show FLj144 153 = FLj144 153 from rfl) (by have := ((by decide : (0 : Int32).toInt = 0) : ((0 : Int32)).toInt = 0); have := congrArg Int32.toInt (show FI459 121 78 = x452 from (up_k u460 (by decide) (h453))); omega)) ⟨rfl, rfl, trivial⟩
          · refine hw_aloadn (aX12_compile 48 rfl) rfl ?_
            refine hw_get (v := .ref (base + 161)) (aX12_compile 49 rfl) wf_RX12_141 (c121 hS) (s121 hS) (by decide) (congrArg (fun r => va_rf (h_rf base r)) (r121_82 hF)) ?_
            refine xw_iloadn (aX12_compile 50 rfl) rfl ?_
            refine hw_ic (v := (1 : Int32)) (aX12_compile 51 rfl) (by decide) ?_
            refine xw_iadd (aX12_compile 52 rfl) ?_
            refine hw_tie (A := ((y1).toInt) + (1)) (i_add rfl (by decide : (1 : Int32).toInt = 1) (by omega) (by omega)) (fun x688 e689 => ?_)
            obtain ⟨x690, h691⟩ : ∃ y, FIj130 161 (x688).toNatClampNeg = y := ⟨_, rfl⟩
            have h691l := congrArg Int32.toInt h691
            have := i_rng x690
            refine hw_iald (v := x690) (aX12_compile 53 rfl) (c161 hS) (s161 hS) (h_in e689 (by omega) (by omega)) (show FIj130 161 (x688).toNatClampNeg = x690 from h691) ?_
            have b692 := gI_161 hI132 (i_lt (x := x688) e689 (by omega) (by omega)); rw [h691] at b692
            refine hw_aloadn (aX12_compile 54 rfl) rfl ?_
            refine hw_get (v := .ref (base + 161)) (aX12_compile 55 rfl) wf_RX12_141 (c121 hS) (s121 hS) (by decide) (congrArg (fun r => va_rf (h_rf base r)) (r121_82 hF)) ?_
            refine xw_iloadn (aX12_compile 56 rfl) rfl ?_
            obtain ⟨x693, h694⟩ : ∃ y, FIj130 161 (y1).toNatClampNeg = y := ⟨_, rfl⟩
            have h694l := congrArg Int32.toInt h694
            have := i_rng x693
            refine hw_iald (v := x693) (aX12_compile 57 rfl) (c161 hS) (s161 hS) (h_in rfl (by omega) (by omega)) (show FIj130 161 (y1).toNatClampNeg = x693 from h694) ?_
            have b695 := gI_161 hI132 (i_lt (x := y1) rfl (by omega) (by omega)); rw [h694] at b695
            refine xw_isub (aX12_compile 58 rfl) ?_
            refine hw_tie (A := ((x690).toInt) - ((x693).toInt)) (i_sub rfl rfl (by omega) (by omega)) (fun x696 e697 => ?_)
            refine xw_istoren (L2 := [(2, .int (x696)), (1, .int (y1)), (0, .ref (base + 121))]) (aX12_compile 59 rfl) (by decide) rfl ?_
            refine hw_aloadn (aX12_compile 60 rfl) rfl ?_
            refine hw_get (v := .ref (base + 163)) (aX12_compile 61 rfl) wf_RX12_147 (c121 hS) (s121 hS) (by decide) (congrArg (fun r => va_rf (h_rf base r)) (r121_84 hF)) ?_
            refine xw_iloadn (aX12_compile 62 rfl) rfl ?_
            obtain ⟨x698, h699⟩ : ∃ y, FIj130 163 (y1).toNatClampNeg = y := ⟨_, rfl⟩
            have h699l := congrArg Int32.toInt h699
            have := i_rng x698
            refine hw_zald (v := x698) (aX12_compile 63 rfl) (c163 hS) (s163 hS) (h_in rfl (by omega) (by omega)) (show FIj130 163 (y1).toNatClampNeg = x698 from h699) ?_
            have b700 := gI_163 hI132 (i_lt (x := y1) rfl (by omega) (by omega)); rw [h699] at b700
            refine hw_ifne (tgt := 122) (aX12_compile 64 rfl) (by decide) rfl (fun cd701 => ?_) (fun cd701 => ?_)
            · refine hw_aloadn (aX12_compile 68 rfl) rfl ?_
              refine hw_bp (v := (7 : Int32)) (aX12_compile 69 rfl) (by decide) ?_
              refine hw_aloadn (aX12_compile 70 rfl) rfl ?_
              refine hw_get (v := .ref (base + 162)) (aX12_compile 71 rfl) wf_RX12_144 (c121 hS) (s121 hS) (by decide) (congrArg (fun r => va_rf (h_rf base r)) (r121_83 hF)) ?_
              refine xw_iloadn (aX12_compile 72 rfl) rfl ?_
              obtain ⟨x702, h703⟩ : ∃ y, FIj130 162 (y1).toNatClampNeg = y := ⟨_, rfl⟩
              have h703l := congrArg Int32.toInt h703
              have := i_rng x702
              refine hw_iald (v := x702) (aX12_compile 73 rfl) (c162 hS) (s162 hS) (h_in rfl (by omega) (by omega)) (show FIj130 162 (y1).toNatClampNeg = x702 from h703) ?_
              refine hw_callV (Bs := [.int ((7 : Int32)), .int (x702)]) (rest := []) (aX12_compile 74 rfl) wc_RX12_521 (by decide) rfl wi_yX12_faulty wv_yX12_faulty (c121 hS) (s121 hS) rfl rfl rfl (Nat.le_of_ble_eq_true rfl) (Nat.le_of_ble_eq_true rfl) (n_faulty (d := d + 9) hS hF hI132 ((7 : Int32)) (x702) ) (fun v704 sv705 p706 => ?_)
              obtain ⟨r707, rfl, FI708, rfl, hI709, f710⟩ := p706
              have rl711 : rl_t (FI708 152) (FLj144 153) := by rw [show FI708 152 = FIj130 152 from gf_row f710 (c152 hS) (s152 hS) rfl rfl]; exact rl146
              have rl712 : rl_e (FI708 149) (FI708 121 67) := by rw [show FI708 149 = FIj130 149 from gf_row f710 (c149 hS) (s149 hS) rfl rfl, show FI708 121 67 = FIj130 121 67 from gf_at f710 (c121 hS) (s121 hS) rfl rfl]; exact rl147
              have rl713 : rl_t (FI708 149) (FLj144 150) := by rw [show FI708 149 = FIj130 149 from gf_row f710 (c149 hS) (s149 hS) rfl rfl]; exact rl148
              have rl714 : rl_v (FI708 121 74) (FI708 152) (FLj144 153) (FI708 156) (FI708 157) := by rw [show FI708 152 = FIj130 152 from gf_row f710 (c152 hS) (s152 hS) rfl rfl, show FI708 156 = FIj130 156 from gf_row f710 (c156 hS) (s156 hS) rfl rfl, show FI708 157 = FIj130 157 from gf_row f710 (c157 hS) (s157 hS) rfl rfl, show FI708 121 74 = FIj130 121 74 from gf_at f710 (c121 hS) (s121 hS) rfl rfl]; exact rl149
              have rl715 : rl_w (FI708 121 67) (FI708 149) (FLj144 150) (FI708 151) := by rw [show FI708 149 = FIj130 149 from gf_row f710 (c149 hS) (s149 hS) rfl rfl, show FI708 151 = FIj130 151 from gf_row f710 (c151 hS) (s151 hS) rfl rfl, show FI708 121 67 = FIj130 121 67 from gf_at f710 (c121 hS) (s121 hS) rfl rfl]; exact rl150
              have rg_r707 := i_rng r707
              show hw zk base _ _ _ _ _ [.int (r707)] _ _
              refine xw_iret (aX12_compile 75 rfl) rfl rfl ?_
              exact ⟨r707, rfl, FI708, FLj144, rfl, hI709, (gf_tr ex_rf fr131 f710 rfl rfl rfl), fr145, (by have := congrArg Int32.toInt (show FI708 121 13 = (0 : Int32) from (gf_at f710 (c121 hS) (s121 hS) rfl (kp134))); have := ((by decide : (0 : Int32).toInt = 0) : ((0 : Int32)).toInt = 0); omega), (show rl_t (FI708 149) (FLj144 150) from rl713), (show rl_t (FI708 152) (FLj144 153) from rl711), (show rl_v (FI708 121 74) (FI708 152) (FLj144 153) (FI708 156) (FI708 157) from rl714)⟩
            · refine xw_iloadn (aX12_compile 65 rfl) rfl ?_
              refine hw_sp (v := (600 : Int32)) (aX12_compile 66 rfl) (by decide) ?_
              refine hw_icle (tgt := 135) (aX12_compile 67 rfl) (by decide) e697 (by decide : (600 : Int32).toInt = 600) (fun cd716 => ?_) (fun cd716 => ?_)
              · obtain ⟨x717, q719⟩ : ∃ y : Int32, (y1) + Int32.ofInt (1) = y := ⟨_, rfl⟩
                have e718 : (x717).toInt = (y1).toInt + (1) := by rw [← q719]; exact i_add rfl (by decide) (by omega) (by omega)
                refine xw_iinc (L2 := [(1, .int (x717)), (2, .int (x696)), (0, .ref (base + 121))]) (aX12_compile 76 rfl) rfl (by decide) (by rw [q719]; rfl) ?_
                refine xw_goto (tgt := 82) (aX12_compile 77 rfl) (by decide) ?_
                exact hw_L (ih (x717) (by have := (e718 : (x717).toInt = (y1).toInt + (1)); omega) (by have := (e718 : (x717).toInt = (y1).toInt + (1)); have := congrArg Int32.toInt (show FIj130 121 78 = x452 from h453); omega) (show ∀ j : Nat, (j : Int) < (x717).toInt → (FIj130 161 (j + 1)).toInt - (FIj130 161 j).toInt ≤ 600 from (by have := (e718 : (x717).toInt = (y1).toInt + (1)); exact (fun j hj => by rcases Int.lt_or_le (j : Int) (y1).toInt with h | h; { exact xi82_0 j h }; { have e0 : j = (y1).toNatClampNeg := (by rw [i_cl (x := y1) rfl]; omega); have e1 : j + 1 = (x688).toNatClampNeg := (by rw [i_cl (x := x688) rfl]; have := e689; omega); rw [e1, show FIj130 161 (x688).toNatClampNeg = x690 from h691, e0, show FIj130 161 (y1).toNatClampNeg = x693 from h694]; have := e697; omega }))) (by have := (e718 : (x717).toInt = (y1).toInt + (1)); have := congrArg Int32.toInt (show FIj130 121 78 = x452 from h453); omega)) ⟨rfl, rfl, trivial⟩
              · refine hw_aloadn (aX12_compile 68 rfl) rfl ?_
                refine hw_bp (v := (7 : Int32)) (aX12_compile 69 rfl) (by decide) ?_
                refine hw_aloadn (aX12_compile 70 rfl) rfl ?_
                refine hw_get (v := .ref (base + 162)) (aX12_compile 71 rfl) wf_RX12_144 (c121 hS) (s121 hS) (by decide) (congrArg (fun r => va_rf (h_rf base r)) (r121_83 hF)) ?_
                refine xw_iloadn (aX12_compile 72 rfl) rfl ?_
                obtain ⟨x720, h721⟩ : ∃ y, FIj130 162 (y1).toNatClampNeg = y := ⟨_, rfl⟩
                have h721l := congrArg Int32.toInt h721
                have := i_rng x720
                refine hw_iald (v := x720) (aX12_compile 73 rfl) (c162 hS) (s162 hS) (h_in rfl (by omega) (by omega)) (show FIj130 162 (y1).toNatClampNeg = x720 from h721) ?_
                refine hw_callV (Bs := [.int ((7 : Int32)), .int (x720)]) (rest := []) (aX12_compile 74 rfl) wc_RX12_521 (by decide) rfl wi_yX12_faulty wv_yX12_faulty (c121 hS) (s121 hS) rfl rfl rfl (Nat.le_of_ble_eq_true rfl) (Nat.le_of_ble_eq_true rfl) (n_faulty (d := d + 9) hS hF hI132 ((7 : Int32)) (x720) ) (fun v722 sv723 p724 => ?_)
                obtain ⟨r725, rfl, FI726, rfl, hI727, f728⟩ := p724
                have rl729 : rl_t (FI726 152) (FLj144 153) := by rw [show FI726 152 = FIj130 152 from gf_row f728 (c152 hS) (s152 hS) rfl rfl]; exact rl146
                have rl730 : rl_e (FI726 149) (FI726 121 67) := by rw [show FI726 149 = FIj130 149 from gf_row f728 (c149 hS) (s149 hS) rfl rfl, show FI726 121 67 = FIj130 121 67 from gf_at f728 (c121 hS) (s121 hS) rfl rfl]; exact rl147
                have rl731 : rl_t (FI726 149) (FLj144 150) := by rw [show FI726 149 = FIj130 149 from gf_row f728 (c149 hS) (s149 hS) rfl rfl]; exact rl148
                have rl732 : rl_v (FI726 121 74) (FI726 152) (FLj144 153) (FI726 156) (FI726 157) := by rw [show FI726 152 = FIj130 152 from gf_row f728 (c152 hS) (s152 hS) rfl rfl, show FI726 156 = FIj130 156 from gf_row f728 (c156 hS) (s156 hS) rfl rfl, show FI726 157 = FIj130 157 from gf_row f728 (c157 hS) (s157 hS) rfl rfl, show FI726 121 74 = FIj130 121 74 from gf_at f728 (c121 hS) (s121 hS) rfl rfl]; exact rl149
                have rl733 : rl_w (FI726 121 67) (FI726 149) (FLj144 150) (FI726 151) := by rw [show FI726 149 = FIj130 149 from gf_row f728 (c149 hS) (s149 hS) rfl rfl, show FI726 151 = FIj130 151 from gf_row f728 (c151 hS) (s151 hS) rfl rfl, show FI726 121 67 = FIj130 121 67 from gf_at f728 (c121 hS) (s121 hS) rfl rfl]; exact rl150
                have rg_r725 := i_rng r725
                show hw zk base _ _ _ _ _ [.int (r725)] _ _
                refine xw_iret (aX12_compile 75 rfl) rfl rfl ?_
                exact ⟨r725, rfl, FI726, FLj144, rfl, hI727, (gf_tr ex_rf fr131 f728 rfl rfl rfl), fr145, (by have := congrArg Int32.toInt (show FI726 121 13 = (0 : Int32) from (gf_at f728 (c121 hS) (s121 hS) rfl (kp134))); have := ((by decide : (0 : Int32).toInt = 0) : ((0 : Int32)).toInt = 0); omega), (show rl_t (FI726 149) (FLj144 150) from rl731), (show rl_t (FI726 152) (FLj144 153) from rl729), (show rl_v (FI726 121 74) (FI726 152) (FLj144 153) (FI726 156) (FI726 157) from rl732)⟩
      exact hw_L (lp457 (((x452).toInt - 0 : Int).toNat + 1) ((0 : Int32)) (by have := ((by decide : (0 : Int32).toInt = 0) : ((0 : Int32)).toInt = 0); omega) (by have := ((by decide : (0 : Int32).toInt = 0) : ((0 : Int32)).toInt = 0); have := congrArg Int32.toInt (show FIj130 121 78 = x452 from h453); omega) (show ∀ j : Nat, (j : Int) < 0 → (FIj130 161 (j + 1)).toInt - (FIj130 161 j).toInt ≤ 600 from (by have := ((by decide : (0 : Int32).toInt = 0) : ((0 : Int32)).toInt = 0); exact (fun j hj => by omega))) (by have := ((by decide : (0 : Int32).toInt = 0) : ((0 : Int32)).toInt = 0); have := congrArg Int32.toInt (show FIj130 121 78 = x452 from h453); omega)) ⟨rfl, rfl, trivial⟩
    · refine hw_aloadn (aX12_compile 35 rfl) rfl ?_
      refine hw_aloadn (aX12_compile 36 rfl) rfl ?_
      refine hw_get (v := .int (g138)) (aX12_compile 37 rfl) wf_RX12_475 (c121 hS) (s121 hS) (by decide) (congrArg Value.int (show FIj130 121 69 = g138 from kp139)) ?_
      refine hw_aloadn (aX12_compile 38 rfl) rfl ?_
      obtain ⟨x734, h735⟩ : ∃ y, FIj130 121 70 = y := ⟨_, rfl⟩
      have h735l := congrArg Int32.toInt h735
      have := i_rng x734
      refine hw_get (v := .int (x734)) (aX12_compile 39 rfl) wf_RX12_481 (c121 hS) (s121 hS) (by decide) (congrArg Value.int (show FIj130 121 70 = x734 from h735)) ?_
      refine hw_callV (Bs := [.int (g138), .int (x734)]) (rest := []) (aX12_compile 40 rfl) wc_RX12_521 (by decide) rfl wi_yX12_faulty wv_yX12_faulty (c121 hS) (s121 hS) rfl rfl rfl (Nat.le_of_ble_eq_true rfl) (Nat.le_of_ble_eq_true rfl) (n_faulty (d := d + 9) hS hF hI132 (g138) (x734) ) (fun v736 sv737 p738 => ?_)
      obtain ⟨r739, rfl, FI740, rfl, hI741, f742⟩ := p738
      have rl743 : rl_t (FI740 152) (FLj144 153) := by rw [show FI740 152 = FIj130 152 from gf_row f742 (c152 hS) (s152 hS) rfl rfl]; exact rl146
      have rl744 : rl_e (FI740 149) (FI740 121 67) := by rw [show FI740 149 = FIj130 149 from gf_row f742 (c149 hS) (s149 hS) rfl rfl, show FI740 121 67 = FIj130 121 67 from gf_at f742 (c121 hS) (s121 hS) rfl rfl]; exact rl147
      have rl745 : rl_t (FI740 149) (FLj144 150) := by rw [show FI740 149 = FIj130 149 from gf_row f742 (c149 hS) (s149 hS) rfl rfl]; exact rl148
      have rl746 : rl_v (FI740 121 74) (FI740 152) (FLj144 153) (FI740 156) (FI740 157) := by rw [show FI740 152 = FIj130 152 from gf_row f742 (c152 hS) (s152 hS) rfl rfl, show FI740 156 = FIj130 156 from gf_row f742 (c156 hS) (s156 hS) rfl rfl, show FI740 157 = FIj130 157 from gf_row f742 (c157 hS) (s157 hS) rfl rfl, show FI740 121 74 = FIj130 121 74 from gf_at f742 (c121 hS) (s121 hS) rfl rfl]; exact rl149
      have rl747 : rl_w (FI740 121 67) (FI740 149) (FLj144 150) (FI740 151) := by rw [show FI740 149 = FIj130 149 from gf_row f742 (c149 hS) (s149 hS) rfl rfl, show FI740 151 = FIj130 151 from gf_row f742 (c151 hS) (s151 hS) rfl rfl, show FI740 121 67 = FIj130 121 67 from gf_at f742 (c121 hS) (s121 hS) rfl rfl]; exact rl150
      have rg_r739 := i_rng r739
      show hw zk base _ _ _ _ _ [.int (r739)] _ _
      refine xw_iret (aX12_compile 41 rfl) rfl rfl ?_
      exact ⟨r739, rfl, FI740, FLj144, rfl, hI741, (gf_tr ex_rf fr131 f742 rfl rfl rfl), fr145, (by have := congrArg Int32.toInt (show FI740 121 13 = (0 : Int32) from (gf_at f742 (c121 hS) (s121 hS) rfl (kp134))); have := ((by decide : (0 : Int32).toInt = 0) : ((0 : Int32)).toInt = 0); omega), (show rl_t (FI740 149) (FLj144 150) from rl745), (show rl_t (FI740 152) (FLj144 153) from rl743), (show rl_v (FI740 121 74) (FI740 152) (FLj144 153) (FI740 156) (FI740 157) from rl746)⟩
  refine hw_ifne (tgt := 60) (aX12_compile 22 rfl) (by decide) (by decide : (0 : Int32).toInt = 0) (fun cd748 => ?_) (fun cd748 => ?_)
  · omega
  · refine hw_aloadn (aX12_compile 23 rfl) rfl ?_
    refine hw_get (v := .ref (base + 149)) (aX12_compile 24 rfl) wf_RX12_105 (c121 hS) (s121 hS) (by decide) (congrArg (fun r => va_rf (h_rf base r)) (r121_62 hF)) ?_
    refine hw_aloadn (aX12_compile 25 rfl) rfl ?_
    refine hw_get (v := .int ((0 : Int32))) (aX12_compile 26 rfl) wf_RX12_478 (c121 hS) (s121 hS) (by decide) (congrArg Value.int (show FI60 121 68 = (0 : Int32) from (up_k u61 (by decide) ((up_k u53 (by decide) ((up_k u45 (by decide) (up_eq u37)))))))) ?_
    obtain ⟨x749, h750⟩ : ∃ y, FI60 149 0 = y := ⟨_, rfl⟩
    have h750l := congrArg Int32.toInt h750
    have := i_rng x749
    refine hw_iald (v := x749) (aX12_compile 27 rfl) (c149 hS) (s149 hS) (h_in (by decide : (0 : Int32).toInt = 0) (by omega) (by omega)) (show FI60 149 ((0 : Int32)).toNatClampNeg = x749 from h750) ?_
    refine hw_ifeq (tgt := 60) (aX12_compile 28 rfl) (by decide) rfl (fun cd751 => ?_) (fun cd751 => ?_)
    · exact hw_L (j448 ((0 : Int32)) ((0 : Int32)) ((0 : Int32)) (x749) FI60 FL15 (gf_f (gf_f (gf_f (gf_f (gf_f (gf_tr ex_rf (gf_f gf_rf u5 (by decide)) f17 rfl rfl rfl) u29 (by decide)) u37 (by decide)) u45 (by decide)) u53 (by decide)) u61 (by decide)) hI67 (show FI60 121 0 = (0 : Int32) from (up_k u61 (by decide) ((up_k u53 (by decide) ((up_k u45 (by decide) ((up_k u37 (by decide) ((up_k u29 (by decide) ((gf_at f17 (c121 hS) (s121 hS) rfl (up_eq u5))))))))))))) (show FI60 121 13 = (0 : Int32) from (up_k u61 (by decide) ((up_k u53 (by decide) ((up_k u45 (by decide) ((up_k u37 (by decide) (up_eq u29))))))))) (show FI60 121 67 = x25 from (up_k u61 (by decide) ((up_k u53 (by decide) ((up_k u45 (by decide) ((up_k u37 (by decide) ((up_k u29 (by decide) (h26))))))))))) (show FI60 121 68 = (0 : Int32) from (up_k u61 (by decide) ((up_k u53 (by decide) ((up_k u45 (by decide) (up_eq u37))))))) (by have := ((by decide : (0 : Int32).toInt = 0) : ((0 : Int32)).toInt = 0); show 0 ≤ ((0 : Int32)).toInt ∧ ((0 : Int32)).toInt ≤ 1000; omega) (show FI60 121 69 = (0 : Int32) from (up_k u61 (by decide) ((up_k u53 (by decide) (up_eq u45))))) (show FI60 121 73 = (0 : Int32) from up_eq u61) (by have := ((by decide : (0 : Int32).toInt = 0) : ((0 : Int32)).toInt = 0); show 0 ≤ ((0 : Int32)).toInt ∧ ((0 : Int32)).toInt ≤ 30000; omega) (show FI60 149 0 = x749 from h750) (gf_tr ex_rf gf_rf f18 rfl rfl rfl) (show rl_t (FI60 152) (FL15 153) from rl63) (show rl_e (FI60 149) (FI60 121 67) from rl65) (show rl_t (FI60 149) (FL15 150) from rl62) (show rl_v (FI60 121 74) (FI60 152) (FL15 153) (FI60 156) (FI60 157) from rl64) (show rl_w (FI60 121 67) (FI60 149) (FL15 150) (FI60 151) from rl66) (show (FI60 121 69).toInt = 0 → rl_mv (FI60 121 78) (FI60 121 67) (FI60 149) (FL15 150) (FI60 159) (FI60 160) from (fun _ => rl_mv_0 (by have := congrArg Int32.toInt (show FI60 121 78 = (0 : Int32) from (up_k u61 (by decide) (up_eq u53))); have := ((by decide : (0 : Int32).toInt = 0) : ((0 : Int32)).toInt = 0); omega))) (show (FI60 121 69).toInt = 0 → rl_mb (FI60 121 78) (FI60 161) (FI60 121 73).toInt from (fun _ => rl_mb_0 (by have := congrArg Int32.toInt (show FI60 121 78 = (0 : Int32) from (up_k u61 (by decide) (up_eq u53))); have := ((by decide : (0 : Int32).toInt = 0) : ((0 : Int32)).toInt = 0); omega))) (show (FI60 121 69).toInt = 0 → (FI60 121 73).toInt ≤ 4 * wp (FI60 151) (FI60 121 68) from (fun _ => (by have := wp_r rl66 (t := FI60 121 68) (by have := congrArg Int32.toInt (show FI60 121 67 = x25 from (up_k u61 (by decide) ((up_k u53 (by decide) ((up_k u45 (by decide) ((up_k u37 (by decide) ((up_k u29 (by decide) (h26))))))))))); have := congrArg Int32.toInt (show FI60 121 68 = (0 : Int32) from (up_k u61 (by decide) ((up_k u53 (by decide) ((up_k u45 (by decide) (up_eq u37))))))); have := ((by decide : (0 : Int32).toInt = 0) : ((0 : Int32)).toInt = 0); omega) (by have := congrArg Int32.toInt (show FI60 121 67 = x25 from (up_k u61 (by decide) ((up_k u53 (by decide) ((up_k u45 (by decide) ((up_k u37 (by decide) ((up_k u29 (by decide) (h26))))))))))); have := congrArg Int32.toInt (show FI60 121 68 = (0 : Int32) from (up_k u61 (by decide) ((up_k u53 (by decide) ((up_k u45 (by decide) (up_eq u37))))))); have := ((by decide : (0 : Int32).toInt = 0) : ((0 : Int32)).toInt = 0); omega); have := congrArg Int32.toInt (show FI60 121 73 = (0 : Int32) from up_eq u61); have := ((by decide : (0 : Int32).toInt = 0) : ((0 : Int32)).toInt = 0); omega))) (by have := ((by decide : (0 : Int32).toInt = 0) : ((0 : Int32)).toInt = 0); show 0 ≤ (x25).toInt - 1; omega)) ⟨rfl, trivial⟩
    · have hn67 := congrArg Int32.toInt (show FI60 121 67 = x25 from (up_k u61 (by decide) ((up_k u53 (by decide) ((up_k u45 (by decide) ((up_k u37 (by decide) ((up_k u29 (by decide) (h26)))))))))))
      have hne53 := rl_e_ne rl65 (t := (0 : Int32)) (by rw [show ((0 : Int32)).toNatClampNeg = 0 from by decide]; have := congrArg Int32.toInt (show FI60 149 0 = x749 from h750); omega)
      have lp769 : ∀ (m : Nat) (FIv752 : Nat → Nat → Int32) (FLv753 : Nat → Nat → Int64), (g_fr n SH [(121, 0), (121, 13), (121, 31), (121, 32), (121, 53), (121, 54), (121, 55), (121, 56), (121, 57), (121, 67), (121, 68), (121, 69), (121, 70), (121, 71), (121, 73), (121, 74), (121, 78), (121, 90), (121, 91)] [124, 125, 149, 151, 152, 154, 156, 157, 159, 160, 161, 162, 163, 164, 165, 166, 167, 168] [] FI FIv752) → (g_fr n SH [] [150, 153, 155, 158] [] FL FLv753) → (g_I FIv752) → (FIv752 121 0 = (0 : Int32)) → (FIv752 121 67 = x25) → (FIv752 121 13 = (0 : Int32)) → (FIv752 149 0 = x749) → (rl_t (FIv752 149) (FLv753 150)) → (rl_t (FIv752 152) (FLv753 153)) → (rl_v (FIv752 121 74) (FIv752 152) (FLv753 153) (FIv752 156) (FIv752 157)) → (rl_e (FIv752 149) (FIv752 121 67)) → (rl_w (FIv752 121 67) (FIv752 149) (FLv753 150) (FIv752 151)) → ((FIv752 121 69).toInt = 0) → ((FIv752 121 68).toInt < (x25).toInt - 1) → ((FIv752 121 73).toInt ≤ 20 * (FIv752 121 68).toInt) → (rl_mv (FIv752 121 78) (FIv752 121 67) (FIv752 149) (FLv753 150) (FIv752 159) (FIv752 160)) → (rl_mb (FIv752 121 78) (FIv752 161) (FIv752 121 73).toInt) → ((FIv752 121 73).toInt ≤ 4 * wp (FIv752 151) (FIv752 121 68)) → 1001 - (FIv752 121 68).toInt < m → hw zk base (d + 11) none 225 53 [(0, .ref (base + 121))] [] (n, sl, SH, FIv752, FLv753, FR) (h_I (fun r s => ∃ FI' FL', s = (n, sl, SH, FI', FL', FR) ∧ g_I FI' ∧ g_fr n SH [(121, 0), (121, 13), (121, 31), (121, 32), (121, 53), (121, 54), (121, 55), (121, 56), (121, 57), (121, 67), (121, 68), (121, 69), (121, 70), (121, 71), (121, 73), (121, 74), (121, 78), (121, 90), (121, 91)] [124, 125, 149, 151, 152, 154, 156, 157, 159, 160, 161, 162, 163, 164, 165, 166, 167, 168] [] FI FI' ∧ g_fr n SH [] [150, 153, 155, 158] [] FL FL' ∧ ((FI' 121 13).toInt = 0) ∧ (rl_t (FI' 149) (FL' 150)) ∧ (rl_t (FI' 152) (FL' 153)) ∧ (rl_v (FI' 121 74) (FI' 152) (FL' 153) (FI' 156) (FI' 157)))) := by
        intro m
        induction m with
        | zero => intro FIv752 FLv753 fr754 fr755 hI756 kp757 kp758 kp759 kp760 rl761 rl762 rl763 rl764 rl765 iv766 iv767 iv768 xi53_0 xi53_1 xi53_2 hm; omega
        | succ m ih =>
          intro FIv752 FLv753 fr754 fr755 hI756 kp757 kp758 kp759 kp760 rl761 rl762 rl763 rl764 rl765 iv766 iv767 iv768 xi53_0 xi53_1 xi53_2 hm
          have := congrArg Int32.toInt kp757
          have := congrArg Int32.toInt kp758
          have := congrArg Int32.toInt kp759
          have := congrArg Int32.toInt kp760
          obtain ⟨x770, h771⟩ : ∃ y, FIv752 121 69 = y := ⟨_, rfl⟩
          have h771l := congrArg Int32.toInt h771
          have := i_rng x770
          obtain ⟨x772, h773⟩ : ∃ y, FIv752 121 68 = y := ⟨_, rfl⟩
          have h773l := congrArg Int32.toInt h773
          have b774 := gI_121_68 hI756; rw [h773] at b774
          obtain ⟨x775, h776⟩ : ∃ y, FIv752 121 73 = y := ⟨_, rfl⟩
          have h776l := congrArg Int32.toInt h776
          have b777 := gI_121_73 hI756; rw [h776] at b777
          have hn67 := congrArg Int32.toInt (show FIv752 121 67 = x25 from kp758)
          have hne53 := rl_e_ne rl764 (t := (0 : Int32)) (by rw [show ((0 : Int32)).toNatClampNeg = 0 from by decide]; have := congrArg Int32.toInt (show FIv752 149 0 = x749 from kp760); omega)
          refine hw_aloadn (aX12_compile 29 rfl) rfl ?_
          refine hw_callV (Bs := []) (rest := []) (aX12_compile 30 rfl) wc_RX12_518 (by decide) rfl wi_yX12_declared wv_yX12_declared (c121 hS) (s121 hS) rfl rfl rfl (Nat.le_of_ble_eq_true rfl) (Nat.le_of_ble_eq_true rfl) (n_declared (d := d) hS hF hI756 (by have := congrArg Int32.toInt (show FIv752 121 68 = x772 from h773); have := congrArg Int32.toInt (show FIv752 121 67 = x25 from kp758); omega) (by have := congrArg Int32.toInt (show FIv752 121 69 = x770 from h771); omega) (by have := congrArg Int32.toInt (show FIv752 121 73 = x775 from h776); have := congrArg Int32.toInt (show FIv752 121 68 = x772 from h773); omega) (xi53_0) (xi53_1) (show rl_e (FIv752 149) (FIv752 121 67) from rl764) (show rl_t (FIv752 149) (FLv753 150) from rl761) (show rl_w (FIv752 121 67) (FIv752 149) (FLv753 150) (FIv752 151) from rl765)) (fun v778 sv779 p780 => ?_)
          have := congrArg Int32.toInt (show FIv752 121 68 = x772 from h773)
          obtain ⟨rfl, FI782, FL783, rfl, hI784, f785, f786, t787, t788, t789, u790, u791, u792⟩ := p780
          have rl793 : rl_t (FI782 149) (FL783 150) := by rw [show FI782 149 = FIv752 149 from gf_row f785 (c149 hS) (s149 hS) rfl rfl, show FL783 150 = FLv753 150 from gf_row f786 (c150 hS) (s150 hS) rfl rfl]; exact rl761
          have rl794 : rl_t (FI782 152) (FL783 153) := by rw [show FI782 152 = FIv752 152 from gf_row f785 (c152 hS) (s152 hS) rfl rfl, show FL783 153 = FLv753 153 from gf_row f786 (c153 hS) (s153 hS) rfl rfl]; exact rl762
          have rl795 : rl_v (FI782 121 74) (FI782 152) (FL783 153) (FI782 156) (FI782 157) := by rw [show FI782 152 = FIv752 152 from gf_row f785 (c152 hS) (s152 hS) rfl rfl, show FL783 153 = FLv753 153 from gf_row f786 (c153 hS) (s153 hS) rfl rfl, show FI782 156 = FIv752 156 from gf_row f785 (c156 hS) (s156 hS) rfl rfl, show FI782 157 = FIv752 157 from gf_row f785 (c157 hS) (s157 hS) rfl rfl, show FI782 121 74 = FIv752 121 74 from gf_at f785 (c121 hS) (s121 hS) rfl rfl]; exact rl763
          have rl796 : rl_e (FI782 149) (FI782 121 67) := by rw [show FI782 149 = FIv752 149 from gf_row f785 (c149 hS) (s149 hS) rfl rfl, show FI782 121 67 = FIv752 121 67 from gf_at f785 (c121 hS) (s121 hS) rfl rfl]; exact rl764
          have rl797 : rl_w (FI782 121 67) (FI782 149) (FL783 150) (FI782 151) := by rw [show FI782 149 = FIv752 149 from gf_row f785 (c149 hS) (s149 hS) rfl rfl, show FL783 150 = FLv753 150 from gf_row f786 (c150 hS) (s150 hS) rfl rfl, show FI782 151 = FIv752 151 from gf_row f785 (c151 hS) (s151 hS) rfl rfl, show FI782 121 67 = FIv752 121 67 from gf_at f785 (c121 hS) (s121 hS) rfl rfl]; exact rl765
          obtain ⟨x798, h799⟩ : ∃ y, FI782 121 68 = y := ⟨_, rfl⟩
          have h799l := congrArg Int32.toInt h799
          have b800 := gI_121_68 hI784; rw [h799] at b800
          have := congrArg Int32.toInt (show FI782 121 67 = x25 from (gf_at f785 (c121 hS) (s121 hS) rfl (kp758)))
          obtain ⟨x801, h802⟩ : ∃ y, FI782 121 69 = y := ⟨_, rfl⟩
          have h802l := congrArg Int32.toInt h802
          have := i_rng x801
          obtain ⟨x803, h804⟩ : ∃ y, FI782 121 73 = y := ⟨_, rfl⟩
          have h804l := congrArg Int32.toInt h804
          have b805 := gI_121_73 hI784; rw [h804] at b805
          show hw zk base _ _ _ _ _ [] _ _
          refine xw_goto (tgt := 34) (aX12_compile 31 rfl) (by decide) ?_
          refine hw_aloadn (aX12_compile 20 rfl) rfl ?_
          refine hw_get (v := .int (x801)) (aX12_compile 21 rfl) wf_RX12_475 (c121 hS) (s121 hS) (by decide) (congrArg Value.int (show FI782 121 69 = x801 from h802)) ?_
          refine hw_ifne (tgt := 60) (aX12_compile 22 rfl) (by decide) rfl (fun cd806 => ?_) (fun cd806 => ?_)
          · exact hw_L (j448 (x798) (x801) (x803) (x749) FI782 FL783 (gf_tr ex_rf fr754 f785 rfl rfl rfl) hI784 (show FI782 121 0 = (0 : Int32) from (gf_at f785 (c121 hS) (s121 hS) rfl (kp757))) (show FI782 121 13 = (0 : Int32) from (gf_at f785 (c121 hS) (s121 hS) rfl (kp759))) (show FI782 121 67 = x25 from (gf_at f785 (c121 hS) (s121 hS) rfl (kp758))) (show FI782 121 68 = x798 from h799) (by show 0 ≤ (x798).toInt ∧ (x798).toInt ≤ 1000; omega) (show FI782 121 69 = x801 from h802) (show FI782 121 73 = x803 from h804) (by show 0 ≤ (x803).toInt ∧ (x803).toInt ≤ 30000; omega) (show FI782 149 0 = x749 from (gf_at f785 (c149 hS) (s149 hS) rfl (kp760))) (gf_tr ex_rf fr755 f786 rfl rfl rfl) (show rl_t (FI782 152) (FL783 153) from rl794) (show rl_e (FI782 149) (FI782 121 67) from rl796) (show rl_t (FI782 149) (FL783 150) from rl793) (show rl_v (FI782 121 74) (FI782 152) (FL783 153) (FI782 156) (FI782 157) from rl795) (show rl_w (FI782 121 67) (FI782 149) (FL783 150) (FI782 151) from rl797) (show (FI782 121 69).toInt = 0 → rl_mv (FI782 121 78) (FI782 121 67) (FI782 149) (FL783 150) (FI782 159) (FI782 160) from u790) (show (FI782 121 69).toInt = 0 → rl_mb (FI782 121 78) (FI782 161) (FI782 121 73).toInt from u791) (show (FI782 121 69).toInt = 0 → (FI782 121 73).toInt ≤ 4 * wp (FI782 151) (FI782 121 68) from (fun h => by have h1 := u792 h; have h2 := xi53_2; rw [show FI782 151 = FIv752 151 from (gf_row f785 (c151 hS) (s151 hS) rfl (rfl))]; omega)) (by show (x798).toInt ≤ (x25).toInt - 1; omega)) ⟨rfl, trivial⟩
          · refine hw_aloadn (aX12_compile 23 rfl) rfl ?_
            refine hw_get (v := .ref (base + 149)) (aX12_compile 24 rfl) wf_RX12_105 (c121 hS) (s121 hS) (by decide) (congrArg (fun r => va_rf (h_rf base r)) (r121_62 hF)) ?_
            refine hw_aloadn (aX12_compile 25 rfl) rfl ?_
            refine hw_get (v := .int (x798)) (aX12_compile 26 rfl) wf_RX12_478 (c121 hS) (s121 hS) (by decide) (congrArg Value.int (show FI782 121 68 = x798 from h799)) ?_
            obtain ⟨x807, h808⟩ : ∃ y, FI782 149 (x798).toNatClampNeg = y := ⟨_, rfl⟩
            have h808l := congrArg Int32.toInt h808
            have := i_rng x807
            refine hw_iald (v := x807) (aX12_compile 27 rfl) (c149 hS) (s149 hS) (h_in rfl (by omega) (by omega)) (show FI782 149 (x798).toNatClampNeg = x807 from h808) ?_
            refine hw_ifeq (tgt := 60) (aX12_compile 28 rfl) (by decide) rfl (fun cd809 => ?_) (fun cd809 => ?_)
            · exact hw_L (j448 (x798) (x801) (x803) (x749) FI782 FL783 (gf_tr ex_rf fr754 f785 rfl rfl rfl) hI784 (show FI782 121 0 = (0 : Int32) from (gf_at f785 (c121 hS) (s121 hS) rfl (kp757))) (show FI782 121 13 = (0 : Int32) from (gf_at f785 (c121 hS) (s121 hS) rfl (kp759))) (show FI782 121 67 = x25 from (gf_at f785 (c121 hS) (s121 hS) rfl (kp758))) (show FI782 121 68 = x798 from h799) (by show 0 ≤ (x798).toInt ∧ (x798).toInt ≤ 1000; omega) (show FI782 121 69 = x801 from h802) (show FI782 121 73 = x803 from h804) (by show 0 ≤ (x803).toInt ∧ (x803).toInt ≤ 30000; omega) (show FI782 149 0 = x749 from (gf_at f785 (c149 hS) (s149 hS) rfl (kp760))) (gf_tr ex_rf fr755 f786 rfl rfl rfl) (show rl_t (FI782 152) (FL783 153) from rl794) (show rl_e (FI782 149) (FI782 121 67) from rl796) (show rl_t (FI782 149) (FL783 150) from rl793) (show rl_v (FI782 121 74) (FI782 152) (FL783 153) (FI782 156) (FI782 157) from rl795) (show rl_w (FI782 121 67) (FI782 149) (FL783 150) (FI782 151) from rl797) (show (FI782 121 69).toInt = 0 → rl_mv (FI782 121 78) (FI782 121 67) (FI782 149) (FL783 150) (FI782 159) (FI782 160) from u790) (show (FI782 121 69).toInt = 0 → rl_mb (FI782 121 78) (FI782 161) (FI782 121 73).toInt from u791) (show (FI782 121 69).toInt = 0 → (FI782 121 73).toInt ≤ 4 * wp (FI782 151) (FI782 121 68) from (fun h => by have h1 := u792 h; have h2 := xi53_2; rw [show FI782 151 = FIv752 151 from (gf_row f785 (c151 hS) (s151 hS) rfl (rfl))]; omega)) (by show (x798).toInt ≤ (x25).toInt - 1; omega)) ⟨rfl, trivial⟩
            · have hn67 := congrArg Int32.toInt (show FI782 121 67 = x25 from (gf_at f785 (c121 hS) (s121 hS) rfl (kp758)))
              have hne53 := rl_e_ne rl796 (t := x798) (by omega)
              exact hw_L (ih FI782 FL783 (gf_tr ex_rf fr754 f785 rfl rfl rfl) (gf_tr ex_rf fr755 f786 rfl rfl rfl) hI784 (show FI782 121 0 = (0 : Int32) from (gf_at f785 (c121 hS) (s121 hS) rfl (kp757))) (show FI782 121 67 = x25 from (gf_at f785 (c121 hS) (s121 hS) rfl (kp758))) (show FI782 121 13 = (0 : Int32) from (gf_at f785 (c121 hS) (s121 hS) rfl (kp759))) (show FI782 149 0 = x749 from (gf_at f785 (c149 hS) (s149 hS) rfl (kp760))) (show rl_t (FI782 149) (FL783 150) from rl793) (show rl_t (FI782 152) (FL783 153) from rl794) (show rl_v (FI782 121 74) (FI782 152) (FL783 153) (FI782 156) (FI782 157) from rl795) (show rl_e (FI782 149) (FI782 121 67) from rl796) (show rl_w (FI782 121 67) (FI782 149) (FL783 150) (FI782 151) from rl797) (by have := congrArg Int32.toInt (show FI782 121 69 = x801 from h802); omega) (by have := congrArg Int32.toInt (show FI782 121 67 = x25 from (gf_at f785 (c121 hS) (s121 hS) rfl (kp758))); have := congrArg Int32.toInt (show FI782 121 68 = x798 from h799); omega) (by have := congrArg Int32.toInt (show FI782 121 68 = x798 from h799); have := congrArg Int32.toInt (show FI782 121 73 = x803 from h804); omega) (show rl_mv (FI782 121 78) (FI782 121 67) (FI782 149) (FL783 150) (FI782 159) (FI782 160) from (by exact (u790 (by have := congrArg Int32.toInt (show FI782 121 69 = x801 from h802); omega)))) (show rl_mb (FI782 121 78) (FI782 161) (FI782 121 73).toInt from (by exact (u791 (by have := congrArg Int32.toInt (show FI782 121 69 = x801 from h802); omega)))) (show (FI782 121 73).toInt ≤ 4 * wp (FI782 151) (FI782 121 68) from (by have := congrArg Int32.toInt (show FI782 121 73 = x803 from h804); exact (by have h1 := u792 (by have := congrArg Int32.toInt (show FI782 121 69 = x801 from h802); omega); have h2 := xi53_2; rw [show FI782 151 = FIv752 151 from (gf_row f785 (c151 hS) (s151 hS) rfl (rfl))]; omega))) (by have := congrArg Int32.toInt (show FI782 121 68 = x798 from h799); omega)) ⟨rfl, trivial⟩
      exact hw_L (lp769 ((1001 - 0 : Int).toNat + 1) FI60 FL15 (gf_f (gf_f (gf_f (gf_f (gf_f (gf_tr ex_rf (gf_f gf_rf u5 (by decide)) f17 rfl rfl rfl) u29 (by decide)) u37 (by decide)) u45 (by decide)) u53 (by decide)) u61 (by decide)) (gf_tr ex_rf gf_rf f18 rfl rfl rfl) hI67 (show FI60 121 0 = (0 : Int32) from (up_k u61 (by decide) ((up_k u53 (by decide) ((up_k u45 (by decide) ((up_k u37 (by decide) ((up_k u29 (by decide) ((gf_at f17 (c121 hS) (s121 hS) rfl (up_eq u5))))))))))))) (show FI60 121 67 = x25 from (up_k u61 (by decide) ((up_k u53 (by decide) ((up_k u45 (by decide) ((up_k u37 (by decide) ((up_k u29 (by decide) (h26))))))))))) (show FI60 121 13 = (0 : Int32) from (up_k u61 (by decide) ((up_k u53 (by decide) ((up_k u45 (by decide) ((up_k u37 (by decide) (up_eq u29))))))))) (show FI60 149 0 = x749 from h750) (show rl_t (FI60 149) (FL15 150) from rl62) (show rl_t (FI60 152) (FL15 153) from rl63) (show rl_v (FI60 121 74) (FI60 152) (FL15 153) (FI60 156) (FI60 157) from rl64) (show rl_e (FI60 149) (FI60 121 67) from rl65) (show rl_w (FI60 121 67) (FI60 149) (FL15 150) (FI60 151) from rl66) (by have := congrArg Int32.toInt (show FI60 121 69 = (0 : Int32) from (up_k u61 (by decide) ((up_k u53 (by decide) (up_eq u45))))); have := ((by decide : (0 : Int32).toInt = 0) : ((0 : Int32)).toInt = 0); omega) (by have := congrArg Int32.toInt (show FI60 121 67 = x25 from (up_k u61 (by decide) ((up_k u53 (by decide) ((up_k u45 (by decide) ((up_k u37 (by decide) ((up_k u29 (by decide) (h26))))))))))); have := congrArg Int32.toInt (show FI60 121 68 = (0 : Int32) from (up_k u61 (by decide) ((up_k u53 (by decide) ((up_k u45 (by decide) (up_eq u37))))))); have := ((by decide : (0 : Int32).toInt = 0) : ((0 : Int32)).toInt = 0); omega) (by have := congrArg Int32.toInt (show FI60 121 68 = (0 : Int32) from (up_k u61 (by decide) ((up_k u53 (by decide) ((up_k u45 (by decide) (up_eq u37))))))); have := ((by decide : (0 : Int32).toInt = 0) : ((0 : Int32)).toInt = 0); have := congrArg Int32.toInt (show FI60 121 73 = (0 : Int32) from up_eq u61); have := ((by decide : (0 : Int32).toInt = 0) : ((0 : Int32)).toInt = 0); omega) (show rl_mv (FI60 121 78) (FI60 121 67) (FI60 149) (FL15 150) (FI60 159) (FI60 160) from (by exact rl_mv_0 (by have := congrArg Int32.toInt (show FI60 121 78 = (0 : Int32) from (up_k u61 (by decide) (up_eq u53))); have := ((by decide : (0 : Int32).toInt = 0) : ((0 : Int32)).toInt = 0); omega))) (show rl_mb (FI60 121 78) (FI60 161) (FI60 121 73).toInt from (by exact rl_mb_0 (by have := congrArg Int32.toInt (show FI60 121 78 = (0 : Int32) from (up_k u61 (by decide) (up_eq u53))); have := ((by decide : (0 : Int32).toInt = 0) : ((0 : Int32)).toInt = 0); omega))) (show (FI60 121 73).toInt ≤ 4 * wp (FI60 151) (FI60 121 68) from (by have := congrArg Int32.toInt (show FI60 121 73 = (0 : Int32) from up_eq u61); have := ((by decide : (0 : Int32).toInt = 0) : ((0 : Int32)).toInt = 0); exact (by have := wp_r rl66 (t := FI60 121 68) (by have := congrArg Int32.toInt (show FI60 121 67 = x25 from (up_k u61 (by decide) ((up_k u53 (by decide) ((up_k u45 (by decide) ((up_k u37 (by decide) ((up_k u29 (by decide) (h26))))))))))); have := congrArg Int32.toInt (show FI60 121 68 = (0 : Int32) from (up_k u61 (by decide) ((up_k u53 (by decide) ((up_k u45 (by decide) (up_eq u37))))))); have := ((by decide : (0 : Int32).toInt = 0) : ((0 : Int32)).toInt = 0); omega) (by have := congrArg Int32.toInt (show FI60 121 67 = x25 from (up_k u61 (by decide) ((up_k u53 (by decide) ((up_k u45 (by decide) ((up_k u37 (by decide) ((up_k u29 (by decide) (h26))))))))))); have := congrArg Int32.toInt (show FI60 121 68 = (0 : Int32) from (up_k u61 (by decide) ((up_k u53 (by decide) ((up_k u45 (by decide) (up_eq u37))))))); have := ((by decide : (0 : Int32).toInt = 0) : ((0 : Int32)).toInt = 0); omega); have := congrArg Int32.toInt (show FI60 121 73 = (0 : Int32) from up_eq u61); have := ((by decide : (0 : Int32).toInt = 0) : ((0 : Int32)).toInt = 0); omega))) (by have := congrArg Int32.toInt (show FI60 121 68 = (0 : Int32) from (up_k u61 (by decide) ((up_k u53 (by decide) ((up_k u45 (by decide) (up_eq u37))))))); have := ((by decide : (0 : Int32).toInt = 0) : ((0 : Int32)).toInt = 0); omega)) ⟨rfl, trivial⟩
end
section
set_option maxHeartbeats 4000000 in
set_option maxRecDepth 100000 in
theorem n_store2 {sk : xK} {base d n sl : Nat} {SH : Nat → Nat × Nat} {FI : Nat → Nat → Int32} {FL : Nat → Nat → Int64} {FR : Nat → Nat → Option Nat} (hS : h_S n SH) (hF : h_FR FR) (hI : g_I FI) (a1 : Int32) (rel_part : rl_p (FI 143) (FL 144)) : hw sk base (d + 1) none 204 0 [(0, .ref (base + 121)), (1, .int (a1))] [] (n, sl, SH, FI, FL, FR) (h_I (fun r s => ∃ FI' FL', s = (n, sl, SH, FI', FL', FR) ∧ g_I FI' ∧ g_fr n SH [(121, 0), (121, 13), (121, 58), (121, 59)] [123] [] FI FI' ∧ g_fr n SH [] [122] [] FL FL' ∧ (((FI' 121 13).toInt = (FI 121 13).toInt ∧ ((a1).toInt < 1 ∨ 512 < (a1).toInt ∨ 8 * (FI 121 13).toInt < (a1).toInt)) ∨ ((FI' 121 13).toInt = 0 ∧ 1 ≤ (a1).toInt ∧ (a1).toInt ≤ 512 ∧ (a1).toInt ≤ 8 * (FI 121 13).toInt)))) := by
  have rg_a1 := i_rng a1
  obtain ⟨x1, h2⟩ : ∃ y, FI 121 13 = y := ⟨_, rfl⟩
  have h2l := congrArg Int32.toInt h2
  have b3 := gI_121_13 hI; rw [h2] at b3
  refine hw_aloadn (aX12_store 0 rfl) rfl ?_
  refine hw_ic (v := (0 : Int32)) (aX12_store 1 rfl) (by decide) ?_
  refine hv_puti (aX12_store 2 rfl) wf_RX12_187 (c121 hS) (s121 hS) (by decide) rfl rfl (fun FI4 u5 => ?_)
  have rl6 : rl_p (FI4 143) (FL 144) := by rw [show FI4 143 = FI 143 from up_row u5 (by decide) rfl]; exact rel_part
  have hI7 : g_I FI4 := gU_F hI u5 rfl
  refine xw_iloadn (aX12_store 3 rfl) rfl ?_
  refine hw_ic (v := (1 : Int32)) (aX12_store 4 rfl) (by decide) ?_
  refine hw_iclt (tgt := 31) (aX12_store 5 rfl) (by decide) rfl (by decide : (1 : Int32).toInt = 1) (fun cd8 => ?_) (fun cd8 => ?_)
  · refine hw_ic (v := ((-1) : Int32)) (aX12_store 17 rfl) (by decide) ?_
    refine xw_iret (aX12_store 18 rfl) rfl rfl ?_
    have e9 : (((-1) : Int32)).toInt = (-1) := (by decide : ((-1) : Int32).toInt = (-1))
    exact ⟨((-1) : Int32), rfl, FI4, FL, rfl, hI7, (gf_f gf_rf u5 (by decide)), gf_rf, (by have : (((-1) : Int32)).toInt = (-1) := (by decide); have := congrArg Int32.toInt (show FI4 121 13 = x1 from (up_k u5 (by decide) (h2))); omega)⟩
  · refine xw_iloadn (aX12_store 6 rfl) rfl ?_
    refine hw_sp (v := (512 : Int32)) (aX12_store 7 rfl) (by decide) ?_
    refine hw_icgt (tgt := 31) (aX12_store 8 rfl) (by decide) rfl (by decide : (512 : Int32).toInt = 512) (fun cd10 => ?_) (fun cd10 => ?_)
    · refine hw_ic (v := ((-1) : Int32)) (aX12_store 17 rfl) (by decide) ?_
      refine xw_iret (aX12_store 18 rfl) rfl rfl ?_
      have e11 : (((-1) : Int32)).toInt = (-1) := (by decide : ((-1) : Int32).toInt = (-1))
      exact ⟨((-1) : Int32), rfl, FI4, FL, rfl, hI7, (gf_f gf_rf u5 (by decide)), gf_rf, (by have : (((-1) : Int32)).toInt = (-1) := (by decide); have := congrArg Int32.toInt (show FI4 121 13 = x1 from (up_k u5 (by decide) (h2))); omega)⟩
    · refine hw_aloadn (aX12_store 9 rfl) rfl ?_
      refine hw_get (v := .int (x1)) (aX12_store 10 rfl) wf_RX12_190 (c121 hS) (s121 hS) (by decide) (congrArg Value.int (show FI4 121 13 = x1 from (up_k u5 (by decide) (h2)))) ?_
      refine xw_iloadn (aX12_store 11 rfl) rfl ?_
      refine hw_bp (v := (7 : Int32)) (aX12_store 12 rfl) (by decide) ?_
      refine xw_iadd (aX12_store 13 rfl) ?_
      refine hw_tie (A := ((a1).toInt) + (7)) (i_add rfl (by decide : (7 : Int32).toInt = 7) (by omega) (by omega)) (fun x12 e13 => ?_)
      refine hw_bp (v := (8 : Int32)) (aX12_store 14 rfl) (by decide) ?_
      refine xw_idiv (aX12_store 15 rfl) (i_ne0 (by decide : (8 : Int32).toInt = 8) (by omega)) ?_
      refine hw_tie (A := (((a1).toInt) + (7)) / (8)) (i_div e13 (by decide : (8 : Int32).toInt = 8) (by omega) (by omega)) (fun x14 e15 => ?_)
      refine hw_icge (tgt := 33) (aX12_store 16 rfl) (by decide) rfl e15 (fun cd16 => ?_) (fun cd16 => ?_)
      · refine hw_aloadn (aX12_store 19 rfl) rfl ?_
        refine hw_ic (v := (0 : Int32)) (aX12_store 20 rfl) (by decide) ?_
        refine hv_puti (aX12_store 21 rfl) wf_RX12_402 (c121 hS) (s121 hS) (by decide) rfl rfl (fun FI17 u18 => ?_)
        have rl19 : rl_p (FI17 143) (FL 144) := by rw [show FI17 143 = FI4 143 from up_row u18 (by decide) rfl]; exact rl6
        have hI20 : g_I FI17 := gU_F hI7 u18 rfl
        refine hw_aloadn (aX12_store 22 rfl) rfl ?_
        refine hw_ic (v := (0 : Int32)) (aX12_store 23 rfl) (by decide) ?_
        refine hv_puti (aX12_store 24 rfl) wf_RX12_405 (c121 hS) (s121 hS) (by decide) rfl rfl (fun FI21 u22 => ?_)
        have rl23 : rl_p (FI21 143) (FL 144) := by rw [show FI21 143 = FI17 143 from up_row u22 (by decide) rfl]; exact rl19
        have hI24 : g_I FI21 := gU_F hI20 u22 rfl
        refine hw_ic (v := (0 : Int32)) (aX12_store 25 rfl) (by decide) ?_
        refine xw_istoren (L2 := [(2, .int ((0 : Int32))), (0, .ref (base + 121)), (1, .int (a1))]) (aX12_store 26 rfl) (by decide) rfl ?_
        refine hw_ic (v := (0 : Int32)) (aX12_store 27 rfl) (by decide) ?_
        refine xw_istoren (L2 := [(3, .int ((0 : Int32))), (2, .int ((0 : Int32))), (0, .ref (base + 121)), (1, .int (a1))]) (aX12_store 28 rfl) (by decide) rfl ?_
        have lp38 : ∀ (m : Nat) (y3 : Int32) (y2 : Int32) (FIv25 : Nat → Nat → Int32) (FLv26 : Nat → Nat → Int64), (g_fr n SH [(121, 0), (121, 13), (121, 58), (121, 59)] [123] [] FI FIv25) → (g_fr n SH [] [122] [] FL FLv26) → (g_I FIv25) → (FIv25 121 13 = x1) → (FIv25 121 0 = (0 : Int32)) → (rl_p (FIv25 143) (FLv26 144)) → (0 ≤ (y3).toInt ∧ (y3).toInt ≤ 512) → (0 ≤ (FIv25 121 58).toInt ∧ (FIv25 121 58).toInt ≤ 16) → (0 ≤ (FIv25 121 59).toInt ∧ (FIv25 121 59).toInt ≤ 512) → ((y3).toInt ≤ (a1).toInt) → ((FIv25 121 59).toInt ≤ (y3).toInt) → (a1).toInt - (y3).toInt < m → hw sk base (d + 1) none 204 47 [(3, .int (y3)), (2, .int (y2)), (0, .ref (base + 121)), (1, .int (a1))] [] (n, sl, SH, FIv25, FLv26, FR) (h_I (fun r s => ∃ FI' FL', s = (n, sl, SH, FI', FL', FR) ∧ g_I FI' ∧ g_fr n SH [(121, 0), (121, 13), (121, 58), (121, 59)] [123] [] FI FI' ∧ g_fr n SH [] [122] [] FL FL' ∧ (((FI' 121 13).toInt = (FI 121 13).toInt ∧ ((a1).toInt < 1 ∨ 512 < (a1).toInt ∨ 8 * (FI 121 13).toInt < (a1).toInt)) ∨ ((FI' 121 13).toInt = 0 ∧ 1 ≤ (a1).toInt ∧ (a1).toInt ≤ 512 ∧ (a1).toInt ≤ 8 * (FI 121 13).toInt)))) := by
          intro m
          induction m with
          | zero => intro y3 y2 FIv25 FLv26 fr27 fr28 hI29 kp30 kp31 rl32 iv33 iv34 iv35 iv36 iv37 hm; omega
          | succ m ih =>
            intro y3 y2 FIv25 FLv26 fr27 fr28 hI29 kp30 kp31 rl32 iv33 iv34 iv35 iv36 iv37 hm
            have rg_y3 := i_rng y3
            have rg_y2 := i_rng y2
            have := congrArg Int32.toInt kp30
            have := congrArg Int32.toInt kp31
            obtain ⟨x39, h40⟩ : ∃ y, FIv25 121 58 = y := ⟨_, rfl⟩
            have h40l := congrArg Int32.toInt h40
            have := i_rng x39
            obtain ⟨x41, h42⟩ : ∃ y, FIv25 121 59 = y := ⟨_, rfl⟩
            have h42l := congrArg Int32.toInt h42
            have := i_rng x41
            refine xw_iloadn (aX12_store 29 rfl) rfl ?_
            refine xw_iloadn (aX12_store 30 rfl) rfl ?_
            refine hw_icge (tgt := 122) (aX12_store 31 rfl) (by decide) rfl rfl (fun cd43 => ?_) (fun cd43 => ?_)
            · refine hw_aloadn (aX12_store 74 rfl) rfl ?_
              refine hw_ic (v := (0 : Int32)) (aX12_store 75 rfl) (by decide) ?_
              refine hv_puti (aX12_store 76 rfl) wf_RX12_190 (c121 hS) (s121 hS) (by decide) rfl rfl (fun FI44 u45 => ?_)
              have rl46 : rl_p (FI44 143) (FLv26 144) := by rw [show FI44 143 = FIv25 143 from up_row u45 (by decide) rfl]; exact rl32
              have hI47 : g_I FI44 := gU_121_13 hI29 u45 (by have := ((by decide : (0 : Int32).toInt = 0) : ((0 : Int32)).toInt = 0); omega) (by have := ((by decide : (0 : Int32).toInt = 0) : ((0 : Int32)).toInt = 0); omega)
              refine xw_iloadn (aX12_store 77 rfl) rfl ?_
              refine xw_iret (aX12_store 78 rfl) rfl rfl ?_
              exact ⟨y2, rfl, FI44, FLv26, rfl, hI47, (gf_f fr27 u45 (by decide)), fr28, (by have := congrArg Int32.toInt (show FI44 121 13 = (0 : Int32) from up_eq u45); have := ((by decide : (0 : Int32).toInt = 0) : ((0 : Int32)).toInt = 0); omega)⟩
            · refine hw_aloadn (aX12_store 32 rfl) rfl ?_
              refine hw_callV (Bs := []) (rest := []) (aX12_store 33 rfl) wc_RX12_413 (by decide) rfl wi_yX12_goes wv_yX12_goes (c121 hS) (s121 hS) rfl rfl rfl (Nat.le_of_ble_eq_true rfl) (Nat.le_of_ble_eq_true rfl) (n_goes (d := d) hS hF hI29 (by have := congrArg Int32.toInt (show FIv25 121 58 = x39 from h40); have := congrArg Int32.toInt (show FIv25 121 58 = x39 from h40); omega) (by have := congrArg Int32.toInt (show FIv25 121 59 = x41 from h42); have := congrArg Int32.toInt (show FIv25 121 59 = x41 from h42); omega)) (fun v48 sv49 p50 => ?_)
              have := congrArg Int32.toInt (show FIv25 121 59 = x41 from h42)
              obtain ⟨r51, rfl, FI52, rfl, hI53, f54, t55, t56, t57, t58⟩ := p50
              have rl59 : rl_p (FI52 143) (FLv26 144) := by rw [show FI52 143 = FIv25 143 from gf_row f54 (c143 hS) (s143 hS) rfl rfl]; exact rl32
              obtain ⟨x60, h61⟩ : ∃ y, FI52 121 58 = y := ⟨_, rfl⟩
              have h61l := congrArg Int32.toInt h61
              have := i_rng x60
              obtain ⟨x62, h63⟩ : ∃ y, FI52 121 46 = y := ⟨_, rfl⟩
              have h63l := congrArg Int32.toInt h63
              have b64 := gI_121_46 hI53; rw [h63] at b64
              obtain ⟨x65, h66⟩ : ∃ y, FI52 121 59 = y := ⟨_, rfl⟩
              have h66l := congrArg Int32.toInt h66
              have := i_rng x65
              show hw sk base _ _ _ _ _ [.int (r51)] _ _
              refine hw_ifeq (tgt := 122) (aX12_store 34 rfl) (by decide) rfl (fun cd67 => ?_) (fun cd67 => ?_)
              · clear t55
                refine hw_aloadn (aX12_store 74 rfl) rfl ?_
                refine hw_ic (v := (0 : Int32)) (aX12_store 75 rfl) (by decide) ?_
                refine hv_puti (aX12_store 76 rfl) wf_RX12_190 (c121 hS) (s121 hS) (by decide) rfl rfl (fun FI68 u69 => ?_)
                have rl70 : rl_p (FI68 143) (FLv26 144) := by rw [show FI68 143 = FI52 143 from up_row u69 (by decide) rfl]; exact rl59
                have hI71 : g_I FI68 := gU_121_13 hI53 u69 (by have := ((by decide : (0 : Int32).toInt = 0) : ((0 : Int32)).toInt = 0); omega) (by have := ((by decide : (0 : Int32).toInt = 0) : ((0 : Int32)).toInt = 0); omega)
                refine xw_iloadn (aX12_store 77 rfl) rfl ?_
                refine xw_iret (aX12_store 78 rfl) rfl rfl ?_
                exact ⟨y2, rfl, FI68, FLv26, rfl, hI71, (gf_f (gf_tr ex_rf fr27 f54 rfl rfl rfl) u69 (by decide)), fr28, (by have := congrArg Int32.toInt (show FI68 121 13 = (0 : Int32) from up_eq u69); have := ((by decide : (0 : Int32).toInt = 0) : ((0 : Int32)).toInt = 0); omega)⟩
              · replace t55 := t55 (by omega)
                refine hw_aloadn (aX12_store 35 rfl) rfl ?_
                refine hw_aloadn (aX12_store 36 rfl) rfl ?_
                refine hw_get (v := .int (x60)) (aX12_store 37 rfl) wf_RX12_402 (c121 hS) (s121 hS) (by decide) (congrArg Value.int (show FI52 121 58 = x60 from h61)) ?_
                refine hw_aloadn (aX12_store 38 rfl) rfl ?_
                refine hw_get (v := .ref (base + 146)) (aX12_store 39 rfl) wf_RX12_93 (c121 hS) (s121 hS) (by decide) (congrArg (fun r => va_rf (h_rf base r)) (r121_51 hF)) ?_
                refine hw_aloadn (aX12_store 40 rfl) rfl ?_
                refine hw_get (v := .int (x60)) (aX12_store 41 rfl) wf_RX12_402 (c121 hS) (s121 hS) (by decide) (congrArg Value.int (show FI52 121 58 = x60 from h61)) ?_
                obtain ⟨x72, h73⟩ : ∃ y, FI52 146 (x60).toNatClampNeg = y := ⟨_, rfl⟩
                have h73l := congrArg Int32.toInt h73
                have := i_rng x72
                refine hw_iald (v := x72) (aX12_store 42 rfl) (c146 hS) (s146 hS) (h_in rfl (by omega) (by omega)) (show FI52 146 (x60).toNatClampNeg = x72 from h73) ?_
                have b74 := gI_146 hI53 (i_lt (x := x60) rfl (by omega) (by omega)); rw [h73] at b74
                refine xw_i2l (aX12_store 43 rfl) ?_
                refine hw_tle (A := (x72).toInt) (i_2l rfl) (fun x75 e76 => ?_)
                refine hw_aloadn (aX12_store 44 rfl) rfl ?_
                refine hw_get (v := .int (x65)) (aX12_store 45 rfl) wf_RX12_405 (c121 hS) (s121 hS) (by decide) (congrArg Value.int (show FI52 121 59 = x65 from h66)) ?_
                refine xw_i2l (aX12_store 46 rfl) ?_
                refine hw_tle (A := (x65).toInt) (i_2l rfl) (fun x77 e78 => ?_)
                refine xw_ladd (aX12_store 47 rfl) ?_
                refine hw_tle (A := ((x72).toInt) + ((x65).toInt)) (l_add e76 e78 (by omega) (by omega)) (fun x79 e80 => ?_)
                refine hw_aloadn (aX12_store 48 rfl) rfl ?_
                refine hw_get (v := .ref (base + 126)) (aX12_store 49 rfl) wf_RX12_30 (c121 hS) (s121 hS) (by decide) (congrArg (fun r => va_rf (h_rf base r)) (r121_12 hF)) ?_
                refine xw_iloadn (aX12_store 50 rfl) rfl ?_
                refine hw_bp (v := (8 : Int32)) (aX12_store 51 rfl) (by decide) ?_
                refine xw_idiv (aX12_store 52 rfl) (i_ne0 (by decide : (8 : Int32).toInt = 8) (by omega)) ?_
                refine hw_tie (A := ((y3).toInt) / (8)) (i_div rfl (by decide : (8 : Int32).toInt = 8) (by omega) (by omega)) (fun x81 e82 => ?_)
                obtain ⟨x83, h84⟩ : ∃ y, FI52 126 (x81).toNatClampNeg = y := ⟨_, rfl⟩
                have h84l := congrArg Int32.toInt h84
                have := i_rng x83
                refine hw_iald (v := x83) (aX12_store 53 rfl) (c126 hS) (s126 hS) (h_in e82 (by omega) (by omega)) (show FI52 126 (x81).toNatClampNeg = x83 from h84) ?_
                have b85 := gI_126 hI53 (i_lt (x := x81) e82 (by omega) (by omega)); rw [h84] at b85
                refine xw_iloadn (aX12_store 54 rfl) rfl ?_
                refine hw_bp (v := (8 : Int32)) (aX12_store 55 rfl) (by decide) ?_
                refine xw_irem (aX12_store 56 rfl) (i_ne0 (by decide : (8 : Int32).toInt = 8) (by omega)) ?_
                refine hw_tie (A := ((y3).toInt) % (8)) (i_rem rfl (by decide : (8 : Int32).toInt = 8) (by omega) (by omega)) (fun x86 e87 => ?_)
                refine xw_ishr (aX12_store 57 rfl) ?_
                refine hw_ti (fun x88 => ?_)
                have b89 := i_rng x88
                refine hw_ic (v := (1 : Int32)) (aX12_store 58 rfl) (by decide) ?_
                refine xw_iand (aX12_store 59 rfl) ?_
                refine hw_tib (lo := 0) (hi := 1) (i_and (x := x88) (m := (1 : Int32)) (M := 1) (by decide) (by decide)) (fun x90 b91 => ?_)
                refine hw_callV (Bs := [.int (x60), .long (x79), .int (x90)]) (rest := []) (aX12_store 60 rfl) wc_RX12_420 (by decide) rfl wi_yX12_puts_ wv_yX12_puts_ (c121 hS) (s121 hS) rfl rfl rfl (Nat.le_of_ble_eq_true rfl) (Nat.le_of_ble_eq_true rfl) (n_puts_ (d := d) hS hF hI53 (x60) (x79) (x90) (by omega) (by have := (e80 : (x79).toInt = ((x72).toInt) + ((x65).toInt)); have := (e80 : (x79).toInt = ((x72).toInt) + ((x65).toInt)); omega) (show rl_p (FI52 143) (FLv26 144) from rl59)) (fun v92 sv93 p94 => ?_)
                obtain ⟨r95, rfl, FI96, FL97, rfl, hI98, f99, f100, t101⟩ := p94
                have rl102 : rl_p (FI96 143) (FL97 144) := by rw [show FI96 143 = FI52 143 from gf_row f99 (c143 hS) (s143 hS) rfl rfl, show FL97 144 = FLv26 144 from gf_row f100 (c144 hS) (s144 hS) rfl rfl]; exact rl59
                show hw sk base _ _ _ _ _ [.int (r95)] _ _
                refine hw_ifeq (tgt := 106) (aX12_store 61 rfl) (by decide) rfl (fun cd103 => ?_) (fun cd103 => ?_)
                · refine hw_aloadn (aX12_store 66 rfl) rfl ?_
                  refine hw_aloadn (aX12_store 67 rfl) rfl ?_
                  refine hw_get (v := .int (x65)) (aX12_store 68 rfl) wf_RX12_405 (c121 hS) (s121 hS) (by decide) (congrArg Value.int (show FI96 121 59 = x65 from (gf_at f99 (c121 hS) (s121 hS) rfl (h66)))) ?_
                  refine hw_ic (v := (1 : Int32)) (aX12_store 69 rfl) (by decide) ?_
                  refine xw_iadd (aX12_store 70 rfl) ?_
                  refine hw_tie (A := ((x65).toInt) + (1)) (i_add rfl (by decide : (1 : Int32).toInt = 1) (by omega) (by omega)) (fun x104 e105 => ?_)
                  refine hv_puti (aX12_store 71 rfl) wf_RX12_405 (c121 hS) (s121 hS) (by decide) rfl rfl (fun FI106 u107 => ?_)
                  have rl108 : rl_p (FI106 143) (FL97 144) := by rw [show FI106 143 = FI96 143 from up_row u107 (by decide) rfl]; exact rl102
                  have hI109 : g_I FI106 := gU_F hI98 u107 rfl
                  obtain ⟨x110, q112⟩ : ∃ y : Int32, (y3) + Int32.ofInt (1) = y := ⟨_, rfl⟩
                  have e111 : (x110).toInt = (y3).toInt + (1) := by rw [← q112]; exact i_add rfl (by decide) (by omega) (by omega)
                  refine xw_iinc (L2 := [(3, .int (x110)), (2, .int (y2)), (0, .ref (base + 121)), (1, .int (a1))]) (aX12_store 72 rfl) rfl (by decide) (by rw [q112]; rfl) ?_
                  refine xw_goto (tgt := 47) (aX12_store 73 rfl) (by decide) ?_
                  exact hw_L (ih (x110) (y2) FI106 FL97 (gf_f (gf_tr ex_rf (gf_tr ex_rf fr27 f54 rfl rfl rfl) f99 rfl rfl rfl) u107 (by decide)) (gf_tr ex_rf fr28 f100 rfl rfl rfl) hI109 (show FI106 121 13 = x1 from (up_k u107 (by decide) ((gf_at f99 (c121 hS) (s121 hS) rfl ((gf_at f54 (c121 hS) (s121 hS) rfl (kp30))))))) (show FI106 121 0 = (0 : Int32) from (up_k u107 (by decide) ((gf_at f99 (c121 hS) (s121 hS) rfl ((gf_at f54 (c121 hS) (s121 hS) rfl (kp31))))))) (show rl_p (FI106 143) (FL97 144) from rl108) (by have := (e111 : (x110).toInt = (y3).toInt + (1)); omega) (by have := (e111 : (x110).toInt = (y3).toInt + (1)); have := congrArg Int32.toInt (show FI106 121 58 = x60 from (up_k u107 (by decide) ((gf_at f99 (c121 hS) (s121 hS) rfl (h61))))); omega) (by have := (e111 : (x110).toInt = (y3).toInt + (1)); have := congrArg Int32.toInt (show FI106 121 59 = x104 from up_eq u107); have := (e105 : (x104).toInt = ((x65).toInt) + (1)); omega) (by have := (e111 : (x110).toInt = (y3).toInt + (1)); omega) (by have := (e111 : (x110).toInt = (y3).toInt + (1)); have := congrArg Int32.toInt (show FI106 121 59 = x104 from up_eq u107); have := (e105 : (x104).toInt = ((x65).toInt) + (1)); omega) (by have := (e111 : (x110).toInt = (y3).toInt + (1)); omega)) ⟨rfl, rfl, rfl, rfl, trivial⟩
                · refine xw_iloadn (aX12_store 62 rfl) rfl ?_
                  refine hw_ic (v := (1 : Int32)) (aX12_store 63 rfl) (by decide) ?_
                  refine xw_iadd (aX12_store 64 rfl) ?_
                  refine hw_ti (fun x113 => ?_)
                  have b114 := i_rng x113
                  refine xw_istoren (L2 := [(2, .int (x113)), (3, .int (y3)), (0, .ref (base + 121)), (1, .int (a1))]) (aX12_store 65 rfl) (by decide) rfl ?_
                  refine hw_aloadn (aX12_store 66 rfl) rfl ?_
                  refine hw_aloadn (aX12_store 67 rfl) rfl ?_
                  refine hw_get (v := .int (x65)) (aX12_store 68 rfl) wf_RX12_405 (c121 hS) (s121 hS) (by decide) (congrArg Value.int (show FI96 121 59 = x65 from (gf_at f99 (c121 hS) (s121 hS) rfl (h66)))) ?_
                  refine hw_ic (v := (1 : Int32)) (aX12_store 69 rfl) (by decide) ?_
                  refine xw_iadd (aX12_store 70 rfl) ?_
                  refine hw_tie (A := ((x65).toInt) + (1)) (i_add rfl (by decide : (1 : Int32).toInt = 1) (by omega) (by omega)) (fun x115 e116 => ?_)
                  refine hv_puti (aX12_store 71 rfl) wf_RX12_405 (c121 hS) (s121 hS) (by decide) rfl rfl (fun FI117 u118 => ?_)
                  have rl119 : rl_p (FI117 143) (FL97 144) := by rw [show FI117 143 = FI96 143 from up_row u118 (by decide) rfl]; exact rl102
                  have hI120 : g_I FI117 := gU_F hI98 u118 rfl
                  obtain ⟨x121, q123⟩ : ∃ y : Int32, (y3) + Int32.ofInt (1) = y := ⟨_, rfl⟩
                  have e122 : (x121).toInt = (y3).toInt + (1) := by rw [← q123]; exact i_add rfl (by decide) (by omega) (by omega)
                  refine xw_iinc (L2 := [(3, .int (x121)), (2, .int (x113)), (0, .ref (base + 121)), (1, .int (a1))]) (aX12_store 72 rfl) rfl (by decide) (by rw [q123]; rfl) ?_
                  refine xw_goto (tgt := 47) (aX12_store 73 rfl) (by decide) ?_
                  exact hw_L (ih (x121) (x113) FI117 FL97 (gf_f (gf_tr ex_rf (gf_tr ex_rf fr27 f54 rfl rfl rfl) f99 rfl rfl rfl) u118 (by decide)) (gf_tr ex_rf fr28 f100 rfl rfl rfl) hI120 (show FI117 121 13 = x1 from (up_k u118 (by decide) ((gf_at f99 (c121 hS) (s121 hS) rfl ((gf_at f54 (c121 hS) (s121 hS) rfl (kp30))))))) (show FI117 121 0 = (0 : Int32) from (up_k u118 (by decide) ((gf_at f99 (c121 hS) (s121 hS) rfl ((gf_at f54 (c121 hS) (s121 hS) rfl (kp31))))))) (show rl_p (FI117 143) (FL97 144) from rl119) (by have := (e122 : (x121).toInt = (y3).toInt + (1)); omega) (by have := (e122 : (x121).toInt = (y3).toInt + (1)); have := congrArg Int32.toInt (show FI117 121 58 = x60 from (up_k u118 (by decide) ((gf_at f99 (c121 hS) (s121 hS) rfl (h61))))); omega) (by have := (e122 : (x121).toInt = (y3).toInt + (1)); have := congrArg Int32.toInt (show FI117 121 59 = x115 from up_eq u118); have := (e116 : (x115).toInt = ((x65).toInt) + (1)); omega) (by have := (e122 : (x121).toInt = (y3).toInt + (1)); omega) (by have := (e122 : (x121).toInt = (y3).toInt + (1)); have := congrArg Int32.toInt (show FI117 121 59 = x115 from up_eq u118); have := (e116 : (x115).toInt = ((x65).toInt) + (1)); omega) (by have := (e122 : (x121).toInt = (y3).toInt + (1)); omega)) ⟨rfl, rfl, rfl, rfl, trivial⟩
        exact hw_L (lp38 (((a1).toInt - 0 : Int).toNat + 1) ((0 : Int32)) ((0 : Int32)) FI21 FL (gf_f (gf_f (gf_f gf_rf u5 (by decide)) u18 (by decide)) u22 (by decide)) gf_rf hI24 (show FI21 121 13 = x1 from (up_k u22 (by decide) ((up_k u18 (by decide) ((up_k u5 (by decide) (h2))))))) (show FI21 121 0 = (0 : Int32) from (up_k u22 (by decide) ((up_k u18 (by decide) (up_eq u5))))) (show rl_p (FI21 143) (FL 144) from rl23) (by have := ((by decide : (0 : Int32).toInt = 0) : ((0 : Int32)).toInt = 0); have := ((by decide : (0 : Int32).toInt = 0) : ((0 : Int32)).toInt = 0); omega) (by have := ((by decide : (0 : Int32).toInt = 0) : ((0 : Int32)).toInt = 0); have := ((by decide : (0 : Int32).toInt = 0) : ((0 : Int32)).toInt = 0); have := congrArg Int32.toInt (show FI21 121 58 = (0 : Int32) from (up_k u22 (by decide) (up_eq u18))); have := ((by decide : (0 : Int32).toInt = 0) : ((0 : Int32)).toInt = 0); omega) (by have := ((by decide : (0 : Int32).toInt = 0) : ((0 : Int32)).toInt = 0); have := ((by decide : (0 : Int32).toInt = 0) : ((0 : Int32)).toInt = 0); have := congrArg Int32.toInt (show FI21 121 59 = (0 : Int32) from up_eq u22); have := ((by decide : (0 : Int32).toInt = 0) : ((0 : Int32)).toInt = 0); omega) (by have := ((by decide : (0 : Int32).toInt = 0) : ((0 : Int32)).toInt = 0); have := ((by decide : (0 : Int32).toInt = 0) : ((0 : Int32)).toInt = 0); omega) (by have := ((by decide : (0 : Int32).toInt = 0) : ((0 : Int32)).toInt = 0); have := ((by decide : (0 : Int32).toInt = 0) : ((0 : Int32)).toInt = 0); have := congrArg Int32.toInt (show FI21 121 59 = (0 : Int32) from up_eq u22); have := ((by decide : (0 : Int32).toInt = 0) : ((0 : Int32)).toInt = 0); omega) (by have := ((by decide : (0 : Int32).toInt = 0) : ((0 : Int32)).toInt = 0); have := ((by decide : (0 : Int32).toInt = 0) : ((0 : Int32)).toInt = 0); omega)) ⟨rfl, rfl, rfl, rfl, trivial⟩
      · refine hw_ic (v := ((-1) : Int32)) (aX12_store 17 rfl) (by decide) ?_
        refine xw_iret (aX12_store 18 rfl) rfl rfl ?_
        have e124 : (((-1) : Int32)).toInt = (-1) := (by decide : ((-1) : Int32).toInt = (-1))
        exact ⟨((-1) : Int32), rfl, FI4, FL, rfl, hI7, (gf_f gf_rf u5 (by decide)), gf_rf, (by have : (((-1) : Int32)).toInt = (-1) := (by decide); have := congrArg Int32.toInt (show FI4 121 13 = x1 from (up_k u5 (by decide) (h2))); omega)⟩
end
