def nX12_meansOperator : Nat := 0xac03ac044102b5042ac802b62a9002b560049002b42a2a2c02b564042c02b42a2a2200a0022f02b62a2a00999d02b629102aac049002b560049002b42a2aa802b5030400a70407009a3364042c02b42ab800b42a1500993364042c02b42ab500b42a2a4ffd1064042c02b42a9d00b42a4100a0fe102f02b62a4a00999d02b63a102ad102b62aac049002b560049002b42a2aa802b5030400a70407009994092fab02b42ab200b42a150099a802b42a2a54030400a70407009994092fab02b42ab200b42a64042c02b42ab800b42a54a802b42a64042c02b42ab500b42a4402b6fe10032aab02b56404ab02b42a2acb02b6042a7000999d02b63f102aacce02b60421102a0b00999d02b67c102aacce02b60527102a0b00999d02b65e102aacce02b6061a102a0b00999d02b626102aacce02b60704152a0b009f02041504366c02b6201b2aacce02b60804152a0b009f02041504366902b6201b2aacce02b606101c100500a7221008009a945d0214202a19009a948b0214200b0099945d0214202900a0081bacce02b6071004152a0c009f02041504365f02b6201b2a412f9002b42a7500b42a3c2e9002b42a7200b42a
theorem bX12_meansOperator : cX12_meansOperator.data.toList.map UInt8.toNat = x_un nX12_meansOperator 433 := by decide +kernel
def iX12_meansOperator : List (Nat × Jvm.ClassFile.Instr × Nat) := [(0, .aload_n 0, 1), (1, .getfield 114, 3), (4, .aload_n 0, 1), (5, .getfield 656, 3), (8, .iaload, 1), (9, .istore_n 1, 1), (10, .aload_n 0, 1), (11, .getfield 117, 3), (14, .aload_n 0, 1), (15, .getfield 656, 3), (18, .laload, 1), (19, .lstore_n 2, 1), (20, .aload_n 0, 1), (21, .iload_n 1, 1), (22, .lload_n 2, 1), (23, .invokevirtual 607, 3), (26, .istore 4, 2), (28, .iload 4, 2), (30, .iconst (-1), 1), (31, .if_icmp .eq 12, 3), (34, .aload_n 0, 1), (35, .iload 4, 2), (37, .bipush 7, 2), (39, .invokevirtual 718, 3), (42, .ireturn, 1), (43, .iload_n 1, 1), (44, .iconst 5, 1), (45, .if_icmp .ne 41, 3), (48, .lload_n 2, 1), (49, .ldc2_w 605, 3), (52, .lcmp, 1), (53, .ifCond .eq 11, 3), (56, .lload_n 2, 1), (57, .ldc2_w 651, 3), (60, .lcmp, 1), (61, .ifCond .ne 25, 3), (64, .aload_n 0, 1), (65, .lload_n 2, 1), (66, .ldc2_w 605, 3), (69, .lcmp, 1), (70, .ifCond .ne 8, 3), (73, .bipush 34, 2), (75, .goto 5, 3), (78, .bipush 28, 2), (80, .bipush 6, 2), (82, .invokevirtual 718, 3), (85, .ireturn, 1), (86, .aload_n 0, 1), (87, .iload_n 1, 1), (88, .lload_n 2, 1), (89, .invokevirtual 617, 3), (92, .istore 4, 2), (94, .iload 4, 2), (96, .iconst (-1), 1), (97, .if_icmp .eq 11, 3), (100, .aload_n 0, 1), (101, .iload 4, 2), (103, .iconst 5, 1), (104, .invokevirtual 718, 3), (107, .ireturn, 1), (108, .aload_n 0, 1), (109, .iload_n 1, 1), (110, .lload_n 2, 1), (111, .invokevirtual 620, 3), (114, .istore 4, 2), (116, .iload 4, 2), (118, .iconst (-1), 1), (119, .if_icmp .eq 11, 3), (122, .aload_n 0, 1), (123, .iload 4, 2), (125, .iconst 4, 1), (126, .invokevirtual 718, 3), (129, .ireturn, 1), (130, .aload_n 0, 1), (131, .bipush 38, 2), (133, .invokevirtual 669, 3), (136, .ifCond .eq 11, 3), (139, .aload_n 0, 1), (140, .bipush 26, 2), (142, .iconst 3, 1), (143, .invokevirtual 718, 3), (146, .ireturn, 1), (147, .aload_n 0, 1), (148, .bipush 94, 2), (150, .invokevirtual 669, 3), (153, .ifCond .eq 11, 3), (156, .aload_n 0, 1), (157, .bipush 39, 2), (159, .iconst 2, 1), (160, .invokevirtual 718, 3), (163, .ireturn, 1), (164, .aload_n 0, 1), (165, .bipush 124, 2), (167, .invokevirtual 669, 3), (170, .ifCond .eq 11, 3), (173, .aload_n 0, 1), (174, .bipush 33, 2), (176, .iconst 1, 1), (177, .invokevirtual 718, 3), (180, .ireturn, 1), (181, .aload_n 0, 1), (182, .bipush 63, 2), (184, .invokevirtual 669, 3), (187, .ifCond .eq 112, 3), (190, .aload_n 0, 1), (191, .iconst 1, 1), (192, .invokevirtual 715, 3), (195, .aload_n 0, 1), (196, .aload_n 0, 1), (197, .getfield 683, 3), (200, .iconst 1, 1), (201, .isub, 1), (202, .putfield 683, 3), (205, .aload_n 0, 1), (206, .iconst 0, 1), (207, .bipush (-2), 2), (209, .invokevirtual 580, 3), (212, .aload_n 0, 1), (213, .getfield 181, 3), (216, .aload_n 0, 1), (217, .getfield 556, 3), (220, .iconst 1, 1), (221, .isub, 1), (222, .aload_n 0, 1), (223, .getfield 680, 3), (226, .bastore, 1), (227, .aload_n 0, 1), (228, .getfield 184, 3), (231, .aload_n 0, 1), (232, .getfield 556, 3), (235, .iconst 1, 1), (236, .isub, 1), (237, .aload_n 0, 1), (238, .getfield 178, 3), (241, .aload_n 0, 1), (242, .getfield 683, 3), (245, .laload, 1), (246, .lconst 0, 1), (247, .lcmp, 1), (248, .ifCond .eq 7, 3), (251, .iconst 1, 1), (252, .goto 4, 3), (255, .iconst 0, 1), (256, .bastore, 1), (257, .aload_n 0, 1), (258, .aload_n 0, 1), (259, .getfield 680, 3), (262, .ifCond .eq 21, 3), (265, .aload_n 0, 1), (266, .getfield 178, 3), (269, .aload_n 0, 1), (270, .getfield 683, 3), (273, .laload, 1), (274, .lconst 0, 1), (275, .lcmp, 1), (276, .ifCond .eq 7, 3), (279, .iconst 1, 1), (280, .goto 4, 3), (283, .iconst 0, 1), (284, .putfield 680, 3), (287, .aload_n 0, 1), (288, .aload_n 0, 1), (289, .getfield 656, 3), (292, .iconst 1, 1), (293, .iadd, 1), (294, .putfield 656, 3), (297, .iconst 1, 1), (298, .ireturn, 1), (299, .aload_n 0, 1), (300, .invokevirtual 721, 3), (303, .aload_n 0, 1), (304, .bipush 58, 2), (306, .invokevirtual 669, 3), (309, .ifCond .eq 74, 3), (312, .aload_n 0, 1), (313, .invokevirtual 559, 3), (316, .bipush (-2), 2), (318, .if_icmp .ne 65, 3), (321, .aload_n 0, 1), (322, .getfield 157, 3), (325, .aload_n 0, 1), (326, .getfield 556, 3), (329, .iconst 1, 1), (330, .isub, 1), (331, .bipush (-3), 2), (333, .iastore, 1), (334, .aload_n 0, 1), (335, .aload_n 0, 1), (336, .getfield 181, 3), (339, .aload_n 0, 1), (340, .getfield 556, 3), (343, .iconst 1, 1), (344, .isub, 1), (345, .baload, 1), (346, .ifCond .eq 21, 3), (349, .aload_n 0, 1), (350, .getfield 184, 3), (353, .aload_n 0, 1), (354, .getfield 556, 3), (357, .iconst 1, 1), (358, .isub, 1), (359, .baload, 1), (360, .ifCond .ne 7, 3), (363, .iconst 1, 1), (364, .goto 4, 3), (367, .iconst 0, 1), (368, .putfield 680, 3), (371, .aload_n 0, 1), (372, .aload_n 0, 1), (373, .getfield 656, 3), (376, .iconst 1, 1), (377, .iadd, 1), (378, .putfield 656, 3), (381, .iconst 1, 1), (382, .ireturn, 1), (383, .aload_n 0, 1), (384, .bipush 41, 2), (386, .invokevirtual 669, 3), (389, .ifCond .eq 42, 3), (392, .aload_n 0, 1), (393, .invokevirtual 559, 3), (396, .iconst (-1), 1), (397, .if_icmp .ne 34, 3), (400, .aload_n 0, 1), (401, .aload_n 0, 1), (402, .getfield 556, 3), (405, .iconst 1, 1), (406, .isub, 1), (407, .putfield 556, 3), (410, .aload_n 0, 1), (411, .aload_n 0, 1), (412, .getfield 656, 3), (415, .iconst 1, 1), (416, .iadd, 1), (417, .putfield 656, 3), (420, .aload_n 0, 1), (421, .invokevirtual 712, 3), (424, .aload_n 0, 1), (425, .iconst 1, 1), (426, .putfield 577, 3), (429, .iconst 1, 1), (430, .ireturn, 1), (431, .iconst 0, 1), (432, .ireturn, 1)]
theorem dX12_meansOperator : x_il nX12_meansOperator 433 iX12_meansOperator = true := by decide +kernel
theorem aX12_meansOperator (k : Nat) {pc : Nat} {i : Jvm.ClassFile.Instr} {len : Nat} (hk : iX12_meansOperator[k]? = some (pc, i, len)) : x_at xMM 267 pc i len yX12_meansOperator 5 (some .boolean) := ⟨cX12_meansOperator, rfl, x_il_ok bX12_meansOperator dX12_meansOperator k hk⟩
set_option maxHeartbeats 4000000 in
set_option maxRecDepth 100000 in
theorem n_meansOperator {zk : xK} {base d n sl : Nat} {SH : Nat → Nat × Nat} {FI : Nat → Nat → Int32} {FL : Nat → Nat → Int64} {FR : Nat → Nat → Option Nat} (hS : h_S n SH) (hF : h_FR FR) (hI : g_I FI) (g0 : (FI 121 90).toInt ≤ 249) (g1 : (FI 121 92).toInt ≤ 1000) (g2 : (FI 121 91).toInt = 0) (gg0 : au_ok (sk (FI 166) (FI 121 90).toInt.toNat)) (gg1 : ∀ y r, (sk (FI 166) (FI 121 90).toInt.toNat) = y :: r → y ≠ 9) (gg2 : (FI 121 101).toInt = (au_vc (sk (FI 166) (FI 121 90).toInt.toNat) : Int) + 1) (rel_wm : rl_wm (FI 121 90) (FI 165) (FI 166)) : hw zk base (d + 5) none 267 0 [(0, .ref (base + 121))] [] (n, sl, SH, FI, FL, FR) (h_I (fun r s => ∃ FI' FL', s = (n, sl, SH, FI', FL', FR) ∧ g_I FI' ∧ g_fr n SH [(121, 90), (121, 91), (121, 92), (121, 93), (121, 101), (121, 104)] [165, 166, 174, 175] [] FI FI' ∧ g_fr n SH [] [173] [] FL FL' ∧ (0 ≤ r.toInt ∧ r.toInt ≤ 1) ∧ (∀ q b m, au_st (kf (FI 152)) (wf (FL 153)) (FI 121 92).toInt.toNat false (sk (FI 166) (FI 121 90).toInt.toNat) q b m → r.toInt = 1 ∧ (FI' 121 92).toInt.toNat = q ∧ (sk (FI' 166) (FI' 121 90).toInt.toNat) = m ∧ (FI' 121 101).toInt = (au_vc m : Int) + (if b then 0 else 1) ∧ (FI' 121 91).toInt = (if b then 0 else 1)) ∧ (co_end (kf (FI 152)) (wf (FL 153)) (FI 121 92).toInt.toNat (sk (FI 166) (FI 121 90).toInt.toNat) → r.toInt = 0 ∧ (FI' 121 92).toInt.toNat = (FI 121 92).toInt.toNat) ∧ (rl_wm (FI' 121 90) (FI' 165) (FI' 166)))) := by
  obtain ⟨x1, h2⟩ : ∃ y, FI 121 90 = y := ⟨_, rfl⟩
  have h2l := congrArg Int32.toInt h2
  have b3 := gI_121_90 hI; rw [h2] at b3
  obtain ⟨x4, h5⟩ : ∃ y, FI 121 92 = y := ⟨_, rfl⟩
  have h5l := congrArg Int32.toInt h5
  have b6 := gI_121_92 hI; rw [h5] at b6
  obtain ⟨x7, h8⟩ : ∃ y, FI 121 91 = y := ⟨_, rfl⟩
  have h8l := congrArg Int32.toInt h8
  have b9 := gI_121_91 hI; rw [h8] at b9
  obtain ⟨x10, h11⟩ : ∃ y, FI 121 101 = y := ⟨_, rfl⟩
  have h11l := congrArg Int32.toInt h11
  have b12 := gI_121_101 hI; rw [h11] at b12
  refine hw_aloadn (aX12_meansOperator 0 rfl) rfl ?_
  refine hw_get (v := .ref (base + 152)) (aX12_meansOperator 1 rfl) wf_RX12_114 (c121 hS) (s121 hS) (by decide) (congrArg (fun r => va_rf (h_rf base r)) (r121_65 hF)) ?_
  refine hw_aloadn (aX12_meansOperator 2 rfl) rfl ?_
  refine hw_get (v := .int (x4)) (aX12_meansOperator 3 rfl) wf_RX12_656 (c121 hS) (s121 hS) (by decide) (congrArg Value.int (show FI 121 92 = x4 from h5)) ?_
  obtain ⟨x13, h14⟩ : ∃ y, FI 152 (x4).toNatClampNeg = y := ⟨_, rfl⟩
  have h14l := congrArg Int32.toInt h14
  have := i_rng x13
  refine hw_iald (v := x13) (aX12_meansOperator 4 rfl) (c152 hS) (s152 hS) (h_in rfl (by omega) (by omega)) (show FI 152 (x4).toNatClampNeg = x13 from h14) ?_
  refine xw_istoren (L2 := [(1, .int (x13)), (0, .ref (base + 121))]) (aX12_meansOperator 5 rfl) (by decide) rfl ?_
  refine hw_aloadn (aX12_meansOperator 6 rfl) rfl ?_
  refine hw_get (v := .ref (base + 153)) (aX12_meansOperator 7 rfl) wf_RX12_117 (c121 hS) (s121 hS) (by decide) (congrArg (fun r => va_rf (h_rf base r)) (r121_66 hF)) ?_
  refine hw_aloadn (aX12_meansOperator 8 rfl) rfl ?_
  refine hw_get (v := .int (x4)) (aX12_meansOperator 9 rfl) wf_RX12_656 (c121 hS) (s121 hS) (by decide) (congrArg Value.int (show FI 121 92 = x4 from h5)) ?_
  obtain ⟨x15, h16⟩ : ∃ y, FL 153 (x4).toNatClampNeg = y := ⟨_, rfl⟩
  have h16l := congrArg Int64.toInt h16
  have := l_rng x15
  refine hw_lald (v := x15) (aX12_meansOperator 10 rfl) (c153 hS) (s153 hS) (h_in rfl (by omega) (by omega)) (show FL 153 (x4).toNatClampNeg = x15 from h16) ?_
  refine xw_lstoren (L2 := [(2, .long (x15)), (1, .int (x13)), (0, .ref (base + 121))]) (aX12_meansOperator 11 rfl) (by decide) rfl ?_
  have ee1 : (FI 121 92).toInt.toNat = (x4).toNatClampNeg := (i_cl (congrArg Int32.toInt (h5)).symm).symm
  have hk1 : kf (FI 152) (FI 121 92).toInt.toNat = (x13).toInt := by unfold kf; rw [ee1, show FI 152 (x4).toNatClampNeg = x13 from h14]
  have hw1 : wf (FL 153) (FI 121 92).toInt.toNat = (x15).toInt := by unfold wf; rw [ee1, show FL 153 (x4).toNatClampNeg = x15 from h16]
  refine hw_aloadn (aX12_meansOperator 12 rfl) rfl ?_
  refine xw_iloadn (aX12_meansOperator 13 rfl) rfl ?_
  refine xw_lloadn (aX12_meansOperator 14 rfl) rfl ?_
  refine hw_callV (Bs := [.int (x13), .long (x15)]) (rest := []) (aX12_meansOperator 15 rfl) wc_RX12_607 (by decide) rfl wi_yX12_multiplies wv_yX12_multiplies (c121 hS) (s121 hS) rfl rfl rfl (Nat.le_of_ble_eq_true rfl) (Nat.le_of_ble_eq_true rfl) (n_multiplies (d := d + 4) hS hF hI (x13) (x15) ) (fun v17 sv18 p19 => ?_)
  obtain ⟨r20, rfl, rfl, t22, t23, t24⟩ := p19
  have rg_r20 := i_rng r20
  show hw zk base _ _ _ _ _ [.int (r20)] _ _
  refine xw_istore (L2 := [(4, .int (r20)), (2, .long (x15)), (1, .int (x13)), (0, .ref (base + 121))]) (aX12_meansOperator 16 rfl) (by decide) rfl ?_
  refine xw_iload (aX12_meansOperator 17 rfl) rfl ?_
  refine hw_ic (v := ((-1) : Int32)) (aX12_meansOperator 18 rfl) (by decide) ?_
  refine hw_iceq (tgt := 43) (aX12_meansOperator 19 rfl) (by decide) rfl (by decide : ((-1) : Int32).toInt = (-1)) (fun cd25 => ?_) (fun cd25 => ?_)
  · have nb7 : hid (au_bn (kf (FI 152) (FI 121 92).toInt.toNat) (wf (FL 153) (FI 121 92).toInt.toNat) ≠ 7) := hid_i (fun h => by rw [hk1, hw1] at h; exact absurd (hid_e t24 (au_bn_7.mp h)) (by omega))
    refine xw_iloadn (aX12_meansOperator 25 rfl) rfl ?_
    refine hw_ic (v := (5 : Int32)) (aX12_meansOperator 26 rfl) (by decide) ?_
    have j431 : (hid (au_bn (kf (FI 152) (FI 121 92).toInt.toNat) (wf (FL 153) (FI 121 92).toInt.toNat) ≠ 6)) → hw zk base (d + 5) none 267 86 [(0, .ref (base + 121)), (1, .int (x13)), (2, .long (x15))] [] (n, sl, SH, FI, FL, FR) (h_I (fun r s => ∃ FI' FL', s = (n, sl, SH, FI', FL', FR) ∧ g_I FI' ∧ g_fr n SH [(121, 90), (121, 91), (121, 92), (121, 93), (121, 101), (121, 104)] [165, 166, 174, 175] [] FI FI' ∧ g_fr n SH [] [173] [] FL FL' ∧ (0 ≤ r.toInt ∧ r.toInt ≤ 1) ∧ (∀ q b m, au_st (kf (FI 152)) (wf (FL 153)) (FI 121 92).toInt.toNat false (sk (FI 166) (FI 121 90).toInt.toNat) q b m → r.toInt = 1 ∧ (FI' 121 92).toInt.toNat = q ∧ (sk (FI' 166) (FI' 121 90).toInt.toNat) = m ∧ (FI' 121 101).toInt = (au_vc m : Int) + (if b then 0 else 1) ∧ (FI' 121 91).toInt = (if b then 0 else 1)) ∧ (co_end (kf (FI 152)) (wf (FL 153)) (FI 121 92).toInt.toNat (sk (FI 166) (FI 121 90).toInt.toNat) → r.toInt = 0 ∧ (FI' 121 92).toInt.toNat = (FI 121 92).toInt.toNat) ∧ (rl_wm (FI' 121 90) (FI' 165) (FI' 166)))) := by
      intro fc86_0
      refine hw_aloadn (aX12_meansOperator 47 rfl) rfl ?_
      refine xw_iloadn (aX12_meansOperator 48 rfl) rfl ?_
      refine xw_lloadn (aX12_meansOperator 49 rfl) rfl ?_
      refine hw_callV (Bs := [.int (x13), .long (x15)]) (rest := []) (aX12_meansOperator 50 rfl) wc_RX12_617 (by decide) rfl wi_yX12_shifts wv_yX12_shifts (c121 hS) (s121 hS) rfl rfl rfl (Nat.le_of_ble_eq_true rfl) (Nat.le_of_ble_eq_true rfl) (n_shifts (d := d + 4) hS hF hI (x13) (x15) ) (fun v432 sv433 p434 => ?_)
      obtain ⟨r435, rfl, rfl, t437, t438, t439⟩ := p434
      have rg_r435 := i_rng r435
      show hw zk base _ _ _ _ _ [.int (r435)] _ _
      refine xw_istore (L2 := [(4, .int (r435)), (0, .ref (base + 121)), (1, .int (x13)), (2, .long (x15))]) (aX12_meansOperator 51 rfl) (by decide) rfl ?_
      refine xw_iload (aX12_meansOperator 52 rfl) rfl ?_
      refine hw_ic (v := ((-1) : Int32)) (aX12_meansOperator 53 rfl) (by decide) ?_
      refine hw_iceq (tgt := 108) (aX12_meansOperator 54 rfl) (by decide) rfl (by decide : ((-1) : Int32).toInt = (-1)) (fun cd440 => ?_) (fun cd440 => ?_)
      · have nb5 : hid (au_bn (kf (FI 152) (FI 121 92).toInt.toNat) (wf (FL 153) (FI 121 92).toInt.toNat) ≠ 5) := hid_i (fun h => by rw [hk1, hw1] at h; exact absurd (hid_e t439 (au_bn_5.mp h)) (by omega))
        refine hw_aloadn (aX12_meansOperator 60 rfl) rfl ?_
        refine xw_iloadn (aX12_meansOperator 61 rfl) rfl ?_
        refine xw_lloadn (aX12_meansOperator 62 rfl) rfl ?_
        refine hw_callV (Bs := [.int (x13), .long (x15)]) (rest := []) (aX12_meansOperator 63 rfl) wc_RX12_620 (by decide) rfl wi_yX12_compares wv_yX12_compares (c121 hS) (s121 hS) rfl rfl rfl (Nat.le_of_ble_eq_true rfl) (Nat.le_of_ble_eq_true rfl) (n_compares (d := d + 4) hS hF hI (x13) (x15) ) (fun v441 sv442 p443 => ?_)
        obtain ⟨r444, rfl, rfl, t446, t447, t448⟩ := p443
        have rg_r444 := i_rng r444
        show hw zk base _ _ _ _ _ [.int (r444)] _ _
        refine xw_istore (L2 := [(4, .int (r444)), (0, .ref (base + 121)), (1, .int (x13)), (2, .long (x15))]) (aX12_meansOperator 64 rfl) (by decide) rfl ?_
        refine xw_iload (aX12_meansOperator 65 rfl) rfl ?_
        refine hw_ic (v := ((-1) : Int32)) (aX12_meansOperator 66 rfl) (by decide) ?_
        refine hw_iceq (tgt := 130) (aX12_meansOperator 67 rfl) (by decide) rfl (by decide : ((-1) : Int32).toInt = (-1)) (fun cd449 => ?_) (fun cd449 => ?_)
        · have nb4 : hid (au_bn (kf (FI 152) (FI 121 92).toInt.toNat) (wf (FL 153) (FI 121 92).toInt.toNat) ≠ 4) := hid_i (fun h => by rw [hk1, hw1] at h; exact absurd (hid_e t448 (au_bn_4.mp h)) (by omega))
          refine hw_aloadn (aX12_meansOperator 73 rfl) rfl ?_
          refine hw_bp (v := (38 : Int32)) (aX12_meansOperator 74 rfl) (by decide) ?_
          refine hw_callV (Bs := [.int ((38 : Int32))]) (rest := []) (aX12_meansOperator 75 rfl) wc_RX12_669 (by decide) rfl wi_yX12_keepsSign wv_yX12_keepsSign (c121 hS) (s121 hS) rfl rfl rfl (Nat.le_of_ble_eq_true rfl) (Nat.le_of_ble_eq_true rfl) (n_keepsSign (d := d + 4) hS hF hI ((38 : Int32)) ) (fun v450 sv451 p452 => ?_)
          obtain ⟨r453, rfl, rfl, t455, u456⟩ := p452
          show hw zk base _ _ _ _ _ [.int (r453)] _ _
          replace u456 := hid_i u456
          refine hw_ifeq (tgt := 147) (aX12_meansOperator 76 rfl) (by decide) rfl (fun cd457 => ?_) (fun cd457 => ?_)
          · have nb3 : hid (au_bn (kf (FI 152) (FI 121 92).toInt.toNat) (wf (FL 153) (FI 121 92).toInt.toNat) ≠ 3) := hid_i (fun h => by have hh := au_bn_3.mp h; have := (hid_e u456).mpr (by rw [show ((38 : Int32)).toInt = (38 : Int) from by decide]; exact hh); omega)
            refine hw_aloadn (aX12_meansOperator 82 rfl) rfl ?_
            refine hw_bp (v := (94 : Int32)) (aX12_meansOperator 83 rfl) (by decide) ?_
            refine hw_callV (Bs := [.int ((94 : Int32))]) (rest := []) (aX12_meansOperator 84 rfl) wc_RX12_669 (by decide) rfl wi_yX12_keepsSign wv_yX12_keepsSign (c121 hS) (s121 hS) rfl rfl rfl (Nat.le_of_ble_eq_true rfl) (Nat.le_of_ble_eq_true rfl) (n_keepsSign (d := d + 4) hS hF hI ((94 : Int32)) ) (fun v458 sv459 p460 => ?_)
            obtain ⟨r461, rfl, rfl, t463, u464⟩ := p460
            show hw zk base _ _ _ _ _ [.int (r461)] _ _
            replace u464 := hid_i u464
            refine hw_ifeq (tgt := 164) (aX12_meansOperator 85 rfl) (by decide) rfl (fun cd465 => ?_) (fun cd465 => ?_)
            · have nb2 : hid (au_bn (kf (FI 152) (FI 121 92).toInt.toNat) (wf (FL 153) (FI 121 92).toInt.toNat) ≠ 2) := hid_i (fun h => by have hh := au_bn_2.mp h; have := (hid_e u464).mpr (by rw [show ((94 : Int32)).toInt = (94 : Int) from by decide]; exact hh); omega)
              refine hw_aloadn (aX12_meansOperator 91 rfl) rfl ?_
              refine hw_bp (v := (124 : Int32)) (aX12_meansOperator 92 rfl) (by decide) ?_
              refine hw_callV (Bs := [.int ((124 : Int32))]) (rest := []) (aX12_meansOperator 93 rfl) wc_RX12_669 (by decide) rfl wi_yX12_keepsSign wv_yX12_keepsSign (c121 hS) (s121 hS) rfl rfl rfl (Nat.le_of_ble_eq_true rfl) (Nat.le_of_ble_eq_true rfl) (n_keepsSign (d := d + 4) hS hF hI ((124 : Int32)) ) (fun v466 sv467 p468 => ?_)
              obtain ⟨r469, rfl, rfl, t471, u472⟩ := p468
              show hw zk base _ _ _ _ _ [.int (r469)] _ _
              replace u472 := hid_i u472
              refine hw_ifeq (tgt := 181) (aX12_meansOperator 94 rfl) (by decide) rfl (fun cd473 => ?_) (fun cd473 => ?_)
              · have nb1 : hid (au_bn (kf (FI 152) (FI 121 92).toInt.toNat) (wf (FL 153) (FI 121 92).toInt.toNat) ≠ 1) := hid_i (fun h => by have hh := au_bn_1.mp h; have := (hid_e u472).mpr (by rw [show ((124 : Int32)).toInt = (124 : Int) from by decide]; exact hh); omega)
                refine hw_aloadn (aX12_meansOperator 100 rfl) rfl ?_
                refine hw_bp (v := (63 : Int32)) (aX12_meansOperator 101 rfl) (by decide) ?_
                refine hw_callV (Bs := [.int ((63 : Int32))]) (rest := []) (aX12_meansOperator 102 rfl) wc_RX12_669 (by decide) rfl wi_yX12_keepsSign wv_yX12_keepsSign (c121 hS) (s121 hS) rfl rfl rfl (Nat.le_of_ble_eq_true rfl) (Nat.le_of_ble_eq_true rfl) (n_keepsSign (d := d + 4) hS hF hI ((63 : Int32)) ) (fun v474 sv475 p476 => ?_)
                obtain ⟨r477, rfl, rfl, t479, u480⟩ := p476
                show hw zk base _ _ _ _ _ [.int (r477)] _ _
                replace u480 := hid_i u480
                refine hw_ifeq (tgt := 299) (aX12_meansOperator 103 rfl) (by decide) rfl (fun cd481 => ?_) (fun cd481 => ?_)
                · have hb := hid_i (au_bn_0 (hid_e nb7) (hid_e fc86_0) (hid_e nb5) (hid_e nb4) (hid_e nb3) (hid_e nb2) (hid_e nb1))
                  have hnq : hid (¬ (kf (FI 152) (FI 121 92).toInt.toNat = 5 ∧ wf (FL 153) (FI 121 92).toInt.toNat = 63)) := hid_i (fun h => by have := (hid_e u480).mpr (by rw [show ((63 : Int32)).toInt = (63 : Int) from by decide]; exact h); omega)
                  refine hw_aloadn (aX12_meansOperator 168 rfl) rfl ?_
                  refine hw_callV (Bs := []) (rest := []) (aX12_meansOperator 169 rfl) wc_RX12_721 (by decide) rfl wi_yX12_meansReducedAll wv_yX12_meansReducedAll (c121 hS) (s121 hS) rfl rfl rfl (Nat.le_of_ble_eq_true rfl) (Nat.le_of_ble_eq_true rfl) (n_meansReducedAll (d := d) hS hF hI (gg0) (gg1) ((by have := gg2; omega)) (show rl_wm (FI 121 90) (FI 165) (FI 166) from rel_wm)) (fun v482 sv483 p484 => ?_)
                  have := congrArg Int32.toInt (show FI 121 90 = x1 from h2)
                  have := congrArg Int32.toInt (show FI 121 101 = x10 from h11)
                  obtain ⟨rfl, FI486, FL487, rfl, hI488, f489, f490, t491, t492, u493, u494, rl495⟩ := p484
                  obtain ⟨x496, h497⟩ : ∃ y, FI486 121 90 = y := ⟨_, rfl⟩
                  have h497l := congrArg Int32.toInt h497
                  have b498 := gI_121_90 hI488; rw [h497] at b498
                  obtain ⟨x499, h500⟩ : ∃ y, FI486 121 101 = y := ⟨_, rfl⟩
                  have h500l := congrArg Int32.toInt h500
                  have b501 := gI_121_101 hI488; rw [h500] at b501
                  show hw zk base _ _ _ _ _ [] _ _
                  refine hw_aloadn (aX12_meansOperator 170 rfl) rfl ?_
                  refine hw_bp (v := (58 : Int32)) (aX12_meansOperator 171 rfl) (by decide) ?_
                  refine hw_callV (Bs := [.int ((58 : Int32))]) (rest := []) (aX12_meansOperator 172 rfl) wc_RX12_669 (by decide) rfl wi_yX12_keepsSign wv_yX12_keepsSign (c121 hS) (s121 hS) rfl rfl rfl (Nat.le_of_ble_eq_true rfl) (Nat.le_of_ble_eq_true rfl) (n_keepsSign (d := d + 4) hS hF hI488 ((58 : Int32)) ) (fun v502 sv503 p504 => ?_)
                  obtain ⟨r505, rfl, rfl, t507, u508⟩ := p504
                  show hw zk base _ _ _ _ _ [.int (r505)] _ _
                  replace u508 := hid_i u508
                  have j600 : (hid (¬ ((kf (FI 152) (FI 121 92).toInt.toNat = 5 ∧ wf (FL 153) (FI 121 92).toInt.toNat = 58) ∧ ∃ r, au_all (sk (FI 166) (FI 121 90).toInt.toNat) = -2 :: r))) → hw zk base (d + 5) none 267 383 [(0, .ref (base + 121))] [] (n, sl, SH, FI486, FL487, FR) (h_I (fun r s => ∃ FI' FL', s = (n, sl, SH, FI', FL', FR) ∧ g_I FI' ∧ g_fr n SH [(121, 90), (121, 91), (121, 92), (121, 93), (121, 101), (121, 104)] [165, 166, 174, 175] [] FI FI' ∧ g_fr n SH [] [173] [] FL FL' ∧ (0 ≤ r.toInt ∧ r.toInt ≤ 1) ∧ (∀ q b m, au_st (kf (FI 152)) (wf (FL 153)) (FI 121 92).toInt.toNat false (sk (FI 166) (FI 121 90).toInt.toNat) q b m → r.toInt = 1 ∧ (FI' 121 92).toInt.toNat = q ∧ (sk (FI' 166) (FI' 121 90).toInt.toNat) = m ∧ (FI' 121 101).toInt = (au_vc m : Int) + (if b then 0 else 1) ∧ (FI' 121 91).toInt = (if b then 0 else 1)) ∧ (co_end (kf (FI 152)) (wf (FL 153)) (FI 121 92).toInt.toNat (sk (FI 166) (FI 121 90).toInt.toNat) → r.toInt = 0 ∧ (FI' 121 92).toInt.toNat = (FI 121 92).toInt.toNat) ∧ (rl_wm (FI' 121 90) (FI' 165) (FI' 166)))) := by
                    intro fc383_0
                    refine hw_aloadn (aX12_meansOperator 215 rfl) rfl ?_
                    refine hw_bp (v := (41 : Int32)) (aX12_meansOperator 216 rfl) (by decide) ?_
                    refine hw_callV (Bs := [.int ((41 : Int32))]) (rest := []) (aX12_meansOperator 217 rfl) wc_RX12_669 (by decide) rfl wi_yX12_keepsSign wv_yX12_keepsSign (c121 hS) (s121 hS) rfl rfl rfl (Nat.le_of_ble_eq_true rfl) (Nat.le_of_ble_eq_true rfl) (n_keepsSign (d := d + 4) hS hF hI488 ((41 : Int32)) ) (fun v601 sv602 p603 => ?_)
                    obtain ⟨r604, rfl, rfl, t606, u607⟩ := p603
                    show hw zk base _ _ _ _ _ [.int (r604)] _ _
                    replace u607 := hid_i u607
                    have j652 : (hid (¬ ((kf (FI 152) (FI 121 92).toInt.toNat = 5 ∧ wf (FL 153) (FI 121 92).toInt.toNat = 41) ∧ ∃ r, au_all (sk (FI 166) (FI 121 90).toInt.toNat) = -1 :: r))) → hw zk base (d + 5) none 267 431 [(0, .ref (base + 121))] [] (n, sl, SH, FI486, FL487, FR) (h_I (fun r s => ∃ FI' FL', s = (n, sl, SH, FI', FL', FR) ∧ g_I FI' ∧ g_fr n SH [(121, 90), (121, 91), (121, 92), (121, 93), (121, 101), (121, 104)] [165, 166, 174, 175] [] FI FI' ∧ g_fr n SH [] [173] [] FL FL' ∧ (0 ≤ r.toInt ∧ r.toInt ≤ 1) ∧ (∀ q b m, au_st (kf (FI 152)) (wf (FL 153)) (FI 121 92).toInt.toNat false (sk (FI 166) (FI 121 90).toInt.toNat) q b m → r.toInt = 1 ∧ (FI' 121 92).toInt.toNat = q ∧ (sk (FI' 166) (FI' 121 90).toInt.toNat) = m ∧ (FI' 121 101).toInt = (au_vc m : Int) + (if b then 0 else 1) ∧ (FI' 121 91).toInt = (if b then 0 else 1)) ∧ (co_end (kf (FI 152)) (wf (FL 153)) (FI 121 92).toInt.toNat (sk (FI 166) (FI 121 90).toInt.toNat) → r.toInt = 0 ∧ (FI' 121 92).toInt.toNat = (FI 121 92).toInt.toNat) ∧ (rl_wm (FI' 121 90) (FI' 165) (FI' 166)))) := by
                      intro fc431_0
                      refine hw_ic (v := (0 : Int32)) (aX12_meansOperator 242 rfl) (by decide) ?_
                      refine xw_iret (aX12_meansOperator 243 rfl) rfl (by decide) ?_
                      have e653 : ((0 : Int32)).toInt = 0 := (by decide : (0 : Int32).toInt = 0)
                      exact ⟨(0 : Int32), rfl, FI486, FL487, rfl, hI488, (gf_tr ex_rf gf_rf f489 rfl rfl rfl), (gf_tr ex_rf gf_rf f490 rfl rfl rfl), (by have : ((0 : Int32)).toInt = 0 := (by decide); omega), (by intro q b m hst; have hn := au_st_no hst (hid_e hb) (hid_e hnq); exfalso; rcases hn with ⟨g1, g2⟩ | ⟨g1, g2⟩; { obtain ⟨r9, e0, -⟩ := au_st_co hst g1 g2; exact (hid_e fc383_0) ⟨⟨g1, g2⟩, r9, e0⟩ }; { obtain ⟨r9, e0, -⟩ := au_st_rp hst g1 g2; exact (hid_e fc431_0) ⟨⟨g1, g2⟩, r9, e0⟩ }), (by have := congrArg Int32.toInt (show FI486 121 92 = x4 from (gf_at f489 (c121 hS) (s121 hS) rfl (h5))); have hz : (((0 : Int32))).toInt = 0 := (by decide : (0 : Int32).toInt = 0); exact fun _ => ⟨by omega, by omega⟩), (show rl_wm (FI486 121 90) (FI486 165) (FI486 166) from rl495)⟩
                    refine hw_ifeq (tgt := 431) (aX12_meansOperator 218 rfl) (by decide) rfl (fun cd654 => ?_) (fun cd654 => ?_)
                    · exact hw_L (j652 (show hid (¬ ((kf (FI 152) (FI 121 92).toInt.toNat = 5 ∧ wf (FL 153) (FI 121 92).toInt.toNat = 41) ∧ ∃ r, au_all (sk (FI 166) (FI 121 90).toInt.toNat) = -1 :: r)) from hid_i (by { rintro ⟨h, -⟩; have := (hid_e u607).mpr (by { rw [show ((41 : Int32)).toInt = (41 : Int) from by decide, show FI486 152 = FI 152 from (gf_row f489 (c152 hS) (s152 hS) rfl (rfl)), show FI486 121 92 = FI 121 92 from ((gf_at f489 (c121 hS) (s121 hS) rfl (h5))).trans (h5).symm, show FL487 153 = FL 153 from (gf_row f490 (c153 hS) (s153 hS) rfl (rfl))]; exact h }); omega }))) ⟨rfl, trivial⟩
                    · refine hw_aloadn (aX12_meansOperator 219 rfl) rfl ?_
                      refine hw_callV (Bs := []) (rest := []) (aX12_meansOperator 220 rfl) wc_RX12_559 (by decide) rfl wi_yX12_tops wv_yX12_tops (c121 hS) (s121 hS) rfl rfl rfl (Nat.le_of_ble_eq_true rfl) (Nat.le_of_ble_eq_true rfl) (n_tops (d := d + 4) hS hF hI488 ) (fun v655 sv656 p657 => ?_)
                      have := congrArg Int32.toInt (show FI486 121 90 = x496 from h497)
                      obtain ⟨r658, rfl, rfl, t660, u661, u662⟩ := p657
                      have rg_r658 := i_rng r658
                      show hw zk base _ _ _ _ _ [.int (r658)] _ _
                      refine hw_ic (v := ((-1) : Int32)) (aX12_meansOperator 221 rfl) (by decide) ?_
                      refine hw_icne (tgt := 431) (aX12_meansOperator 222 rfl) (by decide) rfl (by decide : ((-1) : Int32).toInt = (-1)) (fun cd663 => ?_) (fun cd663 => ?_)
                      · exact hw_L (j652 (show hid (¬ ((kf (FI 152) (FI 121 92).toInt.toNat = 5 ∧ wf (FL 153) (FI 121 92).toInt.toNat = 41) ∧ ∃ r, au_all (sk (FI 166) (FI 121 90).toInt.toNat) = -1 :: r)) from hid_i (by { rintro ⟨-, r, h⟩; have := congrArg Int32.toInt (show FI486 121 90 = x496 from h497); rcases Int.lt_or_le 0 (FI486 121 90).toInt with h0 | h0; { have hh := u661 (by omega); rw [show FI486 166 = FI 166 from (gf_row f489 (c166 hS) (s166 hS) rfl (rfl)), show FI486 121 90 = FI486 121 90 from (h497).trans (h497).symm, u493, h] at hh; have h9 := (List.cons.inj hh).1; omega }; { rw [← u493, show (FI486 121 90).toInt.toNat = 0 by omega] at h; cases h } }))) ⟨rfl, trivial⟩
                      · have hrp := (hid_e u607).mp (by omega); rw [show ((41 : Int32)).toInt = (41 : Int) from by decide, show FI486 152 = FI 152 from (gf_row f489 (c152 hS) (s152 hS) rfl (rfl)), show FI486 121 92 = FI 121 92 from ((gf_at f489 (c121 hS) (s121 hS) rfl (h5))).trans (h5).symm, show FL487 153 = FL 153 from (gf_row f490 (c153 hS) (s153 hS) rfl (rfl))] at hrp
                        have := congrArg Int32.toInt (show FI486 121 90 = x496 from h497); have := congrArg Int32.toInt (show FI486 121 101 = x499 from h500)
                        have hh := u661 (by omega); rw [show FI486 166 = FI 166 from (gf_row f489 (c166 hS) (s166 hS) rfl (rfl)), show FI486 121 90 = FI486 121 90 from (h497).trans (h497).symm, u493, show (r658).toInt = (-1 : Int) by omega] at hh
                        have hV := u494; rw [u493, hh, show au_vc (-1 :: sk (FI 166) ((FI486 121 90).toInt - 1).toNat) = au_vc (sk (FI 166) ((FI486 121 90).toInt - 1).toNat) from (by simp [au_vc])] at hV; have hgv := gg2
                        refine hw_aloadn (aX12_meansOperator 223 rfl) rfl ?_
                        refine hw_aloadn (aX12_meansOperator 224 rfl) rfl ?_
                        refine hw_get (v := .int (x496)) (aX12_meansOperator 225 rfl) wf_RX12_556 (c121 hS) (s121 hS) (by decide) (congrArg Value.int (show FI486 121 90 = x496 from h497)) ?_
                        refine hw_ic (v := (1 : Int32)) (aX12_meansOperator 226 rfl) (by decide) ?_
                        refine xw_isub (aX12_meansOperator 227 rfl) ?_
                        refine hw_tie (A := ((x496).toInt) - (1)) (i_sub rfl (by decide : (1 : Int32).toInt = 1) (by omega) (by omega)) (fun x664 e665 => ?_)
                        refine hv_puti (aX12_meansOperator 228 rfl) wf_RX12_556 (c121 hS) (s121 hS) (by decide) rfl rfl (fun FI666 u667 => ?_)
                        have rl668 : rl_wm (FI666 121 90) (FI666 165) (FI666 166) := by have z0 := congrArg Int32.toInt (show FI486 121 90 = x496 from h497); have z1 := congrArg Int32.toInt (show FI666 121 90 = x664 from up_eq u667); have := (e665 : (x664).toInt = ((x496).toInt) - (1)); rw [show FI666 165 = FI486 165 from up_row u667 (by decide) rfl, show FI666 166 = FI486 166 from up_row u667 (by decide) rfl]; exact rl_wm_mono rl495 (by omega)
                        have hI669 : g_I FI666 := gU_121_90 hI488 u667 (by have := (e665 : (x664).toInt = ((x496).toInt) - (1)); omega) (by have := (e665 : (x664).toInt = ((x496).toInt) - (1)); omega)
                        refine hw_aloadn (aX12_meansOperator 229 rfl) rfl ?_
                        refine hw_aloadn (aX12_meansOperator 230 rfl) rfl ?_
                        refine hw_get (v := .int (x4)) (aX12_meansOperator 231 rfl) wf_RX12_656 (c121 hS) (s121 hS) (by decide) (congrArg Value.int (show FI666 121 92 = x4 from (up_k u667 (by decide) ((gf_at f489 (c121 hS) (s121 hS) rfl (h5)))))) ?_
                        refine hw_ic (v := (1 : Int32)) (aX12_meansOperator 232 rfl) (by decide) ?_
                        refine xw_iadd (aX12_meansOperator 233 rfl) ?_
                        refine hw_tie (A := ((x4).toInt) + (1)) (i_add rfl (by decide : (1 : Int32).toInt = 1) (by omega) (by omega)) (fun x670 e671 => ?_)
                        refine hv_puti (aX12_meansOperator 234 rfl) wf_RX12_656 (c121 hS) (s121 hS) (by decide) rfl rfl (fun FI672 u673 => ?_)
                        have rl674 : rl_wm (FI672 121 90) (FI672 165) (FI672 166) := by rw [show FI672 165 = FI666 165 from up_row u673 (by decide) rfl, show FI672 166 = FI666 166 from up_row u673 (by decide) rfl, show FI672 121 90 = FI666 121 90 from up_k u673 (by decide) rfl]; exact rl668
                        have hI675 : g_I FI672 := gU_121_92 hI669 u673 (by have := (e671 : (x670).toInt = ((x4).toInt) + (1)); omega) (by have := (e671 : (x670).toInt = ((x4).toInt) + (1)); omega)
                        refine hw_aloadn (aX12_meansOperator 235 rfl) rfl ?_
                        refine hw_callV (Bs := []) (rest := []) (aX12_meansOperator 236 rfl) wc_RX12_712 (by decide) rfl wi_yX12_meansFinished wv_yX12_meansFinished (c121 hS) (s121 hS) rfl rfl rfl (Nat.le_of_ble_eq_true rfl) (Nat.le_of_ble_eq_true rfl) (n_meansFinished (d := d + 3) hS hF hI675 (by have := congrArg Int32.toInt (show FI672 121 101 = x499 from (up_k u673 (by decide) ((up_k u667 (by decide) (h500))))); omega) (show rl_wm (FI672 121 90) (FI672 165) (FI672 166) from rl674)) (fun v676 sv677 p678 => ?_)
                        have := congrArg Int32.toInt (show FI672 121 90 = x664 from (up_k u673 (by decide) (up_eq u667)))
                        have := (e665 : (x664).toInt = ((x496).toInt) - (1))
                        have := congrArg Int32.toInt (show FI672 121 101 = x499 from (up_k u673 (by decide) ((up_k u667 (by decide) (h500)))))
                        obtain ⟨rfl, FI680, FL681, rfl, hI682, f683, f684, t685, t686, u687, rl688⟩ := p678
                        obtain ⟨x689, h690⟩ : ∃ y, FI680 121 90 = y := ⟨_, rfl⟩
                        have h690l := congrArg Int32.toInt h690
                        have b691 := gI_121_90 hI682; rw [h690] at b691
                        have := congrArg Int32.toInt (show FI680 121 101 = x499 from (gf_at f683 (c121 hS) (s121 hS) rfl ((up_k u673 (by decide) ((up_k u667 (by decide) (h500)))))))
                        show hw zk base _ _ _ _ _ [] _ _
                        refine hw_aloadn (aX12_meansOperator 237 rfl) rfl ?_
                        refine hw_ic (v := (1 : Int32)) (aX12_meansOperator 238 rfl) (by decide) ?_
                        refine hv_putz (aX12_meansOperator 239 rfl) wf_RX12_577 (c121 hS) (s121 hS) (by decide) rfl rfl (by decide) (fun FI692 u693 => ?_)
                        have rl694 : rl_wm (FI692 121 90) (FI692 165) (FI692 166) := by rw [show FI692 165 = FI680 165 from up_row u693 (by decide) rfl, show FI692 166 = FI680 166 from up_row u693 (by decide) rfl, show FI692 121 90 = FI680 121 90 from up_k u693 (by decide) rfl]; exact rl688
                        have hI695 : g_I FI692 := gU_121_91 hI682 u693 (by have := ((by decide : (1 : Int32).toInt = 1) : ((1 : Int32)).toInt = 1); omega) (by have := ((by decide : (1 : Int32).toInt = 1) : ((1 : Int32)).toInt = 1); omega)
                        refine hw_ic (v := (1 : Int32)) (aX12_meansOperator 240 rfl) (by decide) ?_
                        refine xw_iret (aX12_meansOperator 241 rfl) rfl (by decide) ?_
                        have e696 : ((1 : Int32)).toInt = 1 := (by decide : (1 : Int32).toInt = 1)
                        exact ⟨(1 : Int32), rfl, FI692, FL681, rfl, hI695, (gf_f (gf_tr ex_rf (gf_f (gf_f (gf_tr ex_rf gf_rf f489 rfl rfl rfl) u667 (by decide)) u673 (by decide)) f683 rfl rfl rfl) u693 (by decide)), (gf_tr ex_rf (gf_tr ex_rf gf_rf f490 rfl rfl rfl) f684 rfl rfl rfl), (by have : ((1 : Int32)).toInt = 1 := (by decide); omega), (by have := congrArg Int32.toInt (show FI692 121 92 = x670 from (up_k u693 (by decide) ((gf_at f683 (c121 hS) (s121 hS) rfl (up_eq u673))))); have := (e671 : (x670).toInt = ((x4).toInt) + (1)); have := congrArg Int32.toInt (show FI692 121 91 = (1 : Int32) from up_eq u693); have := ((by decide : (1 : Int32).toInt = 1) : ((1 : Int32)).toInt = 1); have := congrArg Int32.toInt (show FI692 121 101 = x499 from (up_k u693 (by decide) ((gf_at f683 (c121 hS) (s121 hS) rfl ((up_k u673 (by decide) ((up_k u667 (by decide) (h500))))))))); have hz : (((1 : Int32))).toInt = 1 := (by decide : (1 : Int32).toInt = 1); intro q b m hst; have := congrArg Int32.toInt (show FI672 121 90 = x664 from (up_k u673 (by decide) (up_eq u667))); have := (e665 : (x664).toInt = ((x496).toInt) - (1)); have h4 := u687; rw [show FI672 166 = FI 166 from (up_row u673 (by decide) ((up_row u667 (by decide) ((gf_row f489 (c166 hS) (s166 hS) rfl (rfl)))))), show (FI672 121 90).toInt.toNat = ((FI486 121 90).toInt - 1).toNat by omega] at h4; have hm : (sk (FI692 166) (FI692 121 90).toInt.toNat) = au_fin (sk (FI 166) ((FI486 121 90).toInt - 1).toNat) := (by rw [show FI692 166 = FI 166 from (up_row u693 (by decide) ((gf_row f683 (c166 hS) (s166 hS) rfl ((up_row u673 (by decide) ((up_row u667 (by decide) ((gf_row f489 (c166 hS) (s166 hS) rfl (rfl)))))))))), show FI692 121 90 = FI680 121 90 from ((up_k u693 (by decide) (h690))).trans (h690).symm, h4]); obtain ⟨r9, e0, e1, e2, e3⟩ := au_st_rp hst hrp.1 hrp.2; subst e2; rw [hh] at e0; cases e0; refine ⟨by omega, by omega, by rw [e3]; exact hm, ?_, ?_⟩; { rw [e3, au_vc_fin, if_neg (by decide)]; omega }; { simp; omega }), (by intro he; have h9 := he.2.2; rw [hh] at h9; cases h9), (show rl_wm (FI692 121 90) (FI692 165) (FI692 166) from rl694)⟩
                  refine hw_ifeq (tgt := 383) (aX12_meansOperator 173 rfl) (by decide) rfl (fun cd697 => ?_) (fun cd697 => ?_)
                  · exact hw_L (j600 (show hid (¬ ((kf (FI 152) (FI 121 92).toInt.toNat = 5 ∧ wf (FL 153) (FI 121 92).toInt.toNat = 58) ∧ ∃ r, au_all (sk (FI 166) (FI 121 90).toInt.toNat) = -2 :: r)) from hid_i (by { rintro ⟨h, -⟩; have := (hid_e u508).mpr (by { rw [show ((58 : Int32)).toInt = (58 : Int) from by decide, show FI486 152 = FI 152 from (gf_row f489 (c152 hS) (s152 hS) rfl (rfl)), show FI486 121 92 = FI 121 92 from ((gf_at f489 (c121 hS) (s121 hS) rfl (h5))).trans (h5).symm, show FL487 153 = FL 153 from (gf_row f490 (c153 hS) (s153 hS) rfl (rfl))]; exact h }); omega }))) ⟨rfl, trivial⟩
                  · refine hw_aloadn (aX12_meansOperator 174 rfl) rfl ?_
                    refine hw_callV (Bs := []) (rest := []) (aX12_meansOperator 175 rfl) wc_RX12_559 (by decide) rfl wi_yX12_tops wv_yX12_tops (c121 hS) (s121 hS) rfl rfl rfl (Nat.le_of_ble_eq_true rfl) (Nat.le_of_ble_eq_true rfl) (n_tops (d := d + 4) hS hF hI488 ) (fun v698 sv699 p700 => ?_)
                    have := congrArg Int32.toInt (show FI486 121 90 = x496 from h497)
                    obtain ⟨r701, rfl, rfl, t703, u704, u705⟩ := p700
                    have rg_r701 := i_rng r701
                    show hw zk base _ _ _ _ _ [.int (r701)] _ _
                    refine hw_bp (v := ((-2) : Int32)) (aX12_meansOperator 176 rfl) (by decide) ?_
                    refine hw_icne (tgt := 383) (aX12_meansOperator 177 rfl) (by decide) rfl (by decide : ((-2) : Int32).toInt = (-2)) (fun cd706 => ?_) (fun cd706 => ?_)
                    · exact hw_L (j600 (show hid (¬ ((kf (FI 152) (FI 121 92).toInt.toNat = 5 ∧ wf (FL 153) (FI 121 92).toInt.toNat = 58) ∧ ∃ r, au_all (sk (FI 166) (FI 121 90).toInt.toNat) = -2 :: r)) from hid_i (by { rintro ⟨-, r, h⟩; have := congrArg Int32.toInt (show FI486 121 90 = x496 from h497); rcases Int.lt_or_le 0 (FI486 121 90).toInt with h0 | h0; { have hh := u704 (by omega); rw [show FI486 166 = FI 166 from (gf_row f489 (c166 hS) (s166 hS) rfl (rfl)), show FI486 121 90 = FI486 121 90 from (h497).trans (h497).symm, u493, h] at hh; have h9 := (List.cons.inj hh).1; omega }; { rw [← u493, show (FI486 121 90).toInt.toNat = 0 by omega] at h; cases h } }))) ⟨rfl, trivial⟩
                    · have hco := (hid_e u508).mp (by omega); rw [show ((58 : Int32)).toInt = (58 : Int) from by decide, show FI486 152 = FI 152 from (gf_row f489 (c152 hS) (s152 hS) rfl (rfl)), show FI486 121 92 = FI 121 92 from ((gf_at f489 (c121 hS) (s121 hS) rfl (h5))).trans (h5).symm, show FL487 153 = FL 153 from (gf_row f490 (c153 hS) (s153 hS) rfl (rfl))] at hco
                      have := congrArg Int32.toInt (show FI486 121 90 = x496 from h497); have := congrArg Int32.toInt (show FI486 121 101 = x499 from h500)
                      have hh := u704 (by omega); rw [show FI486 166 = FI 166 from (gf_row f489 (c166 hS) (s166 hS) rfl (rfl)), show FI486 121 90 = FI486 121 90 from (h497).trans (h497).symm, u493, show (r701).toInt = (-2 : Int) by omega] at hh
                      have hV := u494; rw [u493, hh, show au_vc (-2 :: sk (FI 166) ((FI486 121 90).toInt - 1).toNat) = au_vc (sk (FI 166) ((FI486 121 90).toInt - 1).toNat) from (by simp [au_vc])] at hV; have hgv := gg2
                      refine hw_aloadn (aX12_meansOperator 178 rfl) rfl ?_
                      refine hw_get (v := .ref (base + 166)) (aX12_meansOperator 179 rfl) wf_RX12_157 (c121 hS) (s121 hS) (by decide) (congrArg (fun r => va_rf (h_rf base r)) (r121_87 hF)) ?_
                      refine hw_aloadn (aX12_meansOperator 180 rfl) rfl ?_
                      refine hw_get (v := .int (x496)) (aX12_meansOperator 181 rfl) wf_RX12_556 (c121 hS) (s121 hS) (by decide) (congrArg Value.int (show FI486 121 90 = x496 from h497)) ?_
                      refine hw_ic (v := (1 : Int32)) (aX12_meansOperator 182 rfl) (by decide) ?_
                      refine xw_isub (aX12_meansOperator 183 rfl) ?_
                      refine hw_tie (A := ((x496).toInt) - (1)) (i_sub rfl (by decide : (1 : Int32).toInt = 1) (by omega) (by omega)) (fun x707 e708 => ?_)
                      refine hw_bp (v := ((-3) : Int32)) (aX12_meansOperator 184 rfl) (by decide) ?_
                      refine hv_iast (k := (x707).toNatClampNeg) (aX12_meansOperator 185 rfl) (c166 hS) (s166 hS) (h_in e708 (by omega) (by omega)) rfl (fun FI709 u710 => ?_)
                      have hI711 : g_I FI709 := gU_F hI488 u710 rfl
                      have rl712 : rl_wm (FI709 121 90) (FI709 165) (FI709 166) := by rw [show FI709 166 = va_up (FI486 166) ((x707).toNatClampNeg) (((-3) : Int32)) from (up_va u710 (rfl)), show FI709 165 = FI486 165 from (up_row u710 (by decide) (rfl)), show FI709 121 90 = FI486 121 90 from up_c u710 (by decide) rfl]; exact rl_wm_b rl495 (by decide)
                      refine hw_aloadn (aX12_meansOperator 186 rfl) rfl ?_
                      refine hw_aloadn (aX12_meansOperator 187 rfl) rfl ?_
                      refine hw_get (v := .ref (base + 174)) (aX12_meansOperator 188 rfl) wf_RX12_181 (c121 hS) (s121 hS) (by decide) (congrArg (fun r => va_rf (h_rf base r)) (r121_102 hF)) ?_
                      refine hw_aloadn (aX12_meansOperator 189 rfl) rfl ?_
                      refine hw_get (v := .int (x496)) (aX12_meansOperator 190 rfl) wf_RX12_556 (c121 hS) (s121 hS) (by decide) (congrArg Value.int (show FI709 121 90 = x496 from (up_c u710 (by decide) (h497)))) ?_
                      refine hw_ic (v := (1 : Int32)) (aX12_meansOperator 191 rfl) (by decide) ?_
                      refine xw_isub (aX12_meansOperator 192 rfl) ?_
                      refine hw_tie (A := ((x496).toInt) - (1)) (i_sub rfl (by decide : (1 : Int32).toInt = 1) (by omega) (by omega)) (fun x713 e714 => ?_)
                      obtain ⟨x715, h716⟩ : ∃ y, FI709 174 (x713).toNatClampNeg = y := ⟨_, rfl⟩
                      have h716l := congrArg Int32.toInt h716
                      have := i_rng x715
                      refine hw_zald (v := x715) (aX12_meansOperator 193 rfl) (c174 hS) (s174 hS) (h_in e714 (by omega) (by omega)) (show FI709 174 (x713).toNatClampNeg = x715 from h716) ?_
                      have b717 := gI_174 hI711 (i_lt (x := x713) e714 (by omega) (by omega)); rw [h716] at b717
                      have j737 : ∀ (g725 : Int32), (0 ≤ (g725).toInt ∧ (g725).toInt ≤ 1) → hw zk base (d + 5) none 267 368 [(0, .ref (base + 121))] [.int (g725), .ref (base + 121)] (n, sl, SH, FI709, FL487, FR) (h_I (fun r s => ∃ FI' FL', s = (n, sl, SH, FI', FL', FR) ∧ g_I FI' ∧ g_fr n SH [(121, 90), (121, 91), (121, 92), (121, 93), (121, 101), (121, 104)] [165, 166, 174, 175] [] FI FI' ∧ g_fr n SH [] [173] [] FL FL' ∧ (0 ≤ r.toInt ∧ r.toInt ≤ 1) ∧ (∀ q b m, au_st (kf (FI 152)) (wf (FL 153)) (FI 121 92).toInt.toNat false (sk (FI 166) (FI 121 90).toInt.toNat) q b m → r.toInt = 1 ∧ (FI' 121 92).toInt.toNat = q ∧ (sk (FI' 166) (FI' 121 90).toInt.toNat) = m ∧ (FI' 121 101).toInt = (au_vc m : Int) + (if b then 0 else 1) ∧ (FI' 121 91).toInt = (if b then 0 else 1)) ∧ (co_end (kf (FI 152)) (wf (FL 153)) (FI 121 92).toInt.toNat (sk (FI 166) (FI 121 90).toInt.toNat) → r.toInt = 0 ∧ (FI' 121 92).toInt.toNat = (FI 121 92).toInt.toNat) ∧ (rl_wm (FI' 121 90) (FI' 165) (FI' 166)))) := by
                        intro g725 q738
                        have rg_g725 := i_rng g725
                        refine hv_putz (aX12_meansOperator 206 rfl) wf_RX12_680 (c121 hS) (s121 hS) (by decide) rfl rfl (i_01 rfl (by omega) (by omega)) (fun FI739 u740 => ?_)
                        have rl741 : rl_wm (FI739 121 90) (FI739 165) (FI739 166) := by rw [show FI739 165 = FI709 165 from up_row u740 (by decide) rfl, show FI739 166 = FI709 166 from up_row u740 (by decide) rfl, show FI739 121 90 = FI709 121 90 from up_k u740 (by decide) rfl]; exact rl712
                        have hI742 : g_I FI739 := gU_121_104 hI711 u740 (by omega) (by omega)
                        refine hw_aloadn (aX12_meansOperator 207 rfl) rfl ?_
                        refine hw_aloadn (aX12_meansOperator 208 rfl) rfl ?_
                        refine hw_get (v := .int (x4)) (aX12_meansOperator 209 rfl) wf_RX12_656 (c121 hS) (s121 hS) (by decide) (congrArg Value.int (show FI739 121 92 = x4 from (up_k u740 (by decide) ((up_c u710 (by decide) ((gf_at f489 (c121 hS) (s121 hS) rfl (h5)))))))) ?_
                        refine hw_ic (v := (1 : Int32)) (aX12_meansOperator 210 rfl) (by decide) ?_
                        refine xw_iadd (aX12_meansOperator 211 rfl) ?_
                        refine hw_tie (A := ((x4).toInt) + (1)) (i_add rfl (by decide : (1 : Int32).toInt = 1) (by omega) (by omega)) (fun x743 e744 => ?_)
                        refine hv_puti (aX12_meansOperator 212 rfl) wf_RX12_656 (c121 hS) (s121 hS) (by decide) rfl rfl (fun FI745 u746 => ?_)
                        have rl747 : rl_wm (FI745 121 90) (FI745 165) (FI745 166) := by rw [show FI745 165 = FI739 165 from up_row u746 (by decide) rfl, show FI745 166 = FI739 166 from up_row u746 (by decide) rfl, show FI745 121 90 = FI739 121 90 from up_k u746 (by decide) rfl]; exact rl741
                        have hI748 : g_I FI745 := gU_121_92 hI742 u746 (by have := (e744 : (x743).toInt = ((x4).toInt) + (1)); omega) (by have := (e744 : (x743).toInt = ((x4).toInt) + (1)); omega)
                        refine hw_ic (v := (1 : Int32)) (aX12_meansOperator 213 rfl) (by decide) ?_
                        refine xw_iret (aX12_meansOperator 214 rfl) rfl (by decide) ?_
                        have e749 : ((1 : Int32)).toInt = 1 := (by decide : (1 : Int32).toInt = 1)
                        exact ⟨(1 : Int32), rfl, FI745, FL487, rfl, hI748, (gf_f (gf_f (gf_a (gf_tr ex_rf gf_rf f489 rfl rfl rfl) u710 (by decide)) u740 (by decide)) u746 (by decide)), (gf_tr ex_rf gf_rf f490 rfl rfl rfl), (by have : ((1 : Int32)).toInt = 1 := (by decide); omega), (by have := congrArg Int32.toInt (show FI745 121 92 = x743 from up_eq u746); have := (e744 : (x743).toInt = ((x4).toInt) + (1)); have := congrArg Int32.toInt (show FI745 121 91 = x7 from (up_k u746 (by decide) ((up_k u740 (by decide) ((up_c u710 (by decide) ((gf_at f489 (c121 hS) (s121 hS) rfl (h8))))))))); have := congrArg Int32.toInt (show FI745 121 101 = x499 from (up_k u746 (by decide) ((up_k u740 (by decide) ((up_c u710 (by decide) (h500))))))); have hz : (((1 : Int32))).toInt = 1 := (by decide : (1 : Int32).toInt = 1); intro q b m hst; have hm : (sk (FI745 166) (FI745 121 90).toInt.toNat) = -3 :: sk (FI 166) ((FI486 121 90).toInt - 1).toNat := (by rw [show FI745 166 = va_up (FI 166) ((x707).toNatClampNeg) (((-3) : Int32)) from (up_row u746 (by decide) ((up_row u740 (by decide) ((up_va u710 ((gf_row f489 (c166 hS) (s166 hS) rfl (rfl)))))))), show FI745 121 90 = x496 from (up_k u746 (by decide) ((up_k u740 (by decide) ((up_c u710 (by decide) (h497)))))), sk_pop (w := x496) (i := x707) (by omega) (by omega)]; rw [i_cl (x := x707) (A := (x496).toInt - 1) (by omega), sk_up (Nat.le_refl _), show FI486 121 90 = x496 from h497]; simp [va_up]); obtain ⟨r9, e0, e1, e2, e3⟩ := au_st_co hst hco.1 hco.2; subst e2; rw [hh] at e0; cases e0; refine ⟨by omega, by omega, by rw [e3]; exact hm, ?_, ?_⟩; { rw [e3, show au_vc (-3 :: sk (FI 166) ((FI486 121 90).toInt - 1).toNat) = 1 + au_vc (sk (FI 166) ((FI486 121 90).toInt - 1).toNat) from (by simp [au_vc])]; simp only [if_true]; omega }; { simp; omega }), (by intro he; have h9 := he.2.2; rw [hh] at h9; cases h9), (show rl_wm (FI745 121 90) (FI745 165) (FI745 166) from rl747)⟩
                      refine hw_ifeq (tgt := 367) (aX12_meansOperator 194 rfl) (by decide) rfl (fun cd750 => ?_) (fun cd750 => ?_)
                      · refine hw_ic (v := (0 : Int32)) (aX12_meansOperator 205 rfl) (by decide) ?_
                        exact hw_L (j737 ((0 : Int32)) (by have := ((by decide : (0 : Int32).toInt = 0) : ((0 : Int32)).toInt = 0); show 0 ≤ ((0 : Int32)).toInt ∧ ((0 : Int32)).toInt ≤ 1; omega)) ⟨rfl, trivial⟩
                      · refine hw_aloadn (aX12_meansOperator 195 rfl) rfl ?_
                        refine hw_get (v := .ref (base + 175)) (aX12_meansOperator 196 rfl) wf_RX12_184 (c121 hS) (s121 hS) (by decide) (congrArg (fun r => va_rf (h_rf base r)) (r121_103 hF)) ?_
                        refine hw_aloadn (aX12_meansOperator 197 rfl) rfl ?_
                        refine hw_get (v := .int (x496)) (aX12_meansOperator 198 rfl) wf_RX12_556 (c121 hS) (s121 hS) (by decide) (congrArg Value.int (show FI709 121 90 = x496 from (up_c u710 (by decide) (h497)))) ?_
                        refine hw_ic (v := (1 : Int32)) (aX12_meansOperator 199 rfl) (by decide) ?_
                        refine xw_isub (aX12_meansOperator 200 rfl) ?_
                        refine hw_tie (A := ((x496).toInt) - (1)) (i_sub rfl (by decide : (1 : Int32).toInt = 1) (by omega) (by omega)) (fun x751 e752 => ?_)
                        obtain ⟨x753, h754⟩ : ∃ y, FI709 175 (x751).toNatClampNeg = y := ⟨_, rfl⟩
                        have h754l := congrArg Int32.toInt h754
                        have := i_rng x753
                        refine hw_zald (v := x753) (aX12_meansOperator 201 rfl) (c175 hS) (s175 hS) (h_in e752 (by omega) (by omega)) (show FI709 175 (x751).toNatClampNeg = x753 from h754) ?_
                        have b755 := gI_175 hI711 (i_lt (x := x751) e752 (by omega) (by omega)); rw [h754] at b755
                        refine hw_ifne (tgt := 367) (aX12_meansOperator 202 rfl) (by decide) rfl (fun cd756 => ?_) (fun cd756 => ?_)
                        · refine hw_ic (v := (0 : Int32)) (aX12_meansOperator 205 rfl) (by decide) ?_
                          exact hw_L (j737 ((0 : Int32)) (by have := ((by decide : (0 : Int32).toInt = 0) : ((0 : Int32)).toInt = 0); show 0 ≤ ((0 : Int32)).toInt ∧ ((0 : Int32)).toInt ≤ 1; omega)) ⟨rfl, trivial⟩
                        · refine hw_ic (v := (1 : Int32)) (aX12_meansOperator 203 rfl) (by decide) ?_
                          refine xw_goto (tgt := 368) (aX12_meansOperator 204 rfl) (by decide) ?_
                          exact hw_L (j737 ((1 : Int32)) (by have := ((by decide : (1 : Int32).toInt = 1) : ((1 : Int32)).toInt = 1); show 0 ≤ ((1 : Int32)).toInt ∧ ((1 : Int32)).toInt ≤ 1; omega)) ⟨rfl, trivial⟩
                · have hqm := (hid_e u480).mp (by omega); rw [show ((63 : Int32)).toInt = (63 : Int) from by decide] at hqm; have hb : au_bn (kf (FI 152) (FI 121 92).toInt.toNat) (wf (FL 153) (FI 121 92).toInt.toNat) = 0 := (by rw [hqm.1, hqm.2]; decide)
                  refine hw_aloadn (aX12_meansOperator 104 rfl) rfl ?_
                  refine hw_ic (v := (1 : Int32)) (aX12_meansOperator 105 rfl) (by decide) ?_
                  refine hw_callV (Bs := [.int ((1 : Int32))]) (rest := []) (aX12_meansOperator 106 rfl) wc_RX12_715 (by decide) rfl wi_yX12_meansReduced wv_yX12_meansReduced (c121 hS) (s121 hS) rfl rfl rfl (Nat.le_of_ble_eq_true rfl) (Nat.le_of_ble_eq_true rfl) (n_meansReduced (d := d + 1) hS hF hI ((1 : Int32)) (by have := ((by decide : (1 : Int32).toInt = 1) : ((1 : Int32)).toInt = 1); have := ((by decide : (1 : Int32).toInt = 1) : ((1 : Int32)).toInt = 1); omega) (gg0) (gg1) ((by have := gg2; omega)) (show rl_wm (FI 121 90) (FI 165) (FI 166) from rel_wm)) (fun v757 sv758 p759 => ?_)
                  have := congrArg Int32.toInt (show FI 121 90 = x1 from h2)
                  have := congrArg Int32.toInt (show FI 121 101 = x10 from h11)
                  obtain ⟨rfl, FI761, FL762, rfl, hI763, f764, f765, t766, t767, u768, u769, rl770⟩ := p759
                  obtain ⟨x771, h772⟩ : ∃ y, FI761 121 90 = y := ⟨_, rfl⟩
                  have h772l := congrArg Int32.toInt h772
                  have b773 := gI_121_90 hI763; rw [h772] at b773
                  obtain ⟨x774, h775⟩ : ∃ y, FI761 121 101 = y := ⟨_, rfl⟩
                  have h775l := congrArg Int32.toInt h775
                  have b776 := gI_121_101 hI763; rw [h775] at b776
                  show hw zk base _ _ _ _ _ [] _ _
                  refine hw_aloadn (aX12_meansOperator 107 rfl) rfl ?_
                  refine hw_aloadn (aX12_meansOperator 108 rfl) rfl ?_
                  refine hw_get (v := .int (x774)) (aX12_meansOperator 109 rfl) wf_RX12_683 (c121 hS) (s121 hS) (by decide) (congrArg Value.int (show FI761 121 101 = x774 from h775)) ?_
                  refine hw_ic (v := (1 : Int32)) (aX12_meansOperator 110 rfl) (by decide) ?_
                  refine xw_isub (aX12_meansOperator 111 rfl) ?_
                  refine hw_tie (A := ((x774).toInt) - (1)) (i_sub rfl (by decide : (1 : Int32).toInt = 1) (by omega) (by omega)) (fun x777 e778 => ?_)
                  refine hv_puti (aX12_meansOperator 112 rfl) wf_RX12_683 (c121 hS) (s121 hS) (by decide) rfl rfl (fun FI779 u780 => ?_)
                  have rl781 : rl_wm (FI779 121 90) (FI779 165) (FI779 166) := by rw [show FI779 165 = FI761 165 from up_row u780 (by decide) rfl, show FI779 166 = FI761 166 from up_row u780 (by decide) rfl, show FI779 121 90 = FI761 121 90 from up_k u780 (by decide) rfl]; exact rl770
                  have hI782 : g_I FI779 := gU_121_101 hI763 u780 (by have := (e778 : (x777).toInt = ((x774).toInt) - (1)); omega) (by have := (e778 : (x777).toInt = ((x774).toInt) - (1)); omega)
                  refine hw_aloadn (aX12_meansOperator 113 rfl) rfl ?_
                  refine hw_ic (v := (0 : Int32)) (aX12_meansOperator 114 rfl) (by decide) ?_
                  refine hw_bp (v := ((-2) : Int32)) (aX12_meansOperator 115 rfl) (by decide) ?_
                  refine hw_callV (Bs := [.int ((0 : Int32)), .int (((-2) : Int32))]) (rest := []) (aX12_meansOperator 116 rfl) wc_RX12_580 (by decide) rfl wi_yX12_later wv_yX12_later (c121 hS) (s121 hS) rfl rfl rfl (Nat.le_of_ble_eq_true rfl) (Nat.le_of_ble_eq_true rfl) (n_laterm (d := d + 4) hS hF hI782 ((0 : Int32)) (((-2) : Int32)) (by have := congrArg Int32.toInt (show FI779 121 90 = x771 from (up_k u780 (by decide) (h772))); omega) (by have := ((by decide : ((-2) : Int32).toInt = (-2)) : (((-2) : Int32)).toInt = (-2)); have := ((by decide : (0 : Int32).toInt = 0) : ((0 : Int32)).toInt = 0); have := ((by decide : (0 : Int32).toInt = 0) : ((0 : Int32)).toInt = 0); have := ((by decide : (0 : Int32).toInt = 0) : ((0 : Int32)).toInt = 0); have := ((by decide : (0 : Int32).toInt = 0) : ((0 : Int32)).toInt = 0); have := ((by decide : (0 : Int32).toInt = 0) : ((0 : Int32)).toInt = 0); omega) (show rl_wm (FI779 121 90) (FI779 165) (FI779 166) from rl781)) (fun v783 sv784 p785 => ?_)
                  have := congrArg Int32.toInt (show FI779 121 90 = x771 from (up_k u780 (by decide) (h772)))
                  obtain ⟨rfl, FI787, rfl, hI788, f789, t790, u791, u792, rl793⟩ := p785
                  obtain ⟨x794, h795⟩ : ∃ y, FI787 121 90 = y := ⟨_, rfl⟩
                  have h795l := congrArg Int32.toInt h795
                  have b796 := gI_121_90 hI788; rw [h795] at b796
                  show hw zk base _ _ _ _ _ [] _ _
                  refine hw_aloadn (aX12_meansOperator 117 rfl) rfl ?_
                  refine hw_get (v := .ref (base + 174)) (aX12_meansOperator 118 rfl) wf_RX12_181 (c121 hS) (s121 hS) (by decide) (congrArg (fun r => va_rf (h_rf base r)) (r121_102 hF)) ?_
                  refine hw_aloadn (aX12_meansOperator 119 rfl) rfl ?_
                  refine hw_get (v := .int (x794)) (aX12_meansOperator 120 rfl) wf_RX12_556 (c121 hS) (s121 hS) (by decide) (congrArg Value.int (show FI787 121 90 = x794 from h795)) ?_
                  refine hw_ic (v := (1 : Int32)) (aX12_meansOperator 121 rfl) (by decide) ?_
                  refine xw_isub (aX12_meansOperator 122 rfl) ?_
                  refine hw_tie (A := ((x794).toInt) - (1)) (i_sub rfl (by decide : (1 : Int32).toInt = 1) (by omega) (by omega)) (fun x797 e798 => ?_)
                  refine hw_aloadn (aX12_meansOperator 123 rfl) rfl ?_
                  obtain ⟨x799, h800⟩ : ∃ y, FI787 121 104 = y := ⟨_, rfl⟩
                  have h800l := congrArg Int32.toInt h800
                  have b801 := gI_121_104 hI788; rw [h800] at b801
                  refine hw_get (v := .int (x799)) (aX12_meansOperator 124 rfl) wf_RX12_680 (c121 hS) (s121 hS) (by decide) (congrArg Value.int (show FI787 121 104 = x799 from h800)) ?_
                  obtain ⟨x804, h805, g806⟩ := i_nb (x := x799)
                  have : 0 ≤ (x804).toInt ∧ (x804).toInt ≤ 1 := by rcases g806 with rfl | rfl <;> decide
                  refine hv_zast (w := x804) (k := (x797).toNatClampNeg) (aX12_meansOperator 125 rfl) (c174 hS) (s174 hS) (h_in e798 (by omega) (by omega)) rfl h805 (fun FI802 u803 => ?_)
                  have rl807 : rl_wm (FI802 121 90) (FI802 165) (FI802 166) := by rw [show FI802 165 = FI787 165 from up_row u803 (by decide) rfl, show FI802 166 = FI787 166 from up_row u803 (by decide) rfl, show FI802 121 90 = FI787 121 90 from up_c u803 (by decide) rfl]; exact rl793
                  have hI808 : g_I FI802 := gU_174 hI788 u803 (by omega) (by omega)
                  refine hw_aloadn (aX12_meansOperator 126 rfl) rfl ?_
                  refine hw_get (v := .ref (base + 175)) (aX12_meansOperator 127 rfl) wf_RX12_184 (c121 hS) (s121 hS) (by decide) (congrArg (fun r => va_rf (h_rf base r)) (r121_103 hF)) ?_
                  refine hw_aloadn (aX12_meansOperator 128 rfl) rfl ?_
                  refine hw_get (v := .int (x794)) (aX12_meansOperator 129 rfl) wf_RX12_556 (c121 hS) (s121 hS) (by decide) (congrArg Value.int (show FI802 121 90 = x794 from (up_c u803 (by decide) (h795)))) ?_
                  refine hw_ic (v := (1 : Int32)) (aX12_meansOperator 130 rfl) (by decide) ?_
                  refine xw_isub (aX12_meansOperator 131 rfl) ?_
                  refine hw_tie (A := ((x794).toInt) - (1)) (i_sub rfl (by decide : (1 : Int32).toInt = 1) (by omega) (by omega)) (fun x809 e810 => ?_)
                  refine hw_aloadn (aX12_meansOperator 132 rfl) rfl ?_
                  refine hw_get (v := .ref (base + 173)) (aX12_meansOperator 133 rfl) wf_RX12_178 (c121 hS) (s121 hS) (by decide) (congrArg (fun r => va_rf (h_rf base r)) (r121_100 hF)) ?_
                  refine hw_aloadn (aX12_meansOperator 134 rfl) rfl ?_
                  refine hw_get (v := .int (x777)) (aX12_meansOperator 135 rfl) wf_RX12_683 (c121 hS) (s121 hS) (by decide) (congrArg Value.int (show FI802 121 101 = x777 from (up_c u803 (by decide) ((gf_at f789 (c121 hS) (s121 hS) rfl (up_eq u780)))))) ?_
                  obtain ⟨x811, h812⟩ : ∃ y, FL762 173 (x777).toNatClampNeg = y := ⟨_, rfl⟩
                  have h812l := congrArg Int64.toInt h812
                  have := l_rng x811
                  refine hw_lald (v := x811) (aX12_meansOperator 136 rfl) (c173 hS) (s173 hS) (h_in e778 (by omega) (by omega)) (show FL762 173 (x777).toNatClampNeg = x811 from h812) ?_
                  refine hw_lc (v := (0 : Int64)) (aX12_meansOperator 137 rfl) (by decide) ?_
                  have j836 : ∀ (g814 : Int32), (0 ≤ (g814).toInt ∧ (g814).toInt ≤ 1) → hw zk base (d + 5) none 267 256 [(0, .ref (base + 121))] [.int (g814), .int (x809), .ref (base + 175)] (n, sl, SH, FI802, FL762, FR) (h_I (fun r s => ∃ FI' FL', s = (n, sl, SH, FI', FL', FR) ∧ g_I FI' ∧ g_fr n SH [(121, 90), (121, 91), (121, 92), (121, 93), (121, 101), (121, 104)] [165, 166, 174, 175] [] FI FI' ∧ g_fr n SH [] [173] [] FL FL' ∧ (0 ≤ r.toInt ∧ r.toInt ≤ 1) ∧ (∀ q b m, au_st (kf (FI 152)) (wf (FL 153)) (FI 121 92).toInt.toNat false (sk (FI 166) (FI 121 90).toInt.toNat) q b m → r.toInt = 1 ∧ (FI' 121 92).toInt.toNat = q ∧ (sk (FI' 166) (FI' 121 90).toInt.toNat) = m ∧ (FI' 121 101).toInt = (au_vc m : Int) + (if b then 0 else 1) ∧ (FI' 121 91).toInt = (if b then 0 else 1)) ∧ (co_end (kf (FI 152)) (wf (FL 153)) (FI 121 92).toInt.toNat (sk (FI 166) (FI 121 90).toInt.toNat) → r.toInt = 0 ∧ (FI' 121 92).toInt.toNat = (FI 121 92).toInt.toNat) ∧ (rl_wm (FI' 121 90) (FI' 165) (FI' 166)))) := by
                    intro g814 q837
                    have rg_g814 := i_rng g814
                    obtain ⟨x840, h841, g842⟩ := i_nb (x := g814)
                    have : 0 ≤ (x840).toInt ∧ (x840).toInt ≤ 1 := by rcases g842 with rfl | rfl <;> decide
                    refine hv_zast (w := x840) (k := (x809).toNatClampNeg) (aX12_meansOperator 143 rfl) (c175 hS) (s175 hS) (h_in e810 (by omega) (by omega)) rfl h841 (fun FI838 u839 => ?_)
                    have rl843 : rl_wm (FI838 121 90) (FI838 165) (FI838 166) := by rw [show FI838 165 = FI802 165 from up_row u839 (by decide) rfl, show FI838 166 = FI802 166 from up_row u839 (by decide) rfl, show FI838 121 90 = FI802 121 90 from up_c u839 (by decide) rfl]; exact rl807
                    have hI844 : g_I FI838 := gU_175 hI808 u839 (by omega) (by omega)
                    refine hw_aloadn (aX12_meansOperator 144 rfl) rfl ?_
                    refine hw_aloadn (aX12_meansOperator 145 rfl) rfl ?_
                    refine hw_get (v := .int (x799)) (aX12_meansOperator 146 rfl) wf_RX12_680 (c121 hS) (s121 hS) (by decide) (congrArg Value.int (show FI838 121 104 = x799 from (up_c u839 (by decide) ((up_c u803 (by decide) (h800)))))) ?_
                    have j859 : ∀ (g847 : Int32), (0 ≤ (g847).toInt ∧ (g847).toInt ≤ 1) → hw zk base (d + 5) none 267 284 [(0, .ref (base + 121))] [.int (g847), .ref (base + 121)] (n, sl, SH, FI838, FL762, FR) (h_I (fun r s => ∃ FI' FL', s = (n, sl, SH, FI', FL', FR) ∧ g_I FI' ∧ g_fr n SH [(121, 90), (121, 91), (121, 92), (121, 93), (121, 101), (121, 104)] [165, 166, 174, 175] [] FI FI' ∧ g_fr n SH [] [173] [] FL FL' ∧ (0 ≤ r.toInt ∧ r.toInt ≤ 1) ∧ (∀ q b m, au_st (kf (FI 152)) (wf (FL 153)) (FI 121 92).toInt.toNat false (sk (FI 166) (FI 121 90).toInt.toNat) q b m → r.toInt = 1 ∧ (FI' 121 92).toInt.toNat = q ∧ (sk (FI' 166) (FI' 121 90).toInt.toNat) = m ∧ (FI' 121 101).toInt = (au_vc m : Int) + (if b then 0 else 1) ∧ (FI' 121 91).toInt = (if b then 0 else 1)) ∧ (co_end (kf (FI 152)) (wf (FL 153)) (FI 121 92).toInt.toNat (sk (FI 166) (FI 121 90).toInt.toNat) → r.toInt = 0 ∧ (FI' 121 92).toInt.toNat = (FI 121 92).toInt.toNat) ∧ (rl_wm (FI' 121 90) (FI' 165) (FI' 166)))) := by
                      intro g847 q860
                      have rg_g847 := i_rng g847
                      refine hv_putz (aX12_meansOperator 159 rfl) wf_RX12_680 (c121 hS) (s121 hS) (by decide) rfl rfl (i_01 rfl (by omega) (by omega)) (fun FI861 u862 => ?_)
                      have rl863 : rl_wm (FI861 121 90) (FI861 165) (FI861 166) := by rw [show FI861 165 = FI838 165 from up_row u862 (by decide) rfl, show FI861 166 = FI838 166 from up_row u862 (by decide) rfl, show FI861 121 90 = FI838 121 90 from up_k u862 (by decide) rfl]; exact rl843
                      have hI864 : g_I FI861 := gU_121_104 hI844 u862 (by omega) (by omega)
                      refine hw_aloadn (aX12_meansOperator 160 rfl) rfl ?_
                      refine hw_aloadn (aX12_meansOperator 161 rfl) rfl ?_
                      refine hw_get (v := .int (x4)) (aX12_meansOperator 162 rfl) wf_RX12_656 (c121 hS) (s121 hS) (by decide) (congrArg Value.int (show FI861 121 92 = x4 from (up_k u862 (by decide) ((up_c u839 (by decide) ((up_c u803 (by decide) ((gf_at f789 (c121 hS) (s121 hS) rfl ((up_k u780 (by decide) ((gf_at f764 (c121 hS) (s121 hS) rfl (h5)))))))))))))) ?_
                      refine hw_ic (v := (1 : Int32)) (aX12_meansOperator 163 rfl) (by decide) ?_
                      refine xw_iadd (aX12_meansOperator 164 rfl) ?_
                      refine hw_tie (A := ((x4).toInt) + (1)) (i_add rfl (by decide : (1 : Int32).toInt = 1) (by omega) (by omega)) (fun x865 e866 => ?_)
                      refine hv_puti (aX12_meansOperator 165 rfl) wf_RX12_656 (c121 hS) (s121 hS) (by decide) rfl rfl (fun FI867 u868 => ?_)
                      have rl869 : rl_wm (FI867 121 90) (FI867 165) (FI867 166) := by rw [show FI867 165 = FI861 165 from up_row u868 (by decide) rfl, show FI867 166 = FI861 166 from up_row u868 (by decide) rfl, show FI867 121 90 = FI861 121 90 from up_k u868 (by decide) rfl]; exact rl863
                      have hI870 : g_I FI867 := gU_121_92 hI864 u868 (by have := (e866 : (x865).toInt = ((x4).toInt) + (1)); omega) (by have := (e866 : (x865).toInt = ((x4).toInt) + (1)); omega)
                      refine hw_ic (v := (1 : Int32)) (aX12_meansOperator 166 rfl) (by decide) ?_
                      refine xw_iret (aX12_meansOperator 167 rfl) rfl (by decide) ?_
                      have e871 : ((1 : Int32)).toInt = 1 := (by decide : (1 : Int32).toInt = 1)
                      exact ⟨(1 : Int32), rfl, FI867, FL762, rfl, hI870, (gf_f (gf_f (gf_a (gf_a (gf_tr ex_rf (gf_f (gf_tr ex_rf gf_rf f764 rfl rfl rfl) u780 (by decide)) f789 rfl rfl rfl) u803 (by decide)) u839 (by decide)) u862 (by decide)) u868 (by decide)), (gf_tr ex_rf gf_rf f765 rfl rfl rfl), (by have : ((1 : Int32)).toInt = 1 := (by decide); omega), (by have := congrArg Int32.toInt (show FI867 121 92 = x865 from up_eq u868); have := (e866 : (x865).toInt = ((x4).toInt) + (1)); have := congrArg Int32.toInt (show FI867 121 91 = x7 from (up_k u868 (by decide) ((up_k u862 (by decide) ((up_c u839 (by decide) ((up_c u803 (by decide) ((gf_at f789 (c121 hS) (s121 hS) rfl ((up_k u780 (by decide) ((gf_at f764 (c121 hS) (s121 hS) rfl (h8))))))))))))))); have := congrArg Int32.toInt (show FI867 121 101 = x777 from (up_k u868 (by decide) ((up_k u862 (by decide) ((up_c u839 (by decide) ((up_c u803 (by decide) ((gf_at f789 (c121 hS) (s121 hS) rfl (up_eq u780))))))))))); have := (e778 : (x777).toInt = ((x774).toInt) - (1)); have hz : (((1 : Int32))).toInt = 1 := (by decide : (1 : Int32).toInt = 1); intro q b m hst; have hH := u768; rw [show ((1 : Int32)).toInt = (1 : Int) from by decide] at hH; have hm : (sk (FI867 166) (FI867 121 90).toInt.toNat) = -2 :: au_red 1 (sk (FI 166) (FI 121 90).toInt.toNat) := (by rw [show FI867 166 = FI787 166 from (up_row u868 (by decide) ((up_row u862 (by decide) ((up_row u839 (by decide) ((up_row u803 (by decide) (rfl)))))))), show FI867 121 90 = FI787 121 90 from ((up_k u868 (by decide) ((up_k u862 (by decide) ((up_c u839 (by decide) ((up_c u803 (by decide) (h795))))))))).trans (h795).symm, u792, show FI779 166 = FI 166 from (up_row u780 (by decide) ((gf_row f764 (c166 hS) (s166 hS) rfl (rfl)))), show FI779 121 90 = FI761 121 90 from ((up_k u780 (by decide) (h772))).trans (h772).symm, hH, show ((-2 : Int32)).toInt = (-2 : Int) from by decide]); have hV := u769; rw [hH] at hV; have := congrArg Int32.toInt (show FI761 121 101 = x774 from h775); have hgv := gg2; obtain ⟨e1, e2, e3⟩ := au_st_qm hst hqm.1 hqm.2; subst e2; refine ⟨by omega, by omega, by rw [e3]; exact hm, ?_, ?_⟩; { rw [e3, show au_vc (-2 :: au_red 1 (sk (FI 166) (FI 121 90).toInt.toNat)) = au_vc (au_red 1 (sk (FI 166) (FI 121 90).toInt.toNat)) from (by simp [au_vc])]; simp only [if_true]; omega }; { simp; omega }), (by intro he; exact absurd hqm he.2.1), (show rl_wm (FI867 121 90) (FI867 165) (FI867 166) from rl869)⟩
                    refine hw_ifeq (tgt := 283) (aX12_meansOperator 147 rfl) (by decide) rfl (fun cd872 => ?_) (fun cd872 => ?_)
                    · refine hw_ic (v := (0 : Int32)) (aX12_meansOperator 158 rfl) (by decide) ?_
                      exact hw_L (j859 ((0 : Int32)) (by have := ((by decide : (0 : Int32).toInt = 0) : ((0 : Int32)).toInt = 0); show 0 ≤ ((0 : Int32)).toInt ∧ ((0 : Int32)).toInt ≤ 1; omega)) ⟨rfl, trivial⟩
                    · refine hw_aloadn (aX12_meansOperator 148 rfl) rfl ?_
                      refine hw_get (v := .ref (base + 173)) (aX12_meansOperator 149 rfl) wf_RX12_178 (c121 hS) (s121 hS) (by decide) (congrArg (fun r => va_rf (h_rf base r)) (r121_100 hF)) ?_
                      refine hw_aloadn (aX12_meansOperator 150 rfl) rfl ?_
                      refine hw_get (v := .int (x777)) (aX12_meansOperator 151 rfl) wf_RX12_683 (c121 hS) (s121 hS) (by decide) (congrArg Value.int (show FI838 121 101 = x777 from (up_c u839 (by decide) ((up_c u803 (by decide) ((gf_at f789 (c121 hS) (s121 hS) rfl (up_eq u780)))))))) ?_
                      refine hw_lald (v := x811) (aX12_meansOperator 152 rfl) (c173 hS) (s173 hS) (h_in e778 (by omega) (by omega)) (show FL762 173 (x777).toNatClampNeg = x811 from h812) ?_
                      refine hw_lc (v := (0 : Int64)) (aX12_meansOperator 153 rfl) (by decide) ?_
                      refine hw_lceq (tgt := 283) (aX12_meansOperator 154 rfl) (aX12_meansOperator 155 rfl) (by decide) rfl (by decide : (0 : Int64).toInt = 0) (fun cd873 => ?_) (fun cd873 => ?_)
                      · refine hw_ic (v := (0 : Int32)) (aX12_meansOperator 158 rfl) (by decide) ?_
                        exact hw_L (j859 ((0 : Int32)) (by have := ((by decide : (0 : Int32).toInt = 0) : ((0 : Int32)).toInt = 0); show 0 ≤ ((0 : Int32)).toInt ∧ ((0 : Int32)).toInt ≤ 1; omega)) ⟨rfl, trivial⟩
                      · refine hw_ic (v := (1 : Int32)) (aX12_meansOperator 156 rfl) (by decide) ?_
                        refine xw_goto (tgt := 284) (aX12_meansOperator 157 rfl) (by decide) ?_
                        exact hw_L (j859 ((1 : Int32)) (by have := ((by decide : (1 : Int32).toInt = 1) : ((1 : Int32)).toInt = 1); show 0 ≤ ((1 : Int32)).toInt ∧ ((1 : Int32)).toInt ≤ 1; omega)) ⟨rfl, trivial⟩
                  refine hw_lceq (tgt := 255) (aX12_meansOperator 138 rfl) (aX12_meansOperator 139 rfl) (by decide) rfl (by decide : (0 : Int64).toInt = 0) (fun cd874 => ?_) (fun cd874 => ?_)
                  · refine hw_ic (v := (0 : Int32)) (aX12_meansOperator 142 rfl) (by decide) ?_
                    exact hw_L (j836 ((0 : Int32)) (by have := ((by decide : (0 : Int32).toInt = 0) : ((0 : Int32)).toInt = 0); show 0 ≤ ((0 : Int32)).toInt ∧ ((0 : Int32)).toInt ≤ 1; omega)) ⟨rfl, trivial⟩
                  · refine hw_ic (v := (1 : Int32)) (aX12_meansOperator 140 rfl) (by decide) ?_
                    refine xw_goto (tgt := 256) (aX12_meansOperator 141 rfl) (by decide) ?_
                    exact hw_L (j836 ((1 : Int32)) (by have := ((by decide : (1 : Int32).toInt = 1) : ((1 : Int32)).toInt = 1); show 0 ≤ ((1 : Int32)).toInt ∧ ((1 : Int32)).toInt ≤ 1; omega)) ⟨rfl, trivial⟩
              · have hq := (hid_e u472).mp (by omega); rw [show ((124 : Int32)).toInt = (124 : Int) from by decide] at hq; have hb : au_bn (kf (FI 152) (FI 121 92).toInt.toNat) (wf (FL 153) (FI 121 92).toInt.toNat) = 1 := au_bn_1.mpr hq
                refine hw_aloadn (aX12_meansOperator 95 rfl) rfl ?_
                refine hw_bp (v := (33 : Int32)) (aX12_meansOperator 96 rfl) (by decide) ?_
                refine hw_ic (v := (1 : Int32)) (aX12_meansOperator 97 rfl) (by decide) ?_
                refine hw_callV (Bs := [.int ((33 : Int32)), .int ((1 : Int32))]) (rest := []) (aX12_meansOperator 98 rfl) wc_RX12_718 (by decide) rfl wi_yX12_meansBinary wv_yX12_meansBinary (c121 hS) (s121 hS) rfl rfl rfl (Nat.le_of_ble_eq_true rfl) (Nat.le_of_ble_eq_true rfl) (n_meansBinary (d := d) hS hF hI ((33 : Int32)) ((1 : Int32)) (by have := congrArg Int32.toInt (show FI 121 90 = x1 from h2); omega) (by have := congrArg Int32.toInt (show FI 121 92 = x4 from h5); omega) (by have := ((by decide : (1 : Int32).toInt = 1) : ((1 : Int32)).toInt = 1); have := ((by decide : (1 : Int32).toInt = 1) : ((1 : Int32)).toInt = 1); omega) (gg0) (gg1) (gg2) (show rl_wm (FI 121 90) (FI 165) (FI 166) from rel_wm)) (fun v875 sv876 p877 => ?_)
                have := congrArg Int32.toInt (show FI 121 92 = x4 from h5)
                have := congrArg Int32.toInt (show FI 121 90 = x1 from h2)
                obtain ⟨r878, rfl, FI879, FL880, rfl, hI881, f882, f883, t884, t885, t886, t887, u888, u889, rl890⟩ := p877
                obtain ⟨x891, h892⟩ : ∃ y, FI879 121 92 = y := ⟨_, rfl⟩
                have h892l := congrArg Int32.toInt h892
                have b893 := gI_121_92 hI881; rw [h892] at b893
                obtain ⟨x894, h895⟩ : ∃ y, FI879 121 90 = y := ⟨_, rfl⟩
                have h895l := congrArg Int32.toInt h895
                have b896 := gI_121_90 hI881; rw [h895] at b896
                show hw zk base _ _ _ _ _ [.int (r878)] _ _
                refine xw_iret (aX12_meansOperator 99 rfl) rfl (i_nz rfl (by omega) (by omega)) ?_
                exact ⟨r878, rfl, FI879, FL880, rfl, hI881, (gf_tr ex_rf gf_rf f882 rfl rfl rfl), (gf_tr ex_rf gf_rf f883 rfl rfl rfl), (by omega), (by have := congrArg Int32.toInt (show FI879 121 92 = x891 from h892); have := congrArg Int32.toInt (show FI879 121 91 = x7 from (gf_at f882 (c121 hS) (s121 hS) rfl (h8))); have hz : ((r878)).toInt = (r878).toInt := rfl; intro q b m hst; obtain ⟨e1, e2, e3⟩ := au_st_bin hst hb (by decide); subst e2; have hm := u888; rw [show ((1 : Int32)).toInt = (1 : Int) from by decide] at hm; refine ⟨by omega, by omega, by rw [e3]; exact hm, ?_, ?_⟩; { have hV := u889; rw [hm] at hV; rw [e3]; simpa using hV }; { simp; omega }), (by intro he; exact absurd he.1 (by rw [hb]; decide)), (show rl_wm (FI879 121 90) (FI879 165) (FI879 166) from rl890)⟩
            · have hq := (hid_e u464).mp (by omega); rw [show ((94 : Int32)).toInt = (94 : Int) from by decide] at hq; have hb : au_bn (kf (FI 152) (FI 121 92).toInt.toNat) (wf (FL 153) (FI 121 92).toInt.toNat) = 2 := au_bn_2.mpr hq
              refine hw_aloadn (aX12_meansOperator 86 rfl) rfl ?_
              refine hw_bp (v := (39 : Int32)) (aX12_meansOperator 87 rfl) (by decide) ?_
              refine hw_ic (v := (2 : Int32)) (aX12_meansOperator 88 rfl) (by decide) ?_
              refine hw_callV (Bs := [.int ((39 : Int32)), .int ((2 : Int32))]) (rest := []) (aX12_meansOperator 89 rfl) wc_RX12_718 (by decide) rfl wi_yX12_meansBinary wv_yX12_meansBinary (c121 hS) (s121 hS) rfl rfl rfl (Nat.le_of_ble_eq_true rfl) (Nat.le_of_ble_eq_true rfl) (n_meansBinary (d := d) hS hF hI ((39 : Int32)) ((2 : Int32)) (by have := congrArg Int32.toInt (show FI 121 90 = x1 from h2); omega) (by have := congrArg Int32.toInt (show FI 121 92 = x4 from h5); omega) (by have := ((by decide : (2 : Int32).toInt = 2) : ((2 : Int32)).toInt = 2); have := ((by decide : (2 : Int32).toInt = 2) : ((2 : Int32)).toInt = 2); omega) (gg0) (gg1) (gg2) (show rl_wm (FI 121 90) (FI 165) (FI 166) from rel_wm)) (fun v897 sv898 p899 => ?_)
              have := congrArg Int32.toInt (show FI 121 92 = x4 from h5)
              have := congrArg Int32.toInt (show FI 121 90 = x1 from h2)
              obtain ⟨r900, rfl, FI901, FL902, rfl, hI903, f904, f905, t906, t907, t908, t909, u910, u911, rl912⟩ := p899
              obtain ⟨x913, h914⟩ : ∃ y, FI901 121 92 = y := ⟨_, rfl⟩
              have h914l := congrArg Int32.toInt h914
              have b915 := gI_121_92 hI903; rw [h914] at b915
              obtain ⟨x916, h917⟩ : ∃ y, FI901 121 90 = y := ⟨_, rfl⟩
              have h917l := congrArg Int32.toInt h917
              have b918 := gI_121_90 hI903; rw [h917] at b918
              show hw zk base _ _ _ _ _ [.int (r900)] _ _
              refine xw_iret (aX12_meansOperator 90 rfl) rfl (i_nz rfl (by omega) (by omega)) ?_
              exact ⟨r900, rfl, FI901, FL902, rfl, hI903, (gf_tr ex_rf gf_rf f904 rfl rfl rfl), (gf_tr ex_rf gf_rf f905 rfl rfl rfl), (by omega), (by have := congrArg Int32.toInt (show FI901 121 92 = x913 from h914); have := congrArg Int32.toInt (show FI901 121 91 = x7 from (gf_at f904 (c121 hS) (s121 hS) rfl (h8))); have hz : ((r900)).toInt = (r900).toInt := rfl; intro q b m hst; obtain ⟨e1, e2, e3⟩ := au_st_bin hst hb (by decide); subst e2; have hm := u910; rw [show ((2 : Int32)).toInt = (2 : Int) from by decide] at hm; refine ⟨by omega, by omega, by rw [e3]; exact hm, ?_, ?_⟩; { have hV := u911; rw [hm] at hV; rw [e3]; simpa using hV }; { simp; omega }), (by intro he; exact absurd he.1 (by rw [hb]; decide)), (show rl_wm (FI901 121 90) (FI901 165) (FI901 166) from rl912)⟩
          · have hq := (hid_e u456).mp (by omega); rw [show ((38 : Int32)).toInt = (38 : Int) from by decide] at hq; have hb : au_bn (kf (FI 152) (FI 121 92).toInt.toNat) (wf (FL 153) (FI 121 92).toInt.toNat) = 3 := au_bn_3.mpr hq
            refine hw_aloadn (aX12_meansOperator 77 rfl) rfl ?_
            refine hw_bp (v := (26 : Int32)) (aX12_meansOperator 78 rfl) (by decide) ?_
            refine hw_ic (v := (3 : Int32)) (aX12_meansOperator 79 rfl) (by decide) ?_
            refine hw_callV (Bs := [.int ((26 : Int32)), .int ((3 : Int32))]) (rest := []) (aX12_meansOperator 80 rfl) wc_RX12_718 (by decide) rfl wi_yX12_meansBinary wv_yX12_meansBinary (c121 hS) (s121 hS) rfl rfl rfl (Nat.le_of_ble_eq_true rfl) (Nat.le_of_ble_eq_true rfl) (n_meansBinary (d := d) hS hF hI ((26 : Int32)) ((3 : Int32)) (by have := congrArg Int32.toInt (show FI 121 90 = x1 from h2); omega) (by have := congrArg Int32.toInt (show FI 121 92 = x4 from h5); omega) (by have := ((by decide : (3 : Int32).toInt = 3) : ((3 : Int32)).toInt = 3); have := ((by decide : (3 : Int32).toInt = 3) : ((3 : Int32)).toInt = 3); omega) (gg0) (gg1) (gg2) (show rl_wm (FI 121 90) (FI 165) (FI 166) from rel_wm)) (fun v919 sv920 p921 => ?_)
            have := congrArg Int32.toInt (show FI 121 92 = x4 from h5)
            have := congrArg Int32.toInt (show FI 121 90 = x1 from h2)
            obtain ⟨r922, rfl, FI923, FL924, rfl, hI925, f926, f927, t928, t929, t930, t931, u932, u933, rl934⟩ := p921
            obtain ⟨x935, h936⟩ : ∃ y, FI923 121 92 = y := ⟨_, rfl⟩
            have h936l := congrArg Int32.toInt h936
            have b937 := gI_121_92 hI925; rw [h936] at b937
            obtain ⟨x938, h939⟩ : ∃ y, FI923 121 90 = y := ⟨_, rfl⟩
            have h939l := congrArg Int32.toInt h939
            have b940 := gI_121_90 hI925; rw [h939] at b940
            show hw zk base _ _ _ _ _ [.int (r922)] _ _
            refine xw_iret (aX12_meansOperator 81 rfl) rfl (i_nz rfl (by omega) (by omega)) ?_
            exact ⟨r922, rfl, FI923, FL924, rfl, hI925, (gf_tr ex_rf gf_rf f926 rfl rfl rfl), (gf_tr ex_rf gf_rf f927 rfl rfl rfl), (by omega), (by have := congrArg Int32.toInt (show FI923 121 92 = x935 from h936); have := congrArg Int32.toInt (show FI923 121 91 = x7 from (gf_at f926 (c121 hS) (s121 hS) rfl (h8))); have hz : ((r922)).toInt = (r922).toInt := rfl; intro q b m hst; obtain ⟨e1, e2, e3⟩ := au_st_bin hst hb (by decide); subst e2; have hm := u932; rw [show ((3 : Int32)).toInt = (3 : Int) from by decide] at hm; refine ⟨by omega, by omega, by rw [e3]; exact hm, ?_, ?_⟩; { have hV := u933; rw [hm] at hV; rw [e3]; simpa using hV }; { simp; omega }), (by intro he; exact absurd he.1 (by rw [hb]; decide)), (show rl_wm (FI923 121 90) (FI923 165) (FI923 166) from rl934)⟩
        · have hb : au_bn (kf (FI 152) (FI 121 92).toInt.toNat) (wf (FL 153) (FI 121 92).toInt.toNat) = 4 := by rw [hk1, hw1]; exact au_bn_4.mpr (hid_e t447 (by omega))
          refine hw_aloadn (aX12_meansOperator 68 rfl) rfl ?_
          refine xw_iload (aX12_meansOperator 69 rfl) rfl ?_
          refine hw_ic (v := (4 : Int32)) (aX12_meansOperator 70 rfl) (by decide) ?_
          refine hw_callV (Bs := [.int (r444), .int ((4 : Int32))]) (rest := []) (aX12_meansOperator 71 rfl) wc_RX12_718 (by decide) rfl wi_yX12_meansBinary wv_yX12_meansBinary (c121 hS) (s121 hS) rfl rfl rfl (Nat.le_of_ble_eq_true rfl) (Nat.le_of_ble_eq_true rfl) (n_meansBinary (d := d) hS hF hI (r444) ((4 : Int32)) (by have := congrArg Int32.toInt (show FI 121 90 = x1 from h2); omega) (by have := congrArg Int32.toInt (show FI 121 92 = x4 from h5); omega) (by have := ((by decide : (4 : Int32).toInt = 4) : ((4 : Int32)).toInt = 4); have := ((by decide : (4 : Int32).toInt = 4) : ((4 : Int32)).toInt = 4); omega) (gg0) (gg1) (gg2) (show rl_wm (FI 121 90) (FI 165) (FI 166) from rel_wm)) (fun v941 sv942 p943 => ?_)
          have := congrArg Int32.toInt (show FI 121 92 = x4 from h5)
          have := congrArg Int32.toInt (show FI 121 90 = x1 from h2)
          obtain ⟨r944, rfl, FI945, FL946, rfl, hI947, f948, f949, t950, t951, t952, t953, u954, u955, rl956⟩ := p943
          obtain ⟨x957, h958⟩ : ∃ y, FI945 121 92 = y := ⟨_, rfl⟩
          have h958l := congrArg Int32.toInt h958
          have b959 := gI_121_92 hI947; rw [h958] at b959
          obtain ⟨x960, h961⟩ : ∃ y, FI945 121 90 = y := ⟨_, rfl⟩
          have h961l := congrArg Int32.toInt h961
          have b962 := gI_121_90 hI947; rw [h961] at b962
          show hw zk base _ _ _ _ _ [.int (r944)] _ _
          refine xw_iret (aX12_meansOperator 72 rfl) rfl (i_nz rfl (by omega) (by omega)) ?_
          exact ⟨r944, rfl, FI945, FL946, rfl, hI947, (gf_tr ex_rf gf_rf f948 rfl rfl rfl), (gf_tr ex_rf gf_rf f949 rfl rfl rfl), (by omega), (by have := congrArg Int32.toInt (show FI945 121 92 = x957 from h958); have := congrArg Int32.toInt (show FI945 121 91 = x7 from (gf_at f948 (c121 hS) (s121 hS) rfl (h8))); have hz : ((r944)).toInt = (r944).toInt := rfl; intro q b m hst; obtain ⟨e1, e2, e3⟩ := au_st_bin hst hb (by decide); subst e2; have hm := u954; rw [show ((4 : Int32)).toInt = (4 : Int) from by decide] at hm; refine ⟨by omega, by omega, by rw [e3]; exact hm, ?_, ?_⟩; { have hV := u955; rw [hm] at hV; rw [e3]; simpa using hV }; { simp; omega }), (by intro he; exact absurd he.1 (by rw [hb]; decide)), (show rl_wm (FI945 121 90) (FI945 165) (FI945 166) from rl956)⟩
      · have hb : au_bn (kf (FI 152) (FI 121 92).toInt.toNat) (wf (FL 153) (FI 121 92).toInt.toNat) = 5 := by rw [hk1, hw1]; exact au_bn_5.mpr (hid_e t438 (by omega))
        refine hw_aloadn (aX12_meansOperator 55 rfl) rfl ?_
        refine xw_iload (aX12_meansOperator 56 rfl) rfl ?_
        refine hw_ic (v := (5 : Int32)) (aX12_meansOperator 57 rfl) (by decide) ?_
        refine hw_callV (Bs := [.int (r435), .int ((5 : Int32))]) (rest := []) (aX12_meansOperator 58 rfl) wc_RX12_718 (by decide) rfl wi_yX12_meansBinary wv_yX12_meansBinary (c121 hS) (s121 hS) rfl rfl rfl (Nat.le_of_ble_eq_true rfl) (Nat.le_of_ble_eq_true rfl) (n_meansBinary (d := d) hS hF hI (r435) ((5 : Int32)) (by have := congrArg Int32.toInt (show FI 121 90 = x1 from h2); omega) (by have := congrArg Int32.toInt (show FI 121 92 = x4 from h5); omega) (by have := ((by decide : (5 : Int32).toInt = 5) : ((5 : Int32)).toInt = 5); have := ((by decide : (5 : Int32).toInt = 5) : ((5 : Int32)).toInt = 5); omega) (gg0) (gg1) (gg2) (show rl_wm (FI 121 90) (FI 165) (FI 166) from rel_wm)) (fun v963 sv964 p965 => ?_)
        have := congrArg Int32.toInt (show FI 121 92 = x4 from h5)
        have := congrArg Int32.toInt (show FI 121 90 = x1 from h2)
        obtain ⟨r966, rfl, FI967, FL968, rfl, hI969, f970, f971, t972, t973, t974, t975, u976, u977, rl978⟩ := p965
        obtain ⟨x979, h980⟩ : ∃ y, FI967 121 92 = y := ⟨_, rfl⟩
        have h980l := congrArg Int32.toInt h980
        have b981 := gI_121_92 hI969; rw [h980] at b981
        obtain ⟨x982, h983⟩ : ∃ y, FI967 121 90 = y := ⟨_, rfl⟩
        have h983l := congrArg Int32.toInt h983
        have b984 := gI_121_90 hI969; rw [h983] at b984
        show hw zk base _ _ _ _ _ [.int (r966)] _ _
        refine xw_iret (aX12_meansOperator 59 rfl) rfl (i_nz rfl (by omega) (by omega)) ?_
        exact ⟨r966, rfl, FI967, FL968, rfl, hI969, (gf_tr ex_rf gf_rf f970 rfl rfl rfl), (gf_tr ex_rf gf_rf f971 rfl rfl rfl), (by omega), (by have := congrArg Int32.toInt (show FI967 121 92 = x979 from h980); have := congrArg Int32.toInt (show FI967 121 91 = x7 from (gf_at f970 (c121 hS) (s121 hS) rfl (h8))); have hz : ((r966)).toInt = (r966).toInt := rfl; intro q b m hst; obtain ⟨e1, e2, e3⟩ := au_st_bin hst hb (by decide); subst e2; have hm := u976; rw [show ((5 : Int32)).toInt = (5 : Int) from by decide] at hm; refine ⟨by omega, by omega, by rw [e3]; exact hm, ?_, ?_⟩; { have hV := u977; rw [hm] at hV; rw [e3]; simpa using hV }; { simp; omega }), (by intro he; exact absurd he.1 (by rw [hb]; decide)), (show rl_wm (FI967 121 90) (FI967 165) (FI967 166) from rl978)⟩
    refine hw_icne (tgt := 86) (aX12_meansOperator 27 rfl) (by decide) rfl (by decide : (5 : Int32).toInt = 5) (fun cd985 => ?_) (fun cd985 => ?_)
    · exact hw_L (j431 (show hid (au_bn (kf (FI 152) (FI 121 92).toInt.toNat) (wf (FL 153) (FI 121 92).toInt.toNat) ≠ 6) from hid_i (fun h => by { have hh := au_bn_6.mp h; rw [hk1, hw1] at hh; omega }))) ⟨rfl, rfl, rfl, trivial⟩
    · refine xw_lloadn (aX12_meansOperator 28 rfl) rfl ?_
      refine xw_ldc2 (aX12_meansOperator 29 rfl) wk_RX12_605 ?_
      have j1033 : (43 ≤ (x15).toInt ∧ (x15).toInt ≤ 45) → ((x13).toInt = 5 ∧ ((x15).toInt = 43 ∨ (x15).toInt = 45)) → hw zk base (d + 5) none 267 64 [(0, .ref (base + 121)), (1, .int (x13)), (2, .long (x15))] [] (n, sl, SH, FI, FL, FR) (h_I (fun r s => ∃ FI' FL', s = (n, sl, SH, FI', FL', FR) ∧ g_I FI' ∧ g_fr n SH [(121, 90), (121, 91), (121, 92), (121, 93), (121, 101), (121, 104)] [165, 166, 174, 175] [] FI FI' ∧ g_fr n SH [] [173] [] FL FL' ∧ (0 ≤ r.toInt ∧ r.toInt ≤ 1) ∧ (∀ q b m, au_st (kf (FI 152)) (wf (FL 153)) (FI 121 92).toInt.toNat false (sk (FI 166) (FI 121 90).toInt.toNat) q b m → r.toInt = 1 ∧ (FI' 121 92).toInt.toNat = q ∧ (sk (FI' 166) (FI' 121 90).toInt.toNat) = m ∧ (FI' 121 101).toInt = (au_vc m : Int) + (if b then 0 else 1) ∧ (FI' 121 91).toInt = (if b then 0 else 1)) ∧ (co_end (kf (FI 152)) (wf (FL 153)) (FI 121 92).toInt.toNat (sk (FI 166) (FI 121 90).toInt.toNat) → r.toInt = 0 ∧ (FI' 121 92).toInt.toNat = (FI 121 92).toInt.toNat) ∧ (rl_wm (FI' 121 90) (FI' 165) (FI' 166)))) := by
        intro q1034 fc64_0
        have hb : au_bn (kf (FI 152) (FI 121 92).toInt.toNat) (wf (FL 153) (FI 121 92).toInt.toNat) = 6 := by rw [hk1, hw1]; exact au_bn_6.mpr ⟨by omega, by omega⟩
        refine hw_aloadn (aX12_meansOperator 36 rfl) rfl ?_
        refine xw_lloadn (aX12_meansOperator 37 rfl) rfl ?_
        refine xw_ldc2 (aX12_meansOperator 38 rfl) wk_RX12_605 ?_
        refine hw_lcne (tgt := 78) (aX12_meansOperator 39 rfl) (aX12_meansOperator 40 rfl) (by decide) rfl (by decide : (43 : Int64).toInt = 43) (fun cd1035 => ?_) (fun cd1035 => ?_)
        · refine hw_bp (v := (28 : Int32)) (aX12_meansOperator 43 rfl) (by decide) ?_
          refine hw_bp (v := (6 : Int32)) (aX12_meansOperator 44 rfl) (by decide) ?_
          refine hw_callV (Bs := [.int ((28 : Int32)), .int ((6 : Int32))]) (rest := []) (aX12_meansOperator 45 rfl) wc_RX12_718 (by decide) rfl wi_yX12_meansBinary wv_yX12_meansBinary (c121 hS) (s121 hS) rfl rfl rfl (Nat.le_of_ble_eq_true rfl) (Nat.le_of_ble_eq_true rfl) (n_meansBinary (d := d) hS hF hI ((28 : Int32)) ((6 : Int32)) (by have := congrArg Int32.toInt (show FI 121 90 = x1 from h2); omega) (by have := congrArg Int32.toInt (show FI 121 92 = x4 from h5); omega) (by have := ((by decide : (6 : Int32).toInt = 6) : ((6 : Int32)).toInt = 6); have := ((by decide : (6 : Int32).toInt = 6) : ((6 : Int32)).toInt = 6); omega) (gg0) (gg1) (gg2) (show rl_wm (FI 121 90) (FI 165) (FI 166) from rel_wm)) (fun v1036 sv1037 p1038 => ?_)
          have := congrArg Int32.toInt (show FI 121 92 = x4 from h5)
          have := congrArg Int32.toInt (show FI 121 90 = x1 from h2)
          obtain ⟨r1039, rfl, FI1040, FL1041, rfl, hI1042, f1043, f1044, t1045, t1046, t1047, t1048, u1049, u1050, rl1051⟩ := p1038
          obtain ⟨x1052, h1053⟩ : ∃ y, FI1040 121 92 = y := ⟨_, rfl⟩
          have h1053l := congrArg Int32.toInt h1053
          have b1054 := gI_121_92 hI1042; rw [h1053] at b1054
          obtain ⟨x1055, h1056⟩ : ∃ y, FI1040 121 90 = y := ⟨_, rfl⟩
          have h1056l := congrArg Int32.toInt h1056
          have b1057 := gI_121_90 hI1042; rw [h1056] at b1057
          show hw zk base _ _ _ _ _ [.int (r1039)] _ _
          refine xw_iret (aX12_meansOperator 46 rfl) rfl (i_nz rfl (by omega) (by omega)) ?_
          exact ⟨r1039, rfl, FI1040, FL1041, rfl, hI1042, (gf_tr ex_rf gf_rf f1043 rfl rfl rfl), (gf_tr ex_rf gf_rf f1044 rfl rfl rfl), (by omega), (by have := congrArg Int32.toInt (show FI1040 121 92 = x1052 from h1053); have := congrArg Int32.toInt (show FI1040 121 91 = x7 from (gf_at f1043 (c121 hS) (s121 hS) rfl (h8))); have hz : ((r1039)).toInt = (r1039).toInt := rfl; intro q b m hst; obtain ⟨e1, e2, e3⟩ := au_st_bin hst hb (by decide); subst e2; have hm := u1049; rw [show ((6 : Int32)).toInt = (6 : Int) from by decide] at hm; refine ⟨by omega, by omega, by rw [e3]; exact hm, ?_, ?_⟩; { have hV := u1050; rw [hm] at hV; rw [e3]; simpa using hV }; { simp; omega }), (by intro he; exact absurd he.1 (by rw [hb]; decide)), (show rl_wm (FI1040 121 90) (FI1040 165) (FI1040 166) from rl1051)⟩
        · refine hw_bp (v := (34 : Int32)) (aX12_meansOperator 41 rfl) (by decide) ?_
          refine xw_goto (tgt := 80) (aX12_meansOperator 42 rfl) (by decide) ?_
          refine hw_bp (v := (6 : Int32)) (aX12_meansOperator 44 rfl) (by decide) ?_
          refine hw_callV (Bs := [.int ((34 : Int32)), .int ((6 : Int32))]) (rest := []) (aX12_meansOperator 45 rfl) wc_RX12_718 (by decide) rfl wi_yX12_meansBinary wv_yX12_meansBinary (c121 hS) (s121 hS) rfl rfl rfl (Nat.le_of_ble_eq_true rfl) (Nat.le_of_ble_eq_true rfl) (n_meansBinary (d := d) hS hF hI ((34 : Int32)) ((6 : Int32)) (by have := congrArg Int32.toInt (show FI 121 90 = x1 from h2); omega) (by have := congrArg Int32.toInt (show FI 121 92 = x4 from h5); omega) (by have := ((by decide : (6 : Int32).toInt = 6) : ((6 : Int32)).toInt = 6); have := ((by decide : (6 : Int32).toInt = 6) : ((6 : Int32)).toInt = 6); omega) (gg0) (gg1) (gg2) (show rl_wm (FI 121 90) (FI 165) (FI 166) from rel_wm)) (fun v1058 sv1059 p1060 => ?_)
          have := congrArg Int32.toInt (show FI 121 92 = x4 from h5)
          have := congrArg Int32.toInt (show FI 121 90 = x1 from h2)
          obtain ⟨r1061, rfl, FI1062, FL1063, rfl, hI1064, f1065, f1066, t1067, t1068, t1069, t1070, u1071, u1072, rl1073⟩ := p1060
          obtain ⟨x1074, h1075⟩ : ∃ y, FI1062 121 92 = y := ⟨_, rfl⟩
          have h1075l := congrArg Int32.toInt h1075
          have b1076 := gI_121_92 hI1064; rw [h1075] at b1076
          obtain ⟨x1077, h1078⟩ : ∃ y, FI1062 121 90 = y := ⟨_, rfl⟩
          have h1078l := congrArg Int32.toInt h1078
          have b1079 := gI_121_90 hI1064; rw [h1078] at b1079
          show hw zk base _ _ _ _ _ [.int (r1061)] _ _
          refine xw_iret (aX12_meansOperator 46 rfl) rfl (i_nz rfl (by omega) (by omega)) ?_
          exact ⟨r1061, rfl, FI1062, FL1063, rfl, hI1064, (gf_tr ex_rf gf_rf f1065 rfl rfl rfl), (gf_tr ex_rf gf_rf f1066 rfl rfl rfl), (by omega), (by have := congrArg Int32.toInt (show FI1062 121 92 = x1074 from h1075); have := congrArg Int32.toInt (show FI1062 121 91 = x7 from (gf_at f1065 (c121 hS) (s121 hS) rfl (h8))); have hz : ((r1061)).toInt = (r1061).toInt := rfl; intro q b m hst; obtain ⟨e1, e2, e3⟩ := au_st_bin hst hb (by decide); subst e2; have hm := u1071; rw [show ((6 : Int32)).toInt = (6 : Int) from by decide] at hm; refine ⟨by omega, by omega, by rw [e3]; exact hm, ?_, ?_⟩; { have hV := u1072; rw [hm] at hV; rw [e3]; simpa using hV }; { simp; omega }), (by intro he; exact absurd he.1 (by rw [hb]; decide)), (show rl_wm (FI1062 121 90) (FI1062 165) (FI1062 166) from rl1073)⟩
      refine hw_lceq (tgt := 64) (aX12_meansOperator 30 rfl) (aX12_meansOperator 31 rfl) (by decide) rfl (by decide : (43 : Int64).toInt = 43) (fun cd1080 => ?_) (fun cd1080 => ?_)
      · exact hw_L (j1033 (by omega) (by show (x13).toInt = 5 ∧ ((x15).toInt = 43 ∨ (x15).toInt = 45); omega)) ⟨rfl, rfl, rfl, trivial⟩
      · refine xw_lloadn (aX12_meansOperator 32 rfl) rfl ?_
        refine xw_ldc2 (aX12_meansOperator 33 rfl) wk_RX12_651 ?_
        refine hw_lcne (tgt := 86) (aX12_meansOperator 34 rfl) (aX12_meansOperator 35 rfl) (by decide) rfl (by decide : (45 : Int64).toInt = 45) (fun cd1081 => ?_) (fun cd1081 => ?_)
        · exact hw_L (j431 (show hid (au_bn (kf (FI 152) (FI 121 92).toInt.toNat) (wf (FL 153) (FI 121 92).toInt.toNat) ≠ 6) from hid_i (fun h => by { have hh := au_bn_6.mp h; rw [hk1, hw1] at hh; omega }))) ⟨rfl, rfl, rfl, trivial⟩
        · exact hw_L (j1033 (by omega) (by show (x13).toInt = 5 ∧ ((x15).toInt = 43 ∨ (x15).toInt = 45); omega)) ⟨rfl, rfl, rfl, trivial⟩
  · have hb : au_bn (kf (FI 152) (FI 121 92).toInt.toNat) (wf (FL 153) (FI 121 92).toInt.toNat) = 7 := by rw [hk1, hw1]; exact au_bn_7.mpr (hid_e t23 (by omega))
    refine hw_aloadn (aX12_meansOperator 20 rfl) rfl ?_
    refine xw_iload (aX12_meansOperator 21 rfl) rfl ?_
    refine hw_bp (v := (7 : Int32)) (aX12_meansOperator 22 rfl) (by decide) ?_
    refine hw_callV (Bs := [.int (r20), .int ((7 : Int32))]) (rest := []) (aX12_meansOperator 23 rfl) wc_RX12_718 (by decide) rfl wi_yX12_meansBinary wv_yX12_meansBinary (c121 hS) (s121 hS) rfl rfl rfl (Nat.le_of_ble_eq_true rfl) (Nat.le_of_ble_eq_true rfl) (n_meansBinary (d := d) hS hF hI (r20) ((7 : Int32)) (by have := congrArg Int32.toInt (show FI 121 90 = x1 from h2); omega) (by have := congrArg Int32.toInt (show FI 121 92 = x4 from h5); omega) (by have := ((by decide : (7 : Int32).toInt = 7) : ((7 : Int32)).toInt = 7); have := ((by decide : (7 : Int32).toInt = 7) : ((7 : Int32)).toInt = 7); omega) (gg0) (gg1) (gg2) (show rl_wm (FI 121 90) (FI 165) (FI 166) from rel_wm)) (fun v1082 sv1083 p1084 => ?_)
    have := congrArg Int32.toInt (show FI 121 92 = x4 from h5)
    have := congrArg Int32.toInt (show FI 121 90 = x1 from h2)
    obtain ⟨r1085, rfl, FI1086, FL1087, rfl, hI1088, f1089, f1090, t1091, t1092, t1093, t1094, u1095, u1096, rl1097⟩ := p1084
    obtain ⟨x1098, h1099⟩ : ∃ y, FI1086 121 92 = y := ⟨_, rfl⟩
    have h1099l := congrArg Int32.toInt h1099
    have b1100 := gI_121_92 hI1088; rw [h1099] at b1100
    obtain ⟨x1101, h1102⟩ : ∃ y, FI1086 121 90 = y := ⟨_, rfl⟩
    have h1102l := congrArg Int32.toInt h1102
    have b1103 := gI_121_90 hI1088; rw [h1102] at b1103
    show hw zk base _ _ _ _ _ [.int (r1085)] _ _
    refine xw_iret (aX12_meansOperator 24 rfl) rfl (i_nz rfl (by omega) (by omega)) ?_
    exact ⟨r1085, rfl, FI1086, FL1087, rfl, hI1088, (gf_tr ex_rf gf_rf f1089 rfl rfl rfl), (gf_tr ex_rf gf_rf f1090 rfl rfl rfl), (by omega), (by have := congrArg Int32.toInt (show FI1086 121 92 = x1098 from h1099); have := congrArg Int32.toInt (show FI1086 121 91 = x7 from (gf_at f1089 (c121 hS) (s121 hS) rfl (h8))); have hz : ((r1085)).toInt = (r1085).toInt := rfl; intro q b m hst; obtain ⟨e1, e2, e3⟩ := au_st_bin hst hb (by decide); subst e2; have hm := u1095; rw [show ((7 : Int32)).toInt = (7 : Int) from by decide] at hm; refine ⟨by omega, by omega, by rw [e3]; exact hm, ?_, ?_⟩; { have hV := u1096; rw [hm] at hV; rw [e3]; simpa using hV }; { simp; omega }), (by intro he; exact absurd he.1 (by rw [hb]; decide)), (show rl_wm (FI1086 121 90) (FI1086 165) (FI1086 166) from rl1097)⟩
