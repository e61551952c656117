def nX12_acts : Nat := 0xb15e01b688210516071b2a0d00a09e00111c1400a75e01b6030916061b2a4f640407151b2400b42a1900a09f00111c3100a75e01b60321051b2a0e00a09000111c4300a75e01b603856450101c051b2a1200a36f101c1800a150101c5e00a7505a01b609160b161c2a640408152100b42a4f640407151b2400b42a2200a32e101c2800a11a101c8900a750610916d400b42a08152100b42a1400a09b00111ca100a7506121091608152100b42a1100a023101cb500a75083e20014091608152100b42a1300a020101ccb00a75075091608152100b42a1000a01f101cde00a75009160500a775091609009c9409091608152100b42a1c00a019101cfd00a7505601b6882109162a08152100b42a1500a09400111c1601a7505601b6081009162a08152100b42a1500a006101c2e01a7500916640508152100b42a502f640508152100b42a640408152100b42a500b1608152100b42a2c00a017101c5d01a7500916640408152100b42a500b1608152100b42a1a00a016101c7a01a74f640407151b2400b42a1000a028101c09009f13101c0b37090400a72f640408152100b42a0f00a40407150937090400a72f08152100b42a0d009e071508366404600715681b80001107362e1b2400b42a
theorem bX12_acts : cX12_acts.data.toList.map UInt8.toNat = x_un nX12_acts 460 := by decide +kernel
def iX12_acts : List (Nat × Jvm.ClassFile.Instr × Nat) := [(0, .aload_n 0, 1), (1, .getfield 36, 3), (4, .iload_n 1, 1), (5, .iaload, 1), (6, .istore 7, 2), (8, .sipush 128, 3), (11, .iload_n 1, 1), (12, .imul, 1), (13, .iload 7, 2), (15, .iadd, 1), (16, .iconst 1, 1), (17, .isub, 1), (18, .istore 8, 2), (20, .iload 7, 2), (22, .ifCond .le 13, 3), (25, .aload_n 0, 1), (26, .getfield 33, 3), (29, .iload 8, 2), (31, .laload, 1), (32, .goto 4, 3), (35, .lconst 0, 1), (36, .lstore 9, 2), (38, .iload 7, 2), (40, .iconst 1, 1), (41, .if_icmp .le 15, 3), (44, .aload_n 0, 1), (45, .getfield 33, 3), (48, .iload 8, 2), (50, .iconst 1, 1), (51, .isub, 1), (52, .laload, 1), (53, .goto 4, 3), (56, .lconst 0, 1), (57, .lstore 11, 2), (59, .iload_n 2, 1), (60, .bipush 19, 2), (62, .if_icmp .eq 9, 3), (65, .iload_n 2, 1), (66, .bipush 40, 2), (68, .if_icmp .ne 16, 3), (71, .aload_n 0, 1), (72, .getfield 36, 3), (75, .iload_n 1, 1), (76, .iload 7, 2), (78, .iconst 1, 1), (79, .isub, 1), (80, .iastore, 1), (81, .goto 378, 3), (84, .iload_n 2, 1), (85, .bipush 22, 2), (87, .if_icmp .ne 26, 3), (90, .aload_n 0, 1), (91, .getfield 33, 3), (94, .iload 8, 2), (96, .lload 11, 2), (98, .lastore, 1), (99, .aload_n 0, 1), (100, .getfield 33, 3), (103, .iload 8, 2), (105, .iconst 1, 1), (106, .isub, 1), (107, .lload 9, 2), (109, .lastore, 1), (110, .goto 349, 3), (113, .iload_n 2, 1), (114, .bipush 23, 2), (116, .if_icmp .ne 44, 3), (119, .aload_n 0, 1), (120, .getfield 33, 3), (123, .iload 8, 2), (125, .lload 11, 2), (127, .lastore, 1), (128, .aload_n 0, 1), (129, .getfield 33, 3), (132, .iload 8, 2), (134, .iconst 1, 1), (135, .isub, 1), (136, .aload_n 0, 1), (137, .getfield 33, 3), (140, .iload 8, 2), (142, .iconst 2, 1), (143, .isub, 1), (144, .laload, 1), (145, .lastore, 1), (146, .aload_n 0, 1), (147, .getfield 33, 3), (150, .iload 8, 2), (152, .iconst 2, 1), (153, .isub, 1), (154, .lload 9, 2), (156, .lastore, 1), (157, .goto 302, 3), (160, .iload_n 2, 1), (161, .bipush 6, 2), (163, .if_icmp .ne 21, 3), (166, .aload_n 0, 1), (167, .getfield 33, 3), (170, .iload 8, 2), (172, .aload_n 0, 1), (173, .lload 9, 2), (175, .bipush 8, 2), (177, .invokevirtual 342, 3), (180, .lastore, 1), (181, .goto 278, 3), (184, .iload_n 2, 1), (185, .sipush 148, 3), (188, .if_icmp .ne 21, 3), (191, .aload_n 0, 1), (192, .getfield 33, 3), (195, .iload 8, 2), (197, .aload_n 0, 1), (198, .lload 9, 2), (200, .lload_n 3, 1), (201, .l2i, 1), (202, .invokevirtual 342, 3), (205, .lastore, 1), (206, .goto 253, 3), (209, .iload_n 2, 1), (210, .bipush 25, 2), (212, .if_icmp .ne 28, 3), (215, .aload_n 0, 1), (216, .getfield 33, 3), (219, .iload 8, 2), (221, .lload 9, 2), (223, .lconst 0, 1), (224, .lcmp, 1), (225, .ifCond .ge 9, 3), (228, .lload 9, 2), (230, .lneg, 1), (231, .goto 5, 3), (234, .lload 9, 2), (236, .lastore, 1), (237, .goto 222, 3), (240, .iload_n 2, 1), (241, .bipush 31, 2), (243, .if_icmp .ne 16, 3), (246, .aload_n 0, 1), (247, .getfield 33, 3), (250, .iload 8, 2), (252, .lload 9, 2), (254, .lneg, 1), (255, .lastore, 1), (256, .goto 203, 3), (259, .iload_n 2, 1), (260, .bipush 32, 2), (262, .if_icmp .ne 19, 3), (265, .aload_n 0, 1), (266, .getfield 33, 3), (269, .iload 8, 2), (271, .lload 9, 2), (273, .ldc2_w 226, 3), (276, .lxor, 1), (277, .lastore, 1), (278, .goto 181, 3), (281, .iload_n 2, 1), (282, .bipush 35, 2), (284, .if_icmp .ne 17, 3), (287, .aload_n 0, 1), (288, .getfield 33, 3), (291, .iload 8, 2), (293, .lload 9, 2), (295, .lload_n 3, 1), (296, .ladd, 1), (297, .lastore, 1), (298, .goto 161, 3), (301, .iload_n 2, 1), (302, .sipush 155, 3), (305, .if_icmp .ne 20, 3), (308, .aload_n 0, 1), (309, .getfield 33, 3), (312, .iload 8, 2), (314, .aload_n 0, 1), (315, .getfield 212, 3), (318, .lload 9, 2), (320, .ladd, 1), (321, .lastore, 1), (322, .goto 137, 3), (325, .iload_n 2, 1), (326, .bipush 26, 2), (328, .if_icmp .lt 40, 3), (331, .iload_n 2, 1), (332, .bipush 46, 2), (334, .if_icmp .gt 34, 3), (337, .aload_n 0, 1), (338, .getfield 36, 3), (341, .iload_n 1, 1), (342, .iload 7, 2), (344, .iconst 1, 1), (345, .isub, 1), (346, .iastore, 1), (347, .aload_n 0, 1), (348, .getfield 33, 3), (351, .iload 8, 2), (353, .iconst 1, 1), (354, .isub, 1), (355, .aload_n 0, 1), (356, .iload_n 2, 1), (357, .lload 11, 2), (359, .lload 9, 2), (361, .invokevirtual 346, 3), (364, .lastore, 1), (365, .goto 94, 3), (368, .iload_n 2, 1), (369, .bipush 80, 2), (371, .if_icmp .lt 24, 3), (374, .iload_n 2, 1), (375, .bipush 111, 2), (377, .if_icmp .gt 18, 3), (380, .aload_n 0, 1), (381, .iload_n 1, 1), (382, .iconst 2, 1), (383, .iload_n 2, 1), (384, .bipush 80, 2), (386, .isub, 1), (387, .i2l, 1), (388, .iconst 0, 1), (389, .invokevirtual 350, 3), (392, .goto 67, 3), (395, .iload_n 2, 1), (396, .sipush 144, 3), (399, .if_icmp .ne 14, 3), (402, .aload_n 0, 1), (403, .iload_n 1, 1), (404, .iconst 2, 1), (405, .lload_n 3, 1), (406, .iconst 0, 1), (407, .invokevirtual 350, 3), (410, .goto 49, 3), (413, .iload_n 2, 1), (414, .sipush 159, 3), (417, .if_icmp .ne 25, 3), (420, .aload_n 0, 1), (421, .getfield 36, 3), (424, .iload_n 1, 1), (425, .iload 7, 2), (427, .iconst 1, 1), (428, .isub, 1), (429, .iastore, 1), (430, .aload_n 0, 1), (431, .iload_n 1, 1), (432, .iconst 3, 1), (433, .lload 9, 2), (435, .iconst 0, 1), (436, .invokevirtual 350, 3), (439, .goto 20, 3), (442, .iload_n 2, 1), (443, .sipush 158, 3), (446, .if_icmp .ne 13, 3), (449, .aload_n 0, 1), (450, .iload_n 1, 1), (451, .iconst 4, 1), (452, .lload 5, 2), (454, .lload_n 3, 1), (455, .l2i, 1), (456, .invokevirtual 350, 3), (459, .return_, 1)]
theorem dX12_acts : x_il nX12_acts 460 iX12_acts = true := by decide +kernel
theorem aX12_acts (k : Nat) {pc : Nat} {i : Jvm.ClassFile.Instr} {len : Nat} (hk : iX12_acts[k]? = some (pc, i, len)) : x_at xMM 184 pc i len yX12_acts 13 none := ⟨cX12_acts, rfl, x_il_ok bX12_acts dX12_acts k hk⟩
set_option maxHeartbeats 4000000 in
set_option maxRecDepth 100000 in
theorem m_acts {sk : xK} {base d n sl : Nat} {SH : Nat → Nat × Nat} {FI : Nat → Nat → Int32} {FL : Nat → Nat → Int64} {FR : Nat → Nat → Option Nat} (hS : h_S n SH) (hF : h_FR FR) (a1 : Int32) (a2 : Int32) (a3 : Int64) (a4 : Int64) (g0 : hid ((a2).toInt = 6 ∨ (a2).toInt = 19 ∨ (a2).toInt = 25 ∨ (a2).toInt = 31 ∨ (a2).toInt = 32 ∨ (a2).toInt = 35 ∨ (a2).toInt = 40 ∨ (a2).toInt = 148 ∨ (a2).toInt = 155 ∨ (a2).toInt = 159 → 1 ≤ (FI 128 (a1).toNatClampNeg).toInt)) (g1 : hid ((26 ≤ (a2).toInt ∧ (a2).toInt ≤ 46 ∧ (a2).toInt ≠ 31 ∧ (a2).toInt ≠ 32 ∧ (a2).toInt ≠ 35 ∧ (a2).toInt ≠ 40) ∨ (a2).toInt = 22 → 2 ≤ (FI 128 (a1).toNatClampNeg).toInt)) (g2 : hid ((a2).toInt = 23 → 3 ≤ (FI 128 (a1).toNatClampNeg).toInt)) (g3 : hid ((a2).toInt = 144 → 0 ≤ (a3).toInt ∧ (a3).toInt ≤ 31)) (g4 : hid ((a2).toInt = 148 → 1 ≤ (a3).toInt ∧ (a3).toInt ≤ 8)) (g5 : hid ((a2).toInt = 158 → 0 ≤ (a4).toInt ∧ 0 ≤ (a3).toInt ∧ (a3).toInt ≤ 600 ∧ (a4).toInt + (a3).toInt ≤ 19200)) (g6 : 0 ≤ (a1).toInt ∧ (a1).toInt ≤ 1) (ai128 : h_ai 128 2 0 128 FI) (gg0 : ∀ i : Int32, i.toInt = 128 * (a1).toInt + (FI 128 (a1).toNatClampNeg).toInt - 1 → hid (((a2).toInt = 6 → 0 ≤ (FL 127 i.toNatClampNeg).toInt ∧ (FL 127 i.toNatClampNeg).toInt ≤ 4088) ∧ ((a2).toInt = 148 → 0 ≤ (FL 127 i.toNatClampNeg).toInt ∧ (FL 127 i.toNatClampNeg).toInt ≤ 4096 - (a3).toInt) ∧ ((a2).toInt = 27 ∨ (a2).toInt = 29 → (FL 127 i.toNatClampNeg).toInt ≠ 0))) (rel_hold : rl_h 2 (FI 136) (FL 137) (FI 138)) : hw sk base (d + 3) none 184 0 [(0, .ref (base + 121)), (1, .int (a1)), (2, .int (a2)), (3, .long (a3)), (5, .long (a4))] [] (n, sl, SH, FI, FL, FR) (h_V (fun s => ∃ FI' FL', s = (n, sl, SH, FI', FL', FR) ∧ h_fr FI FI' [] [128, 136, 138] ∧ h_fr FL FL' [] [127, 137] ∧ h_ai 128 2 0 128 FI' ∧ (rl_h 2 (FI' 136) (FL' 137) (FI' 138)))) := by
  have rg_a1 := i_rng a1
  have rg_a2 := i_rng a2
  have rg_a3 := l_rng a3
  have rg_a4 := l_rng a4
  refine hw_aloadn (aX12_acts 0 rfl) rfl ?_
  refine hw_get (v := .ref (base + 128)) (aX12_acts 1 rfl) wf_RX12_36 (c121 hS) (s121 hS) (by decide) (congrArg (fun r => va_rf (h_rf base r)) (r121_15 hF)) ?_
  refine xw_iloadn (aX12_acts 2 rfl) rfl ?_
  refine hw_iald (v := FI 128 (a1).toNatClampNeg) (aX12_acts 3 rfl) (c128 hS) (s128 hS) (h_in rfl (by omega) (by omega)) rfl ?_
  have e1 : 0 ≤ (FI 128 (a1).toNatClampNeg).toInt ∧ (FI 128 (a1).toNatClampNeg).toInt ≤ 128 := ai_at ai128 rfl (by omega) (by omega)
  refine xw_istore (L2 := [(7, .int (FI 128 (a1).toNatClampNeg)), (0, .ref (base + 121)), (1, .int (a1)), (2, .int (a2)), (3, .long (a3)), (5, .long (a4))]) (aX12_acts 4 rfl) (by decide) rfl ?_
  refine hw_sp (v := (128 : Int32)) (aX12_acts 5 rfl) (by decide) ?_
  refine xw_iloadn (aX12_acts 6 rfl) rfl ?_
  refine xw_imul (aX12_acts 7 rfl) ?_
  refine hw_tie (A := (128) * ((a1).toInt)) (i_mul (by decide : (128 : Int32).toInt = 128) rfl (by omega) (by omega)) (fun x2 e3 => ?_)
  refine xw_iload (aX12_acts 8 rfl) rfl ?_
  refine xw_iadd (aX12_acts 9 rfl) ?_
  refine hw_tie (A := ((128) * ((a1).toInt)) + ((FI 128 (a1).toNatClampNeg).toInt)) (i_add e3 rfl (by omega) (by omega)) (fun x4 e5 => ?_)
  refine hw_ic (v := (1 : Int32)) (aX12_acts 10 rfl) (by decide) ?_
  refine xw_isub (aX12_acts 11 rfl) ?_
  refine hw_tie (A := (((128) * ((a1).toInt)) + ((FI 128 (a1).toNatClampNeg).toInt)) - (1)) (i_sub e5 (by decide : (1 : Int32).toInt = 1) (by omega) (by omega)) (fun x6 e7 => ?_)
  refine xw_istore (L2 := [(8, .int (x6)), (7, .int (FI 128 (a1).toNatClampNeg)), (0, .ref (base + 121)), (1, .int (a1)), (2, .int (a2)), (3, .long (a3)), (5, .long (a4))]) (aX12_acts 12 rfl) (by decide) rfl ?_
  refine xw_iload (aX12_acts 13 rfl) rfl ?_
  have j137 : ∀ (g10 : Int64), (hid (((a2).toInt = 6 → 0 ≤ (g10).toInt ∧ (g10).toInt ≤ 4088) ∧ ((a2).toInt = 148 → 0 ≤ (g10).toInt ∧ (g10).toInt ≤ 4096 - (a3).toInt) ∧ ((a2).toInt = 27 ∨ (a2).toInt = 29 → (g10).toInt ≠ 0))) → hw sk base (d + 3) none 184 36 [(0, .ref (base + 121)), (1, .int (a1)), (2, .int (a2)), (3, .long (a3)), (5, .long (a4)), (7, .int (FI 128 (a1).toNatClampNeg)), (8, .int (x6))] [.long (g10)] (n, sl, SH, FI, FL, FR) (h_V (fun s => ∃ FI' FL', s = (n, sl, SH, FI', FL', FR) ∧ h_fr FI FI' [] [128, 136, 138] ∧ h_fr FL FL' [] [127, 137] ∧ h_ai 128 2 0 128 FI' ∧ (rl_h 2 (FI' 136) (FL' 137) (FI' 138)))) := by
    intro g10 fc36_0
    have rg_g10 := l_rng g10
    refine xw_lstore (L2 := [(9, .long (g10)), (0, .ref (base + 121)), (1, .int (a1)), (2, .int (a2)), (3, .long (a3)), (5, .long (a4)), (7, .int (FI 128 (a1).toNatClampNeg)), (8, .int (x6))]) (aX12_acts 21 rfl) (by decide) rfl ?_
    refine xw_iload (aX12_acts 22 rfl) rfl ?_
    refine hw_ic (v := (1 : Int32)) (aX12_acts 23 rfl) (by decide) ?_
    have j264 : ∀ (g143 : Int64), hw sk base (d + 3) none 184 57 [(0, .ref (base + 121)), (1, .int (a1)), (2, .int (a2)), (3, .long (a3)), (5, .long (a4)), (7, .int (FI 128 (a1).toNatClampNeg)), (8, .int (x6)), (9, .long (g10))] [.long (g143)] (n, sl, SH, FI, FL, FR) (h_V (fun s => ∃ FI' FL', s = (n, sl, SH, FI', FL', FR) ∧ h_fr FI FI' [] [128, 136, 138] ∧ h_fr FL FL' [] [127, 137] ∧ h_ai 128 2 0 128 FI' ∧ (rl_h 2 (FI' 136) (FL' 137) (FI' 138)))) := by
      intro g143
      have rg_g143 := l_rng g143
      refine xw_lstore (L2 := [(11, .long (g143)), (0, .ref (base + 121)), (1, .int (a1)), (2, .int (a2)), (3, .long (a3)), (5, .long (a4)), (7, .int (FI 128 (a1).toNatClampNeg)), (8, .int (x6)), (9, .long (g10))]) (aX12_acts 33 rfl) (by decide) rfl ?_
      refine xw_iloadn (aX12_acts 34 rfl) rfl ?_
      refine hw_bp (v := (19 : Int32)) (aX12_acts 35 rfl) (by decide) ?_
      refine hw_iceq (tgt := 71) (aX12_acts 36 rfl) (by decide) rfl (by decide : (19 : Int32).toInt = 19) (fun cd265 => ?_) (fun cd265 => ?_)
      · have hn1 : 1 ≤ ((FI 128 (a1).toNatClampNeg).toInt) := hid_e g0 (by omega)
        refine hw_aloadn (aX12_acts 40 rfl) rfl ?_
        refine hw_get (v := .ref (base + 128)) (aX12_acts 41 rfl) wf_RX12_36 (c121 hS) (s121 hS) (by decide) (congrArg (fun r => va_rf (h_rf base r)) (r121_15 hF)) ?_
        refine xw_iloadn (aX12_acts 42 rfl) rfl ?_
        refine xw_iload (aX12_acts 43 rfl) rfl ?_
        refine hw_ic (v := (1 : Int32)) (aX12_acts 44 rfl) (by decide) ?_
        refine xw_isub (aX12_acts 45 rfl) ?_
        refine hw_tie (A := ((FI 128 (a1).toNatClampNeg).toInt) - (1)) (i_sub rfl (by decide : (1 : Int32).toInt = 1) (by omega) (by omega)) (fun x266 e267 => ?_)
        refine hw_iast (aX12_acts 46 rfl) (c128 hS) (s128 hS) (h_in rfl (by omega) (by omega)) ?_
        have e268 : h_ai 128 2 0 128 (h_up FI 128 (a1).toNatClampNeg (x266)) := ai_up ai128 e267 (by omega) (by omega)
        refine xw_goto (tgt := 459) (aX12_acts 47 rfl) (by decide) ?_
        refine xw_vret (aX12_acts 255 rfl) rfl ?_
        exact ⟨rfl, _, _, rfl, (fr_ua fr_rf (by decide) (by decide)), fr_rf, e268, (show rl_h 2 ((h_up FI 128 (a1).toNatClampNeg (x266)) 136) ((FL) 137) ((h_up FI 128 (a1).toNatClampNeg (x266)) 138) from rel_hold)⟩
      · refine xw_iloadn (aX12_acts 37 rfl) rfl ?_
        refine hw_bp (v := (40 : Int32)) (aX12_acts 38 rfl) (by decide) ?_
        refine hw_icne (tgt := 84) (aX12_acts 39 rfl) (by decide) rfl (by decide : (40 : Int32).toInt = 40) (fun cd269 => ?_) (fun cd269 => ?_)
        · refine xw_iloadn (aX12_acts 48 rfl) rfl ?_
          refine hw_bp (v := (22 : Int32)) (aX12_acts 49 rfl) (by decide) ?_
          refine hw_icne (tgt := 113) (aX12_acts 50 rfl) (by decide) rfl (by decide : (22 : Int32).toInt = 22) (fun cd270 => ?_) (fun cd270 => ?_)
          · refine xw_iloadn (aX12_acts 64 rfl) rfl ?_
            refine hw_bp (v := (23 : Int32)) (aX12_acts 65 rfl) (by decide) ?_
            refine hw_icne (tgt := 160) (aX12_acts 66 rfl) (by decide) rfl (by decide : (23 : Int32).toInt = 23) (fun cd271 => ?_) (fun cd271 => ?_)
            · refine xw_iloadn (aX12_acts 92 rfl) rfl ?_
              refine hw_bp (v := (6 : Int32)) (aX12_acts 93 rfl) (by decide) ?_
              refine hw_icne (tgt := 184) (aX12_acts 94 rfl) (by decide) rfl (by decide : (6 : Int32).toInt = 6) (fun cd272 => ?_) (fun cd272 => ?_)
              · refine xw_iloadn (aX12_acts 104 rfl) rfl ?_
                refine hw_sp (v := (148 : Int32)) (aX12_acts 105 rfl) (by decide) ?_
                refine hw_icne (tgt := 209) (aX12_acts 106 rfl) (by decide) rfl (by decide : (148 : Int32).toInt = 148) (fun cd273 => ?_) (fun cd273 => ?_)
                · refine xw_iloadn (aX12_acts 117 rfl) rfl ?_
                  refine hw_bp (v := (25 : Int32)) (aX12_acts 118 rfl) (by decide) ?_
                  refine hw_icne (tgt := 240) (aX12_acts 119 rfl) (by decide) rfl (by decide : (25 : Int32).toInt = 25) (fun cd274 => ?_) (fun cd274 => ?_)
                  · refine xw_iloadn (aX12_acts 133 rfl) rfl ?_
                    refine hw_bp (v := (31 : Int32)) (aX12_acts 134 rfl) (by decide) ?_
                    refine hw_icne (tgt := 259) (aX12_acts 135 rfl) (by decide) rfl (by decide : (31 : Int32).toInt = 31) (fun cd275 => ?_) (fun cd275 => ?_)
                    · refine xw_iloadn (aX12_acts 143 rfl) rfl ?_
                      refine hw_bp (v := (32 : Int32)) (aX12_acts 144 rfl) (by decide) ?_
                      refine hw_icne (tgt := 281) (aX12_acts 145 rfl) (by decide) rfl (by decide : (32 : Int32).toInt = 32) (fun cd276 => ?_) (fun cd276 => ?_)
                      · refine xw_iloadn (aX12_acts 154 rfl) rfl ?_
                        refine hw_bp (v := (35 : Int32)) (aX12_acts 155 rfl) (by decide) ?_
                        refine hw_icne (tgt := 301) (aX12_acts 156 rfl) (by decide) rfl (by decide : (35 : Int32).toInt = 35) (fun cd277 => ?_) (fun cd277 => ?_)
                        · refine xw_iloadn (aX12_acts 165 rfl) rfl ?_
                          refine hw_sp (v := (155 : Int32)) (aX12_acts 166 rfl) (by decide) ?_
                          refine hw_icne (tgt := 325) (aX12_acts 167 rfl) (by decide) rfl (by decide : (155 : Int32).toInt = 155) (fun cd278 => ?_) (fun cd278 => ?_)
                          · refine xw_iloadn (aX12_acts 177 rfl) rfl ?_
                            refine hw_bp (v := (26 : Int32)) (aX12_acts 178 rfl) (by decide) ?_
                            have j340 : hw sk base (d + 3) none 184 368 [(0, .ref (base + 121)), (1, .int (a1)), (2, .int (a2)), (3, .long (a3)), (5, .long (a4)), (7, .int (FI 128 (a1).toNatClampNeg)), (9, .long (g10))] [] (n, sl, SH, FI, FL, FR) (h_V (fun s => ∃ FI' FL', s = (n, sl, SH, FI', FL', FR) ∧ h_fr FI FI' [] [128, 136, 138] ∧ h_fr FL FL' [] [127, 137] ∧ h_ai 128 2 0 128 FI' ∧ (rl_h 2 (FI' 136) (FL' 137) (FI' 138)))) := by
                              refine xw_iloadn (aX12_acts 202 rfl) rfl ?_
                              refine hw_bp (v := (80 : Int32)) (aX12_acts 203 rfl) (by decide) ?_
                              have j388 : hw sk base (d + 3) none 184 395 [(0, .ref (base + 121)), (1, .int (a1)), (2, .int (a2)), (3, .long (a3)), (5, .long (a4)), (7, .int (FI 128 (a1).toNatClampNeg)), (9, .long (g10))] [] (n, sl, SH, FI, FL, FR) (h_V (fun s => ∃ FI' FL', s = (n, sl, SH, FI', FL', FR) ∧ h_fr FI FI' [] [128, 136, 138] ∧ h_fr FL FL' [] [127, 137] ∧ h_ai 128 2 0 128 FI' ∧ (rl_h 2 (FI' 136) (FL' 137) (FI' 138)))) := by
                                refine xw_iloadn (aX12_acts 218 rfl) rfl ?_
                                refine hw_sp (v := (144 : Int32)) (aX12_acts 219 rfl) (by decide) ?_
                                refine hw_icne (tgt := 413) (aX12_acts 220 rfl) (by decide) rfl (by decide : (144 : Int32).toInt = 144) (fun cd389 => ?_) (fun cd389 => ?_)
                                · refine xw_iloadn (aX12_acts 228 rfl) rfl ?_
                                  refine hw_sp (v := (159 : Int32)) (aX12_acts 229 rfl) (by decide) ?_
                                  refine hw_icne (tgt := 442) (aX12_acts 230 rfl) (by decide) rfl (by decide : (159 : Int32).toInt = 159) (fun cd390 => ?_) (fun cd390 => ?_)
                                  · refine xw_iloadn (aX12_acts 245 rfl) rfl ?_
                                    refine hw_sp (v := (158 : Int32)) (aX12_acts 246 rfl) (by decide) ?_
                                    refine hw_icne (tgt := 459) (aX12_acts 247 rfl) (by decide) rfl (by decide : (158 : Int32).toInt = 158) (fun cd391 => ?_) (fun cd391 => ?_)
                                    · refine xw_vret (aX12_acts 255 rfl) rfl ?_
                                      exact ⟨rfl, _, _, rfl, fr_rf, fr_rf, ai128, (show rl_h 2 ((FI) 136) ((FL) 137) ((FI) 138) from rel_hold)⟩
                                    · have hz := hid_e g5 (by omega)
                                      refine hw_aloadn (aX12_acts 248 rfl) rfl ?_
                                      refine xw_iloadn (aX12_acts 249 rfl) rfl ?_
                                      refine hw_ic (v := (4 : Int32)) (aX12_acts 250 rfl) (by decide) ?_
                                      refine xw_lload (aX12_acts 251 rfl) rfl ?_
                                      refine xw_lloadn (aX12_acts 252 rfl) rfl ?_
                                      have e392 : 0 ≤ (a3).toInt ∧ (a3).toInt ≤ 600 := by omega
                                      refine xw_l2i (aX12_acts 253 rfl) ?_
                                      refine hw_tie (A := (a3).toInt) (l_2i rfl (by omega) (by omega)) (fun x393 e394 => ?_)
                                      refine hw_callV (Bs := [.int (a1), .int ((4 : Int32)), .long (a4), .int (x393)]) (rest := []) (aX12_acts 254 rfl) wc_RX12_350 (by decide) rfl wi_yX12_hold wv_yX12_hold (c121 hS) (s121 hS) rfl rfl rfl (Nat.le_of_ble_eq_true rfl) (Nat.le_of_ble_eq_true rfl) (m_hold (d := d + 2) hS hF (a1) ((4 : Int32)) (a4) (x393) (by have := ((by decide : (4 : Int32).toInt = 4) : ((4 : Int32)).toInt = 4); show ((4 : Int32)).toInt = 2 → 0 ≤ (a4).toInt ∧ (a4).toInt ≤ 31; omega) (by have := ((by decide : (4 : Int32).toInt = 4) : ((4 : Int32)).toInt = 4); have := (e394 : (x393).toInt = (a3).toInt); show ((4 : Int32)).toInt = 4 → 0 ≤ (a4).toInt ∧ 0 ≤ (x393).toInt ∧ (x393).toInt ≤ 600 ∧ (a4).toInt + (x393).toInt ≤ 19200; omega) (by show 0 ≤ (a1).toInt ∧ (a1).toInt ≤ 1; omega) (show rl_h 2 ((FI) 136) ((FL) 137) ((FI) 138) from rel_hold)) (fun v395 sv396 p397 => ?_)
                                      obtain ⟨rfl, FI399, FL400, rfl, f398I, f398L, rl402⟩ := p397
                                      show hw sk base _ none _ _ _ [] _ _
                                      refine xw_vret (aX12_acts 255 rfl) rfl ?_
                                      exact ⟨rfl, _, _, rfl, (fr_tr fr_rf f398I (by decide) (by decide)), (fr_tr fr_rf f398L (by decide) (by decide)), (ai_eq ai128 (f398I.2 128 (by decide) (by decide))), (show rl_h 2 ((FI399) 136) ((FL400) 137) ((FI399) 138) from rl402)⟩
                                  · have hn1 : 1 ≤ ((FI 128 (a1).toNatClampNeg).toInt) := hid_e g0 (by omega)
                                    refine hw_aloadn (aX12_acts 231 rfl) rfl ?_
                                    refine hw_get (v := .ref (base + 128)) (aX12_acts 232 rfl) wf_RX12_36 (c121 hS) (s121 hS) (by decide) (congrArg (fun r => va_rf (h_rf base r)) (r121_15 hF)) ?_
                                    refine xw_iloadn (aX12_acts 233 rfl) rfl ?_
                                    refine xw_iload (aX12_acts 234 rfl) rfl ?_
                                    refine hw_ic (v := (1 : Int32)) (aX12_acts 235 rfl) (by decide) ?_
                                    refine xw_isub (aX12_acts 236 rfl) ?_
                                    refine hw_tie (A := ((FI 128 (a1).toNatClampNeg).toInt) - (1)) (i_sub rfl (by decide : (1 : Int32).toInt = 1) (by omega) (by omega)) (fun x403 e404 => ?_)
                                    refine hw_iast (aX12_acts 237 rfl) (c128 hS) (s128 hS) (h_in rfl (by omega) (by omega)) ?_
                                    have e405 : h_ai 128 2 0 128 (h_up FI 128 (a1).toNatClampNeg (x403)) := ai_up ai128 e404 (by omega) (by omega)
                                    refine hw_aloadn (aX12_acts 238 rfl) rfl ?_
                                    refine xw_iloadn (aX12_acts 239 rfl) rfl ?_
                                    refine hw_ic (v := (3 : Int32)) (aX12_acts 240 rfl) (by decide) ?_
                                    refine xw_lload (aX12_acts 241 rfl) rfl ?_
                                    refine hw_ic (v := (0 : Int32)) (aX12_acts 242 rfl) (by decide) ?_
                                    refine hw_callV (Bs := [.int (a1), .int ((3 : Int32)), .long (g10), .int ((0 : Int32))]) (rest := []) (aX12_acts 243 rfl) wc_RX12_350 (by decide) rfl wi_yX12_hold wv_yX12_hold (c121 hS) (s121 hS) rfl rfl rfl (Nat.le_of_ble_eq_true rfl) (Nat.le_of_ble_eq_true rfl) (m_hold (d := d + 2) hS hF (a1) ((3 : Int32)) (g10) ((0 : Int32)) (by have := ((by decide : (3 : Int32).toInt = 3) : ((3 : Int32)).toInt = 3); show ((3 : Int32)).toInt = 2 → 0 ≤ (g10).toInt ∧ (g10).toInt ≤ 31; omega) (by have := ((by decide : (3 : Int32).toInt = 3) : ((3 : Int32)).toInt = 3); have := ((by decide : (0 : Int32).toInt = 0) : ((0 : Int32)).toInt = 0); show ((3 : Int32)).toInt = 4 → 0 ≤ (g10).toInt ∧ 0 ≤ ((0 : Int32)).toInt ∧ ((0 : Int32)).toInt ≤ 600 ∧ (g10).toInt + ((0 : Int32)).toInt ≤ 19200; omega) (by show 0 ≤ (a1).toInt ∧ (a1).toInt ≤ 1; omega) (show rl_h 2 ((h_up FI 128 (a1).toNatClampNeg (x403)) 136) ((FL) 137) ((h_up FI 128 (a1).toNatClampNeg (x403)) 138) from rel_hold)) (fun v406 sv407 p408 => ?_)
                                    obtain ⟨rfl, FI410, FL411, rfl, f409I, f409L, rl413⟩ := p408
                                    show hw sk base _ none _ _ _ [] _ _
                                    refine xw_goto (tgt := 459) (aX12_acts 244 rfl) (by decide) ?_
                                    refine xw_vret (aX12_acts 255 rfl) rfl ?_
                                    exact ⟨rfl, _, _, rfl, (fr_tr (fr_ua fr_rf (by decide) (by decide)) f409I (by decide) (by decide)), (fr_tr fr_rf f409L (by decide) (by decide)), (ai_eq e405 (f409I.2 128 (by decide) (by decide))), (show rl_h 2 ((FI410) 136) ((FL411) 137) ((FI410) 138) from rl413)⟩
                                · have hz := hid_e g3 (by omega)
                                  refine hw_aloadn (aX12_acts 221 rfl) rfl ?_
                                  refine xw_iloadn (aX12_acts 222 rfl) rfl ?_
                                  refine hw_ic (v := (2 : Int32)) (aX12_acts 223 rfl) (by decide) ?_
                                  refine xw_lloadn (aX12_acts 224 rfl) rfl ?_
                                  refine hw_ic (v := (0 : Int32)) (aX12_acts 225 rfl) (by decide) ?_
                                  refine hw_callV (Bs := [.int (a1), .int ((2 : Int32)), .long (a3), .int ((0 : Int32))]) (rest := []) (aX12_acts 226 rfl) wc_RX12_350 (by decide) rfl wi_yX12_hold wv_yX12_hold (c121 hS) (s121 hS) rfl rfl rfl (Nat.le_of_ble_eq_true rfl) (Nat.le_of_ble_eq_true rfl) (m_hold (d := d + 2) hS hF (a1) ((2 : Int32)) (a3) ((0 : Int32)) (by have := ((by decide : (2 : Int32).toInt = 2) : ((2 : Int32)).toInt = 2); show ((2 : Int32)).toInt = 2 → 0 ≤ (a3).toInt ∧ (a3).toInt ≤ 31; omega) (by have := ((by decide : (2 : Int32).toInt = 2) : ((2 : Int32)).toInt = 2); have := ((by decide : (0 : Int32).toInt = 0) : ((0 : Int32)).toInt = 0); show ((2 : Int32)).toInt = 4 → 0 ≤ (a3).toInt ∧ 0 ≤ ((0 : Int32)).toInt ∧ ((0 : Int32)).toInt ≤ 600 ∧ (a3).toInt + ((0 : Int32)).toInt ≤ 19200; omega) (by show 0 ≤ (a1).toInt ∧ (a1).toInt ≤ 1; omega) (show rl_h 2 ((FI) 136) ((FL) 137) ((FI) 138) from rel_hold)) (fun v414 sv415 p416 => ?_)
                                  obtain ⟨rfl, FI418, FL419, rfl, f417I, f417L, rl421⟩ := p416
                                  show hw sk base _ none _ _ _ [] _ _
                                  refine xw_goto (tgt := 459) (aX12_acts 227 rfl) (by decide) ?_
                                  refine xw_vret (aX12_acts 255 rfl) rfl ?_
                                  exact ⟨rfl, _, _, rfl, (fr_tr fr_rf f417I (by decide) (by decide)), (fr_tr fr_rf f417L (by decide) (by decide)), (ai_eq ai128 (f417I.2 128 (by decide) (by decide))), (show rl_h 2 ((FI418) 136) ((FL419) 137) ((FI418) 138) from rl421)⟩
                              refine hw_iclt (tgt := 395) (aX12_acts 204 rfl) (by decide) rfl (by decide : (80 : Int32).toInt = 80) (fun cd422 => ?_) (fun cd422 => ?_)
                              · exact hw_L (j388) ⟨rfl, rfl, rfl, rfl, rfl, rfl, rfl, trivial⟩
                              · refine xw_iloadn (aX12_acts 205 rfl) rfl ?_
                                refine hw_bp (v := (111 : Int32)) (aX12_acts 206 rfl) (by decide) ?_
                                refine hw_icgt (tgt := 395) (aX12_acts 207 rfl) (by decide) rfl (by decide : (111 : Int32).toInt = 111) (fun cd423 => ?_) (fun cd423 => ?_)
                                · exact hw_L (j388) ⟨rfl, rfl, rfl, rfl, rfl, rfl, rfl, trivial⟩
                                · refine hw_aloadn (aX12_acts 208 rfl) rfl ?_
                                  refine xw_iloadn (aX12_acts 209 rfl) rfl ?_
                                  refine hw_ic (v := (2 : Int32)) (aX12_acts 210 rfl) (by decide) ?_
                                  refine xw_iloadn (aX12_acts 211 rfl) rfl ?_
                                  refine hw_bp (v := (80 : Int32)) (aX12_acts 212 rfl) (by decide) ?_
                                  refine xw_isub (aX12_acts 213 rfl) ?_
                                  refine hw_tie (A := ((a2).toInt) - (80)) (i_sub rfl (by decide : (80 : Int32).toInt = 80) (by omega) (by omega)) (fun x424 e425 => ?_)
                                  refine xw_i2l (aX12_acts 214 rfl) ?_
                                  refine hw_tle (A := ((a2).toInt) - (80)) (i_2l e425) (fun x426 e427 => ?_)
                                  refine hw_ic (v := (0 : Int32)) (aX12_acts 215 rfl) (by decide) ?_
                                  refine hw_callV (Bs := [.int (a1), .int ((2 : Int32)), .long (x426), .int ((0 : Int32))]) (rest := []) (aX12_acts 216 rfl) wc_RX12_350 (by decide) rfl wi_yX12_hold wv_yX12_hold (c121 hS) (s121 hS) rfl rfl rfl (Nat.le_of_ble_eq_true rfl) (Nat.le_of_ble_eq_true rfl) (m_hold (d := d + 2) hS hF (a1) ((2 : Int32)) (x426) ((0 : Int32)) (by have := ((by decide : (2 : Int32).toInt = 2) : ((2 : Int32)).toInt = 2); have := (e427 : (x426).toInt = ((a2).toInt) - (80)); show ((2 : Int32)).toInt = 2 → 0 ≤ (x426).toInt ∧ (x426).toInt ≤ 31; omega) (by have := ((by decide : (2 : Int32).toInt = 2) : ((2 : Int32)).toInt = 2); have := (e427 : (x426).toInt = ((a2).toInt) - (80)); have := ((by decide : (0 : Int32).toInt = 0) : ((0 : Int32)).toInt = 0); show ((2 : Int32)).toInt = 4 → 0 ≤ (x426).toInt ∧ 0 ≤ ((0 : Int32)).toInt ∧ ((0 : Int32)).toInt ≤ 600 ∧ (x426).toInt + ((0 : Int32)).toInt ≤ 19200; omega) (by show 0 ≤ (a1).toInt ∧ (a1).toInt ≤ 1; omega) (show rl_h 2 ((FI) 136) ((FL) 137) ((FI) 138) from rel_hold)) (fun v428 sv429 p430 => ?_)
                                  obtain ⟨rfl, FI432, FL433, rfl, f431I, f431L, rl435⟩ := p430
                                  show hw sk base _ none _ _ _ [] _ _
                                  refine xw_goto (tgt := 459) (aX12_acts 217 rfl) (by decide) ?_
                                  refine xw_vret (aX12_acts 255 rfl) rfl ?_
                                  exact ⟨rfl, _, _, rfl, (fr_tr fr_rf f431I (by decide) (by decide)), (fr_tr fr_rf f431L (by decide) (by decide)), (ai_eq ai128 (f431I.2 128 (by decide) (by decide))), (show rl_h 2 ((FI432) 136) ((FL433) 137) ((FI432) 138) from rl435)⟩
                            refine hw_iclt (tgt := 368) (aX12_acts 179 rfl) (by decide) rfl (by decide : (26 : Int32).toInt = 26) (fun cd436 => ?_) (fun cd436 => ?_)
                            · exact hw_L (j340) ⟨rfl, rfl, rfl, rfl, rfl, rfl, rfl, trivial⟩
                            · refine xw_iloadn (aX12_acts 180 rfl) rfl ?_
                              refine hw_bp (v := (46 : Int32)) (aX12_acts 181 rfl) (by decide) ?_
                              refine hw_icgt (tgt := 368) (aX12_acts 182 rfl) (by decide) rfl (by decide : (46 : Int32).toInt = 46) (fun cd437 => ?_) (fun cd437 => ?_)
                              · exact hw_L (j340) ⟨rfl, rfl, rfl, rfl, rfl, rfl, rfl, trivial⟩
                              · have hn2 : 2 ≤ ((FI 128 (a1).toNatClampNeg).toInt) := hid_e g1 (by omega)
                                refine hw_aloadn (aX12_acts 183 rfl) rfl ?_
                                refine hw_get (v := .ref (base + 128)) (aX12_acts 184 rfl) wf_RX12_36 (c121 hS) (s121 hS) (by decide) (congrArg (fun r => va_rf (h_rf base r)) (r121_15 hF)) ?_
                                refine xw_iloadn (aX12_acts 185 rfl) rfl ?_
                                refine xw_iload (aX12_acts 186 rfl) rfl ?_
                                refine hw_ic (v := (1 : Int32)) (aX12_acts 187 rfl) (by decide) ?_
                                refine xw_isub (aX12_acts 188 rfl) ?_
                                refine hw_tie (A := ((FI 128 (a1).toNatClampNeg).toInt) - (1)) (i_sub rfl (by decide : (1 : Int32).toInt = 1) (by omega) (by omega)) (fun x438 e439 => ?_)
                                refine hw_iast (aX12_acts 189 rfl) (c128 hS) (s128 hS) (h_in rfl (by omega) (by omega)) ?_
                                have e440 : h_ai 128 2 0 128 (h_up FI 128 (a1).toNatClampNeg (x438)) := ai_up ai128 e439 (by omega) (by omega)
                                refine hw_aloadn (aX12_acts 190 rfl) rfl ?_
                                refine hw_get (v := .ref (base + 127)) (aX12_acts 191 rfl) wf_RX12_33 (c121 hS) (s121 hS) (by decide) (congrArg (fun r => va_rf (h_rf base r)) (r121_14 hF)) ?_
                                refine xw_iload (aX12_acts 192 rfl) rfl ?_
                                refine hw_ic (v := (1 : Int32)) (aX12_acts 193 rfl) (by decide) ?_
                                refine xw_isub (aX12_acts 194 rfl) ?_
                                refine hw_tie (A := ((((128) * ((a1).toInt)) + ((FI 128 (a1).toNatClampNeg).toInt)) - (1)) - (1)) (i_sub e7 (by decide : (1 : Int32).toInt = 1) (by omega) (by omega)) (fun x441 e442 => ?_)
                                refine hw_aloadn (aX12_acts 195 rfl) rfl ?_
                                refine xw_iloadn (aX12_acts 196 rfl) rfl ?_
                                refine xw_lload (aX12_acts 197 rfl) rfl ?_
                                refine xw_lload (aX12_acts 198 rfl) rfl ?_
                                have hz := fc36_0.2.2
                                refine hw_callV (Bs := [.int (a2), .long (g143), .long (g10)]) (rest := [.int (x441), .ref (base + 127)]) (aX12_acts 199 rfl) wc_RX12_346 (by decide) rfl wi_yX12_worked wv_yX12_worked (c121 hS) (s121 hS) rfl rfl rfl (Nat.le_of_ble_eq_true rfl) (Nat.le_of_ble_eq_true rfl) (m_worked (d := d) hS hF (a2) (g143) (g10) (by show (a2).toInt = 27 ∨ (a2).toInt = 29 → (g10).toInt ≠ 0; omega)) (fun v443 sv444 p445 => ?_)
                                obtain ⟨r449, rfl, FI447, FL448, rfl, rfl, rfl⟩ := p445
                                have rg_r449 := l_rng r449
                                show hw sk base _ none _ _ _ [.long (r449), .int (x441), .ref (base + 127)] _ _
                                refine hw_last (aX12_acts 200 rfl) (c127 hS) (s127 hS) (h_in e442 (by omega) (by omega)) ?_
                                refine xw_goto (tgt := 459) (aX12_acts 201 rfl) (by decide) ?_
                                refine xw_vret (aX12_acts 255 rfl) rfl ?_
                                exact ⟨rfl, _, _, rfl, (fr_ua fr_rf (by decide) (by decide)), (fr_ua fr_rf (by decide) (by decide)), e440, (show rl_h 2 ((h_up FI 128 (a1).toNatClampNeg (x438)) 136) ((h_up FL 127 (x441).toNatClampNeg (r449)) 137) ((h_up FI 128 (a1).toNatClampNeg (x438)) 138) from rel_hold)⟩
                          · have hn1 : 1 ≤ ((FI 128 (a1).toNatClampNeg).toInt) := hid_e g0 (by omega)
                            refine hw_aloadn (aX12_acts 168 rfl) rfl ?_
                            refine hw_get (v := .ref (base + 127)) (aX12_acts 169 rfl) wf_RX12_33 (c121 hS) (s121 hS) (by decide) (congrArg (fun r => va_rf (h_rf base r)) (r121_14 hF)) ?_
                            refine xw_iload (aX12_acts 170 rfl) rfl ?_
                            refine hw_aloadn (aX12_acts 171 rfl) rfl ?_
                            refine hw_get (v := .long (FL 121 9)) (aX12_acts 172 rfl) wf_RX12_212 (c121 hS) (s121 hS) (by decide) (congrArg Value.long (show FL 121 9 = FL 121 9 from rfl)) ?_
                            have e450 := l_rng (FL 121 9)
                            refine xw_lload (aX12_acts 173 rfl) rfl ?_
                            refine xw_ladd (aX12_acts 174 rfl) ?_
                            refine hw_tl (fun x451 => ?_)
                            have b452 := l_rng x451
                            refine hw_last (aX12_acts 175 rfl) (c127 hS) (s127 hS) (h_in e7 (by omega) (by omega)) ?_
                            refine xw_goto (tgt := 459) (aX12_acts 176 rfl) (by decide) ?_
                            refine xw_vret (aX12_acts 255 rfl) rfl ?_
                            exact ⟨rfl, _, _, rfl, fr_rf, (fr_ua fr_rf (by decide) (by decide)), ai128, (show rl_h 2 ((FI) 136) ((h_up FL 127 (x6).toNatClampNeg (x451)) 137) ((FI) 138) from rel_hold)⟩
                        · have hn1 : 1 ≤ ((FI 128 (a1).toNatClampNeg).toInt) := hid_e g0 (by omega)
                          refine hw_aloadn (aX12_acts 157 rfl) rfl ?_
                          refine hw_get (v := .ref (base + 127)) (aX12_acts 158 rfl) wf_RX12_33 (c121 hS) (s121 hS) (by decide) (congrArg (fun r => va_rf (h_rf base r)) (r121_14 hF)) ?_
                          refine xw_iload (aX12_acts 159 rfl) rfl ?_
                          refine xw_lload (aX12_acts 160 rfl) rfl ?_
                          refine xw_lloadn (aX12_acts 161 rfl) rfl ?_
                          refine xw_ladd (aX12_acts 162 rfl) ?_
                          refine hw_tl (fun x453 => ?_)
                          have b454 := l_rng x453
                          refine hw_last (aX12_acts 163 rfl) (c127 hS) (s127 hS) (h_in e7 (by omega) (by omega)) ?_
                          refine xw_goto (tgt := 459) (aX12_acts 164 rfl) (by decide) ?_
                          refine xw_vret (aX12_acts 255 rfl) rfl ?_
                          exact ⟨rfl, _, _, rfl, fr_rf, (fr_ua fr_rf (by decide) (by decide)), ai128, (show rl_h 2 ((FI) 136) ((h_up FL 127 (x6).toNatClampNeg (x453)) 137) ((FI) 138) from rel_hold)⟩
                      · have hn1 : 1 ≤ ((FI 128 (a1).toNatClampNeg).toInt) := hid_e g0 (by omega)
                        refine hw_aloadn (aX12_acts 146 rfl) rfl ?_
                        refine hw_get (v := .ref (base + 127)) (aX12_acts 147 rfl) wf_RX12_33 (c121 hS) (s121 hS) (by decide) (congrArg (fun r => va_rf (h_rf base r)) (r121_14 hF)) ?_
                        refine xw_iload (aX12_acts 148 rfl) rfl ?_
                        refine xw_lload (aX12_acts 149 rfl) rfl ?_
                        refine xw_ldc2 (aX12_acts 150 rfl) wk_RX12_226 ?_
                        refine xw_lxor (aX12_acts 151 rfl) ?_
                        refine hw_tl (fun x455 => ?_)
                        have b456 := l_rng x455
                        refine hw_last (aX12_acts 152 rfl) (c127 hS) (s127 hS) (h_in e7 (by omega) (by omega)) ?_
                        refine xw_goto (tgt := 459) (aX12_acts 153 rfl) (by decide) ?_
                        refine xw_vret (aX12_acts 255 rfl) rfl ?_
                        exact ⟨rfl, _, _, rfl, fr_rf, (fr_ua fr_rf (by decide) (by decide)), ai128, (show rl_h 2 ((FI) 136) ((h_up FL 127 (x6).toNatClampNeg (x455)) 137) ((FI) 138) from rel_hold)⟩
                    · have hn1 : 1 ≤ ((FI 128 (a1).toNatClampNeg).toInt) := hid_e g0 (by omega)
                      refine hw_aloadn (aX12_acts 136 rfl) rfl ?_
                      refine hw_get (v := .ref (base + 127)) (aX12_acts 137 rfl) wf_RX12_33 (c121 hS) (s121 hS) (by decide) (congrArg (fun r => va_rf (h_rf base r)) (r121_14 hF)) ?_
                      refine xw_iload (aX12_acts 138 rfl) rfl ?_
                      refine xw_lload (aX12_acts 139 rfl) rfl ?_
                      refine xw_lneg (aX12_acts 140 rfl) ?_
                      refine hw_tl (fun x457 => ?_)
                      have b458 := l_rng x457
                      refine hw_last (aX12_acts 141 rfl) (c127 hS) (s127 hS) (h_in e7 (by omega) (by omega)) ?_
                      refine xw_goto (tgt := 459) (aX12_acts 142 rfl) (by decide) ?_
                      refine xw_vret (aX12_acts 255 rfl) rfl ?_
                      exact ⟨rfl, _, _, rfl, fr_rf, (fr_ua fr_rf (by decide) (by decide)), ai128, (show rl_h 2 ((FI) 136) ((h_up FL 127 (x6).toNatClampNeg (x457)) 137) ((FI) 138) from rel_hold)⟩
                  · have hn1 : 1 ≤ ((FI 128 (a1).toNatClampNeg).toInt) := hid_e g0 (by omega)
                    refine hw_aloadn (aX12_acts 120 rfl) rfl ?_
                    refine hw_get (v := .ref (base + 127)) (aX12_acts 121 rfl) wf_RX12_33 (c121 hS) (s121 hS) (by decide) (congrArg (fun r => va_rf (h_rf base r)) (r121_14 hF)) ?_
                    refine xw_iload (aX12_acts 122 rfl) rfl ?_
                    refine xw_lload (aX12_acts 123 rfl) rfl ?_
                    refine hw_lc (v := (0 : Int64)) (aX12_acts 124 rfl) (by decide) ?_
                    have j463 : ∀ (g462 : Int64), hw sk base (d + 3) none 184 236 [(0, .ref (base + 121))] [.long (g462), .int (x6), .ref (base + 127)] (n, sl, SH, FI, FL, FR) (h_V (fun s => ∃ FI' FL', s = (n, sl, SH, FI', FL', FR) ∧ h_fr FI FI' [] [128, 136, 138] ∧ h_fr FL FL' [] [127, 137] ∧ h_ai 128 2 0 128 FI' ∧ (rl_h 2 (FI' 136) (FL' 137) (FI' 138)))) := by
                      intro g462
                      have rg_g462 := l_rng g462
                      refine hw_last (aX12_acts 131 rfl) (c127 hS) (s127 hS) (h_in e7 (by omega) (by omega)) ?_
                      refine xw_goto (tgt := 459) (aX12_acts 132 rfl) (by decide) ?_
                      refine xw_vret (aX12_acts 255 rfl) rfl ?_
                      exact ⟨rfl, _, _, rfl, fr_rf, (fr_ua fr_rf (by decide) (by decide)), ai128, (show rl_h 2 ((FI) 136) ((h_up FL 127 (x6).toNatClampNeg (g462)) 137) ((FI) 138) from rel_hold)⟩
                    refine hw_lcge (tgt := 234) (aX12_acts 125 rfl) (aX12_acts 126 rfl) (by decide) rfl (by decide : (0 : Int64).toInt = 0) (fun cd464 => ?_) (fun cd464 => ?_)
                    · refine xw_lload (aX12_acts 130 rfl) rfl ?_
                      exact hw_L (j463 (g10)) ⟨rfl, trivial⟩
                    · refine xw_lload (aX12_acts 127 rfl) rfl ?_
                      refine xw_lneg (aX12_acts 128 rfl) ?_
                      refine hw_tl (fun x465 => ?_)
                      have b466 := l_rng x465
                      refine xw_goto (tgt := 236) (aX12_acts 129 rfl) (by decide) ?_
                      exact hw_L (j463 (x465)) ⟨rfl, trivial⟩
                · have hn1 : 1 ≤ ((FI 128 (a1).toNatClampNeg).toInt) := hid_e g0 (by omega)
                  refine hw_aloadn (aX12_acts 107 rfl) rfl ?_
                  refine hw_get (v := .ref (base + 127)) (aX12_acts 108 rfl) wf_RX12_33 (c121 hS) (s121 hS) (by decide) (congrArg (fun r => va_rf (h_rf base r)) (r121_14 hF)) ?_
                  refine xw_iload (aX12_acts 109 rfl) rfl ?_
                  refine hw_aloadn (aX12_acts 110 rfl) rfl ?_
                  refine xw_lload (aX12_acts 111 rfl) rfl ?_
                  have hy := hid_e g4 (by omega); have hz := fc36_0.2.1 (by omega)
                  have e467 : 0 ≤ (g10).toInt ∧ (g10).toInt ≤ 4096 := by omega
                  refine xw_lloadn (aX12_acts 112 rfl) rfl ?_
                  have e468 : 1 ≤ (a3).toInt ∧ (a3).toInt ≤ 8 := by omega
                  refine xw_l2i (aX12_acts 113 rfl) ?_
                  refine hw_tie (A := (a3).toInt) (l_2i rfl (by omega) (by omega)) (fun x469 e470 => ?_)
                  refine hw_callV (Bs := [.long (g10), .int (x469)]) (rest := [.int (x6), .ref (base + 127)]) (aX12_acts 114 rfl) wc_RX12_342 (by decide) rfl wi_yX12_read wv_yX12_read (c121 hS) (s121 hS) rfl rfl rfl (Nat.le_of_ble_eq_true rfl) (Nat.le_of_ble_eq_true rfl) (m_read (d := d + 2) hS hF (g10) (x469) (by have := (e470 : (x469).toInt = (a3).toInt); show (g10).toInt + (x469).toInt ≤ 4096; omega) (by show 0 ≤ (g10).toInt ∧ (g10).toInt ≤ 4096; omega) (by have := (e470 : (x469).toInt = (a3).toInt); show 1 ≤ (x469).toInt ∧ (x469).toInt ≤ 8; omega)) (fun v471 sv472 p473 => ?_)
                  obtain ⟨r477, rfl, FI475, FL476, rfl, rfl, rfl⟩ := p473
                  have rg_r477 := l_rng r477
                  show hw sk base _ none _ _ _ [.long (r477), .int (x6), .ref (base + 127)] _ _
                  refine hw_last (aX12_acts 115 rfl) (c127 hS) (s127 hS) (h_in e7 (by omega) (by omega)) ?_
                  refine xw_goto (tgt := 459) (aX12_acts 116 rfl) (by decide) ?_
                  refine xw_vret (aX12_acts 255 rfl) rfl ?_
                  exact ⟨rfl, _, _, rfl, fr_rf, (fr_ua fr_rf (by decide) (by decide)), ai128, (show rl_h 2 ((FI) 136) ((h_up FL 127 (x6).toNatClampNeg (r477)) 137) ((FI) 138) from rel_hold)⟩
              · have hn1 : 1 ≤ ((FI 128 (a1).toNatClampNeg).toInt) := hid_e g0 (by omega)
                refine hw_aloadn (aX12_acts 95 rfl) rfl ?_
                refine hw_get (v := .ref (base + 127)) (aX12_acts 96 rfl) wf_RX12_33 (c121 hS) (s121 hS) (by decide) (congrArg (fun r => va_rf (h_rf base r)) (r121_14 hF)) ?_
                refine xw_iload (aX12_acts 97 rfl) rfl ?_
                refine hw_aloadn (aX12_acts 98 rfl) rfl ?_
                refine xw_lload (aX12_acts 99 rfl) rfl ?_
                have hz := fc36_0.1 (by omega)
                have e478 : 0 ≤ (g10).toInt ∧ (g10).toInt ≤ 4088 := by omega
                refine hw_bp (v := (8 : Int32)) (aX12_acts 100 rfl) (by decide) ?_
                refine hw_callV (Bs := [.long (g10), .int ((8 : Int32))]) (rest := [.int (x6), .ref (base + 127)]) (aX12_acts 101 rfl) wc_RX12_342 (by decide) rfl wi_yX12_read wv_yX12_read (c121 hS) (s121 hS) rfl rfl rfl (Nat.le_of_ble_eq_true rfl) (Nat.le_of_ble_eq_true rfl) (m_read (d := d + 2) hS hF (g10) ((8 : Int32)) (by have := ((by decide : (8 : Int32).toInt = 8) : ((8 : Int32)).toInt = 8); show (g10).toInt + ((8 : Int32)).toInt ≤ 4096; omega) (by show 0 ≤ (g10).toInt ∧ (g10).toInt ≤ 4096; omega) (by have := ((by decide : (8 : Int32).toInt = 8) : ((8 : Int32)).toInt = 8); show 1 ≤ ((8 : Int32)).toInt ∧ ((8 : Int32)).toInt ≤ 8; omega)) (fun v479 sv480 p481 => ?_)
                obtain ⟨r485, rfl, FI483, FL484, rfl, rfl, rfl⟩ := p481
                have rg_r485 := l_rng r485
                show hw sk base _ none _ _ _ [.long (r485), .int (x6), .ref (base + 127)] _ _
                refine hw_last (aX12_acts 102 rfl) (c127 hS) (s127 hS) (h_in e7 (by omega) (by omega)) ?_
                refine xw_goto (tgt := 459) (aX12_acts 103 rfl) (by decide) ?_
                refine xw_vret (aX12_acts 255 rfl) rfl ?_
                exact ⟨rfl, _, _, rfl, fr_rf, (fr_ua fr_rf (by decide) (by decide)), ai128, (show rl_h 2 ((FI) 136) ((h_up FL 127 (x6).toNatClampNeg (r485)) 137) ((FI) 138) from rel_hold)⟩
            · have hn3 : 3 ≤ ((FI 128 (a1).toNatClampNeg).toInt) := hid_e g2 (by omega)
              refine hw_aloadn (aX12_acts 67 rfl) rfl ?_
              refine hw_get (v := .ref (base + 127)) (aX12_acts 68 rfl) wf_RX12_33 (c121 hS) (s121 hS) (by decide) (congrArg (fun r => va_rf (h_rf base r)) (r121_14 hF)) ?_
              refine xw_iload (aX12_acts 69 rfl) rfl ?_
              refine xw_lload (aX12_acts 70 rfl) rfl ?_
              refine hw_last (aX12_acts 71 rfl) (c127 hS) (s127 hS) (h_in e7 (by omega) (by omega)) ?_
              refine hw_aloadn (aX12_acts 72 rfl) rfl ?_
              refine hw_get (v := .ref (base + 127)) (aX12_acts 73 rfl) wf_RX12_33 (c121 hS) (s121 hS) (by decide) (congrArg (fun r => va_rf (h_rf base r)) (r121_14 hF)) ?_
              refine xw_iload (aX12_acts 74 rfl) rfl ?_
              refine hw_ic (v := (1 : Int32)) (aX12_acts 75 rfl) (by decide) ?_
              refine xw_isub (aX12_acts 76 rfl) ?_
              refine hw_tie (A := ((((128) * ((a1).toInt)) + ((FI 128 (a1).toNatClampNeg).toInt)) - (1)) - (1)) (i_sub e7 (by decide : (1 : Int32).toInt = 1) (by omega) (by omega)) (fun x486 e487 => ?_)
              refine hw_aloadn (aX12_acts 77 rfl) rfl ?_
              refine hw_get (v := .ref (base + 127)) (aX12_acts 78 rfl) wf_RX12_33 (c121 hS) (s121 hS) (by decide) (congrArg (fun r => va_rf (h_rf base r)) (r121_14 hF)) ?_
              refine xw_iload (aX12_acts 79 rfl) rfl ?_
              refine hw_ic (v := (2 : Int32)) (aX12_acts 80 rfl) (by decide) ?_
              refine xw_isub (aX12_acts 81 rfl) ?_
              refine hw_tie (A := ((((128) * ((a1).toInt)) + ((FI 128 (a1).toNatClampNeg).toInt)) - (1)) - (2)) (i_sub e7 (by decide : (2 : Int32).toInt = 2) (by omega) (by omega)) (fun x488 e489 => ?_)
              refine hw_lald (v := (h_up FL 127 (x6).toNatClampNeg (g143)) 127 (x488).toNatClampNeg) (aX12_acts 82 rfl) (c127 hS) (s127 hS) (h_in e489 (by omega) (by omega)) rfl ?_
              refine hw_tl (fun x490 => ?_)
              have b491 := l_rng x490
              refine hw_last (aX12_acts 83 rfl) (c127 hS) (s127 hS) (h_in e487 (by omega) (by omega)) ?_
              refine hw_aloadn (aX12_acts 84 rfl) rfl ?_
              refine hw_get (v := .ref (base + 127)) (aX12_acts 85 rfl) wf_RX12_33 (c121 hS) (s121 hS) (by decide) (congrArg (fun r => va_rf (h_rf base r)) (r121_14 hF)) ?_
              refine xw_iload (aX12_acts 86 rfl) rfl ?_
              refine hw_ic (v := (2 : Int32)) (aX12_acts 87 rfl) (by decide) ?_
              refine xw_isub (aX12_acts 88 rfl) ?_
              refine hw_tie (A := ((((128) * ((a1).toInt)) + ((FI 128 (a1).toNatClampNeg).toInt)) - (1)) - (2)) (i_sub e7 (by decide : (2 : Int32).toInt = 2) (by omega) (by omega)) (fun x492 e493 => ?_)
              refine xw_lload (aX12_acts 89 rfl) rfl ?_
              refine hw_last (aX12_acts 90 rfl) (c127 hS) (s127 hS) (h_in e493 (by omega) (by omega)) ?_
              refine xw_goto (tgt := 459) (aX12_acts 91 rfl) (by decide) ?_
              refine xw_vret (aX12_acts 255 rfl) rfl ?_
              exact ⟨rfl, _, _, rfl, fr_rf, (fr_ua (fr_ua (fr_ua fr_rf (by decide) (by decide)) (by decide) (by decide)) (by decide) (by decide)), ai128, (show rl_h 2 ((FI) 136) ((h_up (h_up (h_up FL 127 (x6).toNatClampNeg (g143)) 127 (x486).toNatClampNeg (x490)) 127 (x492).toNatClampNeg (g10)) 137) ((FI) 138) from rel_hold)⟩
          · have hn2 : 2 ≤ ((FI 128 (a1).toNatClampNeg).toInt) := hid_e g1 (by omega)
            refine hw_aloadn (aX12_acts 51 rfl) rfl ?_
            refine hw_get (v := .ref (base + 127)) (aX12_acts 52 rfl) wf_RX12_33 (c121 hS) (s121 hS) (by decide) (congrArg (fun r => va_rf (h_rf base r)) (r121_14 hF)) ?_
            refine xw_iload (aX12_acts 53 rfl) rfl ?_
            refine xw_lload (aX12_acts 54 rfl) rfl ?_
            refine hw_last (aX12_acts 55 rfl) (c127 hS) (s127 hS) (h_in e7 (by omega) (by omega)) ?_
            refine hw_aloadn (aX12_acts 56 rfl) rfl ?_
            refine hw_get (v := .ref (base + 127)) (aX12_acts 57 rfl) wf_RX12_33 (c121 hS) (s121 hS) (by decide) (congrArg (fun r => va_rf (h_rf base r)) (r121_14 hF)) ?_
            refine xw_iload (aX12_acts 58 rfl) rfl ?_
            refine hw_ic (v := (1 : Int32)) (aX12_acts 59 rfl) (by decide) ?_
            refine xw_isub (aX12_acts 60 rfl) ?_
            refine hw_tie (A := ((((128) * ((a1).toInt)) + ((FI 128 (a1).toNatClampNeg).toInt)) - (1)) - (1)) (i_sub e7 (by decide : (1 : Int32).toInt = 1) (by omega) (by omega)) (fun x494 e495 => ?_)
            refine xw_lload (aX12_acts 61 rfl) rfl ?_
            refine hw_last (aX12_acts 62 rfl) (c127 hS) (s127 hS) (h_in e495 (by omega) (by omega)) ?_
            refine xw_goto (tgt := 459) (aX12_acts 63 rfl) (by decide) ?_
            refine xw_vret (aX12_acts 255 rfl) rfl ?_
            exact ⟨rfl, _, _, rfl, fr_rf, (fr_ua (fr_ua fr_rf (by decide) (by decide)) (by decide) (by decide)), ai128, (show rl_h 2 ((FI) 136) ((h_up (h_up FL 127 (x6).toNatClampNeg (g143)) 127 (x494).toNatClampNeg (g10)) 137) ((FI) 138) from rel_hold)⟩
        · have hn1 : 1 ≤ ((FI 128 (a1).toNatClampNeg).toInt) := hid_e g0 (by omega)
          refine hw_aloadn (aX12_acts 40 rfl) rfl ?_
          refine hw_get (v := .ref (base + 128)) (aX12_acts 41 rfl) wf_RX12_36 (c121 hS) (s121 hS) (by decide) (congrArg (fun r => va_rf (h_rf base r)) (r121_15 hF)) ?_
          refine xw_iloadn (aX12_acts 42 rfl) rfl ?_
          refine xw_iload (aX12_acts 43 rfl) rfl ?_
          refine hw_ic (v := (1 : Int32)) (aX12_acts 44 rfl) (by decide) ?_
          refine xw_isub (aX12_acts 45 rfl) ?_
          refine hw_tie (A := ((FI 128 (a1).toNatClampNeg).toInt) - (1)) (i_sub rfl (by decide : (1 : Int32).toInt = 1) (by omega) (by omega)) (fun x496 e497 => ?_)
          refine hw_iast (aX12_acts 46 rfl) (c128 hS) (s128 hS) (h_in rfl (by omega) (by omega)) ?_
          have e498 : h_ai 128 2 0 128 (h_up FI 128 (a1).toNatClampNeg (x496)) := ai_up ai128 e497 (by omega) (by omega)
          refine xw_goto (tgt := 459) (aX12_acts 47 rfl) (by decide) ?_
          refine xw_vret (aX12_acts 255 rfl) rfl ?_
          exact ⟨rfl, _, _, rfl, (fr_ua fr_rf (by decide) (by decide)), fr_rf, e498, (show rl_h 2 ((h_up FI 128 (a1).toNatClampNeg (x496)) 136) ((FL) 137) ((h_up FI 128 (a1).toNatClampNeg (x496)) 138) from rel_hold)⟩
    refine hw_icle (tgt := 56) (aX12_acts 24 rfl) (by decide) rfl (by decide : (1 : Int32).toInt = 1) (fun cd499 => ?_) (fun cd499 => ?_)
    · refine hw_lc (v := (0 : Int64)) (aX12_acts 32 rfl) (by decide) ?_
      exact hw_L (j264 ((0 : Int64))) ⟨rfl, rfl, rfl, rfl, rfl, rfl, rfl, rfl, trivial⟩
    · refine hw_aloadn (aX12_acts 25 rfl) rfl ?_
      refine hw_get (v := .ref (base + 127)) (aX12_acts 26 rfl) wf_RX12_33 (c121 hS) (s121 hS) (by decide) (congrArg (fun r => va_rf (h_rf base r)) (r121_14 hF)) ?_
      refine xw_iload (aX12_acts 27 rfl) rfl ?_
      refine hw_ic (v := (1 : Int32)) (aX12_acts 28 rfl) (by decide) ?_
      refine xw_isub (aX12_acts 29 rfl) ?_
      refine hw_tie (A := ((((128) * ((a1).toInt)) + ((FI 128 (a1).toNatClampNeg).toInt)) - (1)) - (1)) (i_sub e7 (by decide : (1 : Int32).toInt = 1) (by omega) (by omega)) (fun x500 e501 => ?_)
      refine hw_lald (v := FL 127 (x500).toNatClampNeg) (aX12_acts 30 rfl) (c127 hS) (s127 hS) (h_in e501 (by omega) (by omega)) rfl ?_
      refine hw_tl (fun x502 => ?_)
      have b503 := l_rng x502
      refine xw_goto (tgt := 57) (aX12_acts 31 rfl) (by decide) ?_
      exact hw_L (j264 (x502)) ⟨rfl, rfl, rfl, rfl, rfl, rfl, rfl, rfl, trivial⟩
  refine hw_ifle (tgt := 35) (aX12_acts 14 rfl) (by decide) rfl (fun cd504 => ?_) (fun cd504 => ?_)
  · refine hw_lc (v := (0 : Int64)) (aX12_acts 20 rfl) (by decide) ?_
    exact hw_L (j137 ((0 : Int64)) (show hid (((a2).toInt = 6 → 0 ≤ ((0 : Int64)).toInt ∧ ((0 : Int64)).toInt ≤ 4088) ∧ ((a2).toInt = 148 → 0 ≤ ((0 : Int64)).toInt ∧ ((0 : Int64)).toInt ≤ 4096 - (a3).toInt) ∧ ((a2).toInt = 27 ∨ (a2).toInt = 29 → ((0 : Int64)).toInt ≠ 0)) from (by have z1 := hid_e g0; have z2 := hid_e g1; show ((a2).toInt = 6 → 0 ≤ ((0 : Int64)).toInt ∧ ((0 : Int64)).toInt ≤ 4088) ∧ ((a2).toInt = 148 → 0 ≤ ((0 : Int64)).toInt ∧ ((0 : Int64)).toInt ≤ 4096 - (a3).toInt) ∧ ((a2).toInt = 27 ∨ (a2).toInt = 29 → ((0 : Int64)).toInt ≠ 0); omega))) ⟨rfl, rfl, rfl, rfl, rfl, rfl, rfl, trivial⟩
  · refine hw_aloadn (aX12_acts 15 rfl) rfl ?_
    refine hw_get (v := .ref (base + 127)) (aX12_acts 16 rfl) wf_RX12_33 (c121 hS) (s121 hS) (by decide) (congrArg (fun r => va_rf (h_rf base r)) (r121_14 hF)) ?_
    refine xw_iload (aX12_acts 17 rfl) rfl ?_
    refine hw_lald (v := FL 127 (x6).toNatClampNeg) (aX12_acts 18 rfl) (c127 hS) (s127 hS) (h_in e7 (by omega) (by omega)) rfl ?_
    have e505 := l_rng (FL 127 (x6).toNatClampNeg)
    have hT := gg0 x6 (by omega)
    refine xw_goto (tgt := 36) (aX12_acts 19 rfl) (by decide) ?_
    exact hw_L (j137 (FL 127 (x6).toNatClampNeg) (show hid (((a2).toInt = 6 → 0 ≤ (FL 127 (x6).toNatClampNeg).toInt ∧ (FL 127 (x6).toNatClampNeg).toInt ≤ 4088) ∧ ((a2).toInt = 148 → 0 ≤ (FL 127 (x6).toNatClampNeg).toInt ∧ (FL 127 (x6).toNatClampNeg).toInt ≤ 4096 - (a3).toInt) ∧ ((a2).toInt = 27 ∨ (a2).toInt = 29 → (FL 127 (x6).toNatClampNeg).toInt ≠ 0)) from hT)) ⟨rfl, rfl, rfl, rfl, rfl, rfl, rfl, trivial⟩
