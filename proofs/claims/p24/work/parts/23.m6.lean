section
def nX12_acts : Nat := 0xb15e01b688210516071b2a0d00a09e00111c1400a75e01b6030916061b2a4f640407151b2400b42a1900a09f00111c3100a75e01b60321051b2a0e00a09000111c4300a75e01b603856450101c051b2a1200a36f101c1800a150101c5e00a7505a01b609160b161c2a640408152100b42a4f640407151b2400b42a2200a32e101c2800a11a101c8900a750610916d400b42a08152100b42a1400a09b00111ca100a7506121091608152100b42a1100a023101cb500a75083e20014091608152100b42a1300a020101ccb00a75075091608152100b42a1000a01f101cde00a75009160500a775091609009c9409091608152100b42a1c00a019101cfd00a7505601b6882109162a08152100b42a1500a09400111c1601a7505601b6081009162a08152100b42a1500a006101c2e01a7500916640508152100b42a502f640508152100b42a640408152100b42a500b1608152100b42a2c00a017101c5d01a7500916640408152100b42a500b1608152100b42a1a00a016101c7a01a74f640407151b2400b42a1000a028101c09009f13101c0b37090400a72f640408152100b42a0f00a40407150937090400a72f08152100b42a0d009e071508366404600715681b80001107362e1b2400b42a
theorem bX12_acts : cX12_acts.data.toList.map UInt8.toNat = x_un nX12_acts 460 := by decide +kernel
def iX12_acts : List (Nat × Jvm.ClassFile.Instr × Nat) := [(0, .aload_n 0, 1), (1, .getfield 36, 3), (4, .iload_n 1, 1), (5, .iaload, 1), (6, .istore 7, 2), (8, .sipush 128, 3), (11, .iload_n 1, 1), (12, .imul, 1), (13, .iload 7, 2), (15, .iadd, 1), (16, .iconst 1, 1), (17, .isub, 1), (18, .istore 8, 2), (20, .iload 7, 2), (22, .ifCond .le 13, 3), (25, .aload_n 0, 1), (26, .getfield 33, 3), (29, .iload 8, 2), (31, .laload, 1), (32, .goto 4, 3), (35, .lconst 0, 1), (36, .lstore 9, 2), (38, .iload 7, 2), (40, .iconst 1, 1), (41, .if_icmp .le 15, 3), (44, .aload_n 0, 1), (45, .getfield 33, 3), (48, .iload 8, 2), (50, .iconst 1, 1), (51, .isub, 1), (52, .laload, 1), (53, .goto 4, 3), (56, .lconst 0, 1), (57, .lstore 11, 2), (59, .iload_n 2, 1), (60, .bipush 19, 2), (62, .if_icmp .eq 9, 3), (65, .iload_n 2, 1), (66, .bipush 40, 2), (68, .if_icmp .ne 16, 3), (71, .aload_n 0, 1), (72, .getfield 36, 3), (75, .iload_n 1, 1), (76, .iload 7, 2), (78, .iconst 1, 1), (79, .isub, 1), (80, .iastore, 1), (81, .goto 378, 3), (84, .iload_n 2, 1), (85, .bipush 22, 2), (87, .if_icmp .ne 26, 3), (90, .aload_n 0, 1), (91, .getfield 33, 3), (94, .iload 8, 2), (96, .lload 11, 2), (98, .lastore, 1), (99, .aload_n 0, 1), (100, .getfield 33, 3), (103, .iload 8, 2), (105, .iconst 1, 1), (106, .isub, 1), (107, .lload 9, 2), (109, .lastore, 1), (110, .goto 349, 3), (113, .iload_n 2, 1), (114, .bipush 23, 2), (116, .if_icmp .ne 44, 3), (119, .aload_n 0, 1), (120, .getfield 33, 3), (123, .iload 8, 2), (125, .lload 11, 2), (127, .lastore, 1), (128, .aload_n 0, 1), (129, .getfield 33, 3), (132, .iload 8, 2), (134, .iconst 1, 1), (135, .isub, 1), (136, .aload_n 0, 1), (137, .getfield 33, 3), (140, .iload 8, 2), (142, .iconst 2, 1), (143, .isub, 1), (144, .laload, 1), (145, .lastore, 1), (146, .aload_n 0, 1), (147, .getfield 33, 3), (150, .iload 8, 2), (152, .iconst 2, 1), (153, .isub, 1), (154, .lload 9, 2), (156, .lastore, 1), (157, .goto 302, 3), (160, .iload_n 2, 1), (161, .bipush 6, 2), (163, .if_icmp .ne 21, 3), (166, .aload_n 0, 1), (167, .getfield 33, 3), (170, .iload 8, 2), (172, .aload_n 0, 1), (173, .lload 9, 2), (175, .bipush 8, 2), (177, .invokevirtual 342, 3), (180, .lastore, 1), (181, .goto 278, 3), (184, .iload_n 2, 1), (185, .sipush 148, 3), (188, .if_icmp .ne 21, 3), (191, .aload_n 0, 1), (192, .getfield 33, 3), (195, .iload 8, 2), (197, .aload_n 0, 1), (198, .lload 9, 2), (200, .lload_n 3, 1), (201, .l2i, 1), (202, .invokevirtual 342, 3), (205, .lastore, 1), (206, .goto 253, 3), (209, .iload_n 2, 1), (210, .bipush 25, 2), (212, .if_icmp .ne 28, 3), (215, .aload_n 0, 1), (216, .getfield 33, 3), (219, .iload 8, 2), (221, .lload 9, 2), (223, .lconst 0, 1), (224, .lcmp, 1), (225, .ifCond .ge 9, 3), (228, .lload 9, 2), (230, .lneg, 1), (231, .goto 5, 3), (234, .lload 9, 2), (236, .lastore, 1), (237, .goto 222, 3), (240, .iload_n 2, 1), (241, .bipush 31, 2), (243, .if_icmp .ne 16, 3), (246, .aload_n 0, 1), (247, .getfield 33, 3), (250, .iload 8, 2), (252, .lload 9, 2), (254, .lneg, 1), (255, .lastore, 1), (256, .goto 203, 3), (259, .iload_n 2, 1), (260, .bipush 32, 2), (262, .if_icmp .ne 19, 3), (265, .aload_n 0, 1), (266, .getfield 33, 3), (269, .iload 8, 2), (271, .lload 9, 2), (273, .ldc2_w 226, 3), (276, .lxor, 1), (277, .lastore, 1), (278, .goto 181, 3), (281, .iload_n 2, 1), (282, .bipush 35, 2), (284, .if_icmp .ne 17, 3), (287, .aload_n 0, 1), (288, .getfield 33, 3), (291, .iload 8, 2), (293, .lload 9, 2), (295, .lload_n 3, 1), (296, .ladd, 1), (297, .lastore, 1), (298, .goto 161, 3), (301, .iload_n 2, 1), (302, .sipush 155, 3), (305, .if_icmp .ne 20, 3), (308, .aload_n 0, 1), (309, .getfield 33, 3), (312, .iload 8, 2), (314, .aload_n 0, 1), (315, .getfield 212, 3), (318, .lload 9, 2), (320, .ladd, 1), (321, .lastore, 1), (322, .goto 137, 3), (325, .iload_n 2, 1), (326, .bipush 26, 2), (328, .if_icmp .lt 40, 3), (331, .iload_n 2, 1), (332, .bipush 46, 2), (334, .if_icmp .gt 34, 3), (337, .aload_n 0, 1), (338, .getfield 36, 3), (341, .iload_n 1, 1), (342, .iload 7, 2), (344, .iconst 1, 1), (345, .isub, 1), (346, .iastore, 1), (347, .aload_n 0, 1), (348, .getfield 33, 3), (351, .iload 8, 2), (353, .iconst 1, 1), (354, .isub, 1), (355, .aload_n 0, 1), (356, .iload_n 2, 1), (357, .lload 11, 2), (359, .lload 9, 2), (361, .invokevirtual 346, 3), (364, .lastore, 1), (365, .goto 94, 3), (368, .iload_n 2, 1), (369, .bipush 80, 2), (371, .if_icmp .lt 24, 3), (374, .iload_n 2, 1), (375, .bipush 111, 2), (377, .if_icmp .gt 18, 3), (380, .aload_n 0, 1), (381, .iload_n 1, 1), (382, .iconst 2, 1), (383, .iload_n 2, 1), (384, .bipush 80, 2), (386, .isub, 1), (387, .i2l, 1), (388, .iconst 0, 1), (389, .invokevirtual 350, 3), (392, .goto 67, 3), (395, .iload_n 2, 1), (396, .sipush 144, 3), (399, .if_icmp .ne 14, 3), (402, .aload_n 0, 1), (403, .iload_n 1, 1), (404, .iconst 2, 1), (405, .lload_n 3, 1), (406, .iconst 0, 1), (407, .invokevirtual 350, 3), (410, .goto 49, 3), (413, .iload_n 2, 1), (414, .sipush 159, 3), (417, .if_icmp .ne 25, 3), (420, .aload_n 0, 1), (421, .getfield 36, 3), (424, .iload_n 1, 1), (425, .iload 7, 2), (427, .iconst 1, 1), (428, .isub, 1), (429, .iastore, 1), (430, .aload_n 0, 1), (431, .iload_n 1, 1), (432, .iconst 3, 1), (433, .lload 9, 2), (435, .iconst 0, 1), (436, .invokevirtual 350, 3), (439, .goto 20, 3), (442, .iload_n 2, 1), (443, .sipush 158, 3), (446, .if_icmp .ne 13, 3), (449, .aload_n 0, 1), (450, .iload_n 1, 1), (451, .iconst 4, 1), (452, .lload 5, 2), (454, .lload_n 3, 1), (455, .l2i, 1), (456, .invokevirtual 350, 3), (459, .return_, 1)]
theorem dX12_acts : x_il nX12_acts 460 iX12_acts = true := by decide +kernel
theorem aX12_acts (k : Nat) {pc : Nat} {i : Jvm.ClassFile.Instr} {len : Nat} (hk : iX12_acts[k]? = some (pc, i, len)) : x_at xMM 184 pc i len yX12_acts 13 none := ⟨cX12_acts, rfl, x_il_ok bX12_acts dX12_acts k hk⟩
set_option maxHeartbeats 4000000 in
set_option maxRecDepth 100000 in
theorem m_acts {sk : xK} {base d n sl : Nat} {SH : Nat → Nat × Nat} {FI : Nat → Nat → Int32} {FL : Nat → Nat → Int64} {FR : Nat → Nat → Option Nat} (hS : h_S n SH) (hF : h_FR FR) (a1 : Int32) (a2 : Int32) (a3 : Int64) (a4 : Int64) (g0 : hid ((a2).toInt = 6 ∨ (a2).toInt = 19 ∨ (a2).toInt = 25 ∨ (a2).toInt = 31 ∨ (a2).toInt = 32 ∨ (a2).toInt = 35 ∨ (a2).toInt = 40 ∨ (a2).toInt = 148 ∨ (a2).toInt = 155 ∨ (a2).toInt = 159 → 1 ≤ (FI 128 (a1).toNatClampNeg).toInt)) (g1 : hid ((26 ≤ (a2).toInt ∧ (a2).toInt ≤ 46 ∧ (a2).toInt ≠ 31 ∧ (a2).toInt ≠ 32 ∧ (a2).toInt ≠ 35 ∧ (a2).toInt ≠ 40) ∨ (a2).toInt = 22 → 2 ≤ (FI 128 (a1).toNatClampNeg).toInt)) (g2 : hid ((a2).toInt = 23 → 3 ≤ (FI 128 (a1).toNatClampNeg).toInt)) (g3 : hid ((a2).toInt = 144 → 0 ≤ (a3).toInt ∧ (a3).toInt ≤ 31)) (g4 : hid ((a2).toInt = 148 → 1 ≤ (a3).toInt ∧ (a3).toInt ≤ 8)) (g5 : hid ((a2).toInt = 158 → 0 ≤ (a4).toInt ∧ 0 ≤ (a3).toInt ∧ (a3).toInt ≤ 600 ∧ (a4).toInt + (a3).toInt ≤ 19200)) (g6 : 0 ≤ (a1).toInt ∧ (a1).toInt ≤ 1) (ai128 : h_ai 128 2 0 128 FI) (gg0 : ∀ i : Int32, i.toInt = 128 * (a1).toInt + (FI 128 (a1).toNatClampNeg).toInt - 1 → hid (((a2).toInt = 6 → 0 ≤ (FL 127 i.toNatClampNeg).toInt ∧ (FL 127 i.toNatClampNeg).toInt ≤ 4088) ∧ ((a2).toInt = 148 → 0 ≤ (FL 127 i.toNatClampNeg).toInt ∧ (FL 127 i.toNatClampNeg).toInt ≤ 4096 - (a3).toInt) ∧ ((a2).toInt = 27 ∨ (a2).toInt = 29 → (FL 127 i.toNatClampNeg).toInt ≠ 0))) (rel_hold : rl_h 2 (FI 136) (FL 137) (FI 138)) : hw sk base (d + 3) none 184 0 [(0, .ref (base + 121)), (1, .int (a1)), (2, .int (a2)), (3, .long (a3)), (5, .long (a4))] [] (n, sl, SH, FI, FL, FR) (h_V (fun s => ∃ FI' FL', s = (n, sl, SH, FI', FL', FR) ∧ h_fr FI FI' [] [128, 136, 138] ∧ h_fr FL FL' [] [127, 137] ∧ h_ai 128 2 0 128 FI' ∧ (rl_h 2 (FI' 136) (FL' 137) (FI' 138)))) := by
  have rg_a1 := i_rng a1
  have rg_a2 := i_rng a2
  have rg_a3 := l_rng a3
  have rg_a4 := l_rng a4
  refine hw_aloadn (aX12_acts 0 rfl) rfl ?_
  refine hw_get (v := .ref (base + 128)) (aX12_acts 1 rfl) wf_RX12_36 (c121 hS) (s121 hS) (by decide) (congrArg (fun r => va_rf (h_rf base r)) (r121_15 hF)) ?_
  refine xw_iloadn (aX12_acts 2 rfl) rfl ?_
  refine hw_iald (v := FI 128 (a1).toNatClampNeg) (aX12_acts 3 rfl) (c128 hS) (s128 hS) (h_in rfl (by omega) (by omega)) rfl ?_
  have e1 : 0 ≤ (FI 128 (a1).toNatClampNeg).toInt ∧ (FI 128 (a1).toNatClampNeg).toInt ≤ 128 := ai_at ai128 rfl (by omega) (by omega)
  refine xw_istore (L2 := [(7, .int (FI 128 (a1).toNatClampNeg)), (0, .ref (base + 121)), (1, .int (a1)), (2, .int (a2)), (3, .long (a3)), (5, .long (a4))]) (aX12_acts 4 rfl) (by decide) rfl ?_
  refine hw_sp (v := (128 : Int32)) (aX12_acts 5 rfl) (by decide) ?_
  refine xw_iloadn (aX12_acts 6 rfl) rfl ?_
  refine xw_imul (aX12_acts 7 rfl) ?_
  refine hw_tie (A := (128) * ((a1).toInt)) (i_mul (by decide : (128 : Int32).toInt = 128) rfl (by omega) (by omega)) (fun x2 e3 => ?_)
  refine xw_iload (aX12_acts 8 rfl) rfl ?_
  refine xw_iadd (aX12_acts 9 rfl) ?_
  refine hw_tie (A := ((128) * ((a1).toInt)) + ((FI 128 (a1).toNatClampNeg).toInt)) (i_add e3 rfl (by omega) (by omega)) (fun x4 e5 => ?_)
  refine hw_ic (v := (1 : Int32)) (aX12_acts 10 rfl) (by decide) ?_
  refine xw_isub (aX12_acts 11 rfl) ?_
  refine hw_tie (A := (((128) * ((a1).toInt)) + ((FI 128 (a1).toNatClampNeg).toInt)) - (1)) (i_sub e5 (by decide : (1 : Int32).toInt = 1) (by omega) (by omega)) (fun x6 e7 => ?_)
  refine xw_istore (L2 := [(8, .int (x6)), (7, .int (FI 128 (a1).toNatClampNeg)), (0, .ref (base + 121)), (1, .int (a1)), (2, .int (a2)), (3, .long (a3)), (5, .long (a4))]) (aX12_acts 12 rfl) (by decide) rfl ?_
  refine xw_iload (aX12_acts 13 rfl) rfl ?_
  have j137 : ∀ (g10 : Int64), (hid (((a2).toInt = 6 → 0 ≤ (g10).toInt ∧ (g10).toInt ≤ 4088) ∧ ((a2).toInt = 148 → 0 ≤ (g10).toInt ∧ (g10).toInt ≤ 4096 - (a3).toInt) ∧ ((a2).toInt = 27 ∨ (a2).toInt = 29 → (g10).toInt ≠ 0))) → hw sk base (d + 3) none 184 36 [(0, .ref (base + 121)), (1, .int (a1)), (2, .int (a2)), (3, .long (a3)), (5, .long (a4)), (7, .int (FI 128 (a1).toNatClampNeg)), (8, .int (x6))] [.long (g10)] (n, sl, SH, FI, FL, FR) (h_V (fun s => ∃ FI' FL', s = (n, sl, SH, FI', FL', FR) ∧ h_fr FI FI' [] [128, 136, 138] ∧ h_fr FL FL' [] [127, 137] ∧ h_ai 128 2 0 128 FI' ∧ (rl_h 2 (FI' 136) (FL' 137) (FI' 138)))) := by
    intro g10 fc36_0
    have rg_g10 := l_rng g10
    refine xw_lstore (L2 := [(9, .long (g10)), (0, .ref (base + 121)), (1, .int (a1)), (2, .int (a2)), (3, .long (a3)), (5, .long (a4)), (7, .int (FI 128 (a1).toNatClampNeg)), (8, .int (x6))]) (aX12_acts 21 rfl) (by decide) rfl ?_
    refine xw_iload (aX12_acts 22 rfl) rfl ?_
    refine hw_ic (v := (1 : Int32)) (aX12_acts 23 rfl) (by decide) ?_
    have j264 : ∀ (g143 : Int64), hw sk base (d + 3) none 184 57 [(0, .ref (base + 121)), (1, .int (a1)), (2, .int (a2)), (3, .long (a3)), (5, .long (a4)), (7, .int (FI 128 (a1).toNatClampNeg)), (8, .int (x6)), (9, .long (g10))] [.long (g143)] (n, sl, SH, FI, FL, FR) (h_V (fun s => ∃ FI' FL', s = (n, sl, SH, FI', FL', FR) ∧ h_fr FI FI' [] [128, 136, 138] ∧ h_fr FL FL' [] [127, 137] ∧ h_ai 128 2 0 128 FI' ∧ (rl_h 2 (FI' 136) (FL' 137) (FI' 138)))) := by
      intro g143
      have rg_g143 := l_rng g143
      refine xw_lstore (L2 := [(11, .long (g143)), (0, .ref (base + 121)), (1, .int (a1)), (2, .int (a2)), (3, .long (a3)), (5, .long (a4)), (7, .int (FI 128 (a1).toNatClampNeg)), (8, .int (x6)), (9, .long (g10))]) (aX12_acts 33 rfl) (by decide) rfl ?_
      refine xw_iloadn (aX12_acts 34 rfl) rfl ?_
      refine hw_bp (v := (19 : Int32)) (aX12_acts 35 rfl) (by decide) ?_
      refine hw_iceq (tgt := 71) (aX12_acts 36 rfl) (by decide) rfl (by decide : (19 : Int32).toInt = 19) (fun cd265 => ?_) (fun cd265 => ?_)
      · have hn1 : 1 ≤ ((FI 128 (a1).toNatClampNeg).toInt) := hid_e g0 (by omega)
        refine hw_aloadn (aX12_acts 40 rfl) rfl ?_
        refine hw_get (v := .ref (base + 128)) (aX12_acts 41 rfl) wf_RX12_36 (c121 hS) (s121 hS) (by decide) (congrArg (fun r => va_rf (h_rf base r)) (r121_15 hF)) ?_
        refine xw_iloadn (aX12_acts 42 rfl) rfl ?_
        refine xw_iload (aX12_acts 43 rfl) rfl ?_
        refine hw_ic (v := (1 : Int32)) (aX12_acts 44 rfl) (by decide) ?_
        refine xw_isub (aX12_acts 45 rfl) ?_
        refine hw_tie (A := ((FI 128 (a1).toNatClampNeg).toInt) - (1)) (i_sub rfl (by decide : (1 : Int32).toInt = 1) (by omega) (by omega)) (fun x266 e267 => ?_)
        refine hw_iast (aX12_acts 46 rfl) (c128 hS) (s128 hS) (h_in rfl (by omega) (by omega)) ?_
        have e268 : h_ai 128 2 0 128 (h_up FI 128 (a1).toNatClampNeg (x266)) := ai_up ai128 e267 (by omega) (by omega)
        refine xw_goto (tgt := 459) (aX12_acts 47 rfl) (by decide) ?_
        refine xw_vret (aX12_acts 255 rfl) rfl ?_
        exact ⟨rfl, _, _, rfl, (fr_ua fr_rf (by decide) (by decide)), fr_rf, e268, (show rl_h 2 ((h_up FI 128 (a1).toNatClampNeg (x266)) 136) ((FL) 137) ((h_up FI 128 (a1).toNatClampNeg (x266)) 138) from rel_hold)⟩
      · refine xw_iloadn (aX12_acts 37 rfl) rfl ?_
        refine hw_bp (v := (40 : Int32)) (aX12_acts 38 rfl) (by decide) ?_
        refine hw_icne (tgt := 84) (aX12_acts 39 rfl) (by decide) rfl (by decide : (40 : Int32).toInt = 40) (fun cd269 => ?_) (fun cd269 => ?_)
        · refine xw_iloadn (aX12_acts 48 rfl) rfl ?_
          refine hw_bp (v := (22 : Int32)) (aX12_acts 49 rfl) (by decide) ?_
          refine hw_icne (tgt := 113) (aX12_acts 50 rfl) (by decide) rfl (by decide : (22 : Int32).toInt = 22) (fun cd270 => ?_) (fun cd270 => ?_)
          · refine xw_iloadn (aX12_acts 64 rfl) rfl ?_
            refine hw_bp (v := (23 : Int32)) (aX12_acts 65 rfl) (by decide) ?_
            refine hw_icne (tgt := 160) (aX12_acts 66 rfl) (by decide) rfl (by decide : (23 : Int32).toInt = 23) (fun cd271 => ?_) (fun cd271 => ?_)
            · refine xw_iloadn (aX12_acts 92 rfl) rfl ?_
              refine hw_bp (v := (6 : Int32)) (aX12_acts 93 rfl) (by decide) ?_
              refine hw_icne (tgt := 184) (aX12_acts 94 rfl) (by decide) rfl (by decide : (6 : Int32).toInt = 6) (fun cd272 => ?_) (fun cd272 => ?_)
              · refine xw_iloadn (aX12_acts 104 rfl) rfl ?_
                refine hw_sp (v := (148 : Int32)) (aX12_acts 105 rfl) (by decide) ?_
                refine hw_icne (tgt := 209) (aX12_acts 106 rfl) (by decide) rfl (by decide : (148 : Int32).toInt = 148) (fun cd273 => ?_) (fun cd273 => ?_)
                · refine xw_iloadn (aX12_acts 117 rfl) rfl ?_
                  refine hw_bp (v := (25 : Int32)) (aX12_acts 118 rfl) (by decide) ?_
                  refine hw_icne (tgt := 240) (aX12_acts 119 rfl) (by decide) rfl (by decide : (25 : Int32).toInt = 25) (fun cd274 => ?_) (fun cd274 => ?_)
                  · refine xw_iloadn (aX12_acts 133 rfl) rfl ?_
                    refine hw_bp (v := (31 : Int32)) (aX12_acts 134 rfl) (by decide) ?_
                    refine hw_icne (tgt := 259) (aX12_acts 135 rfl) (by decide) rfl (by decide : (31 : Int32).toInt = 31) (fun cd275 => ?_) (fun cd275 => ?_)
                    · refine xw_iloadn (aX12_acts 143 rfl) rfl ?_
                      refine hw_bp (v := (32 : Int32)) (aX12_acts 144 rfl) (by decide) ?_
                      refine hw_icne (tgt := 281) (aX12_acts 145 rfl) (by decide) rfl (by decide : (32 : Int32).toInt = 32) (fun cd276 => ?_) (fun cd276 => ?_)
                      · refine xw_iloadn (aX12_acts 154 rfl) rfl ?_
                        refine hw_bp (v := (35 : Int32)) (aX12_acts 155 rfl) (by decide) ?_
                        refine hw_icne (tgt := 301) (aX12_acts 156 rfl) (by decide) rfl (by decide : (35 : Int32).toInt = 35) (fun cd277 => ?_) (fun cd277 => ?_)
                        · refine xw_iloadn (aX12_acts 165 rfl) rfl ?_
                          refine hw_sp (v := (155 : Int32)) (aX12_acts 166 rfl) (by decide) ?_
                          refine hw_icne (tgt := 325) (aX12_acts 167 rfl) (by decide) rfl (by decide : (155 : Int32).toInt = 155) (fun cd278 => ?_) (fun cd278 => ?_)
                          · refine xw_iloadn (aX12_acts 177 rfl) rfl ?_
                            refine hw_bp (v := (26 : Int32)) (aX12_acts 178 rfl) (by decide) ?_
                            have j340 : hw sk base (d + 3) none 184 368 [(0, .ref (base + 121)), (1, .int (a1)), (2, .int (a2)), (3, .long (a3)), (5, .long (a4)), (7, .int (FI 128 (a1).toNatClampNeg)), (9, .long (g10))] [] (n, sl, SH, FI, FL, FR) (h_V (fun s => ∃ FI' FL', s = (n, sl, SH, FI', FL', FR) ∧ h_fr FI FI' [] [128, 136, 138] ∧ h_fr FL FL' [] [127, 137] ∧ h_ai 128 2 0 128 FI' ∧ (rl_h 2 (FI' 136) (FL' 137) (FI' 138)))) := by
                              refine xw_iloadn (aX12_acts 202 rfl) rfl ?_
                              refine hw_bp (v := (80 : Int32)) (aX12_acts 203 rfl) (by decide) ?_
                              have j388 : hw sk base (d + 3) none 184 395 [(0, .ref (base + 121)), (1, .int (a1)), (2, .int (a2)), (3, .long (a3)), (5, .long (a4)), (7, .int (FI 128 (a1).toNatClampNeg)), (9, .long (g10))] [] (n, sl, SH, FI, FL, FR) (h_V (fun s => ∃ FI' FL', s = (n, sl, SH, FI', FL', FR) ∧ h_fr FI FI' [] [128, 136, 138] ∧ h_fr FL FL' [] [127, 137] ∧ h_ai 128 2 0 128 FI' ∧ (rl_h 2 (FI' 136) (FL' 137) (FI' 138)))) := by
                                refine xw_iloadn (aX12_acts 218 rfl) rfl ?_
                                refine hw_sp (v := (144 : Int32)) (aX12_acts 219 rfl) (by decide) ?_
                                refine hw_icne (tgt := 413) (aX12_acts 220 rfl) (by decide) rfl (by decide : (144 : Int32).toInt = 144) (fun cd389 => ?_) (fun cd389 => ?_)
                                · refine xw_iloadn (aX12_acts 228 rfl) rfl ?_
                                  refine hw_sp (v := (159 : Int32)) (aX12_acts 229 rfl) (by decide) ?_
                                  refine hw_icne (tgt := 442) (aX12_acts 230 rfl) (by decide) rfl (by decide : (159 : Int32).toInt = 159) (fun cd390 => ?_) (fun cd390 => ?_)
                                  · refine xw_iloadn (aX12_acts 245 rfl) rfl ?_
                                    refine hw_sp (v := (158 : Int32)) (aX12_acts 246 rfl) (by decide) ?_
                                    refine hw_icne (tgt := 459) (aX12_acts 247 rfl) (by decide) rfl (by decide : (158 : Int32).toInt = 158) (fun cd391 => ?_) (fun cd391 => ?_)
                                    · refine xw_vret (aX12_acts 255 rfl) rfl ?_
                                      exact ⟨rfl, _, _, rfl, fr_rf, fr_rf, ai128, (show rl_h 2 ((FI) 136) ((FL) 137) ((FI) 138) from rel_hold)⟩
                                    · have hz := hid_e g5 (by omega)
                                      refine hw_aloadn (aX12_acts 248 rfl) rfl ?_
                                      refine xw_iloadn (aX12_acts 249 rfl) rfl ?_
                                      refine hw_ic (v := (4 : Int32)) (aX12_acts 250 rfl) (by decide) ?_
                                      refine xw_lload (aX12_acts 251 rfl) rfl ?_
                                      refine xw_lloadn (aX12_acts 252 rfl) rfl ?_
                                      have e392 : 0 ≤ (a3).toInt ∧ (a3).toInt ≤ 600 := by omega
                                      refine xw_l2i (aX12_acts 253 rfl) ?_
                                      refine hw_tie (A := (a3).toInt) (l_2i rfl (by omega) (by omega)) (fun x393 e394 => ?_)
                                      refine hw_callV (Bs := [.int (a1), .int ((4 : Int32)), .long (a4), .int (x393)]) (rest := []) (aX12_acts 254 rfl) wc_RX12_350 (by decide) rfl wi_yX12_hold wv_yX12_hold (c121 hS) (s121 hS) rfl rfl rfl (Nat.le_of_ble_eq_true rfl) (Nat.le_of_ble_eq_true rfl) (m_hold (d := d + 2) hS hF (a1) ((4 : Int32)) (a4) (x393) (by have := ((by decide : (4 : Int32).toInt = 4) : ((4 : Int32)).toInt = 4); show ((4 : Int32)).toInt = 2 → 0 ≤ (a4).toInt ∧ (a4).toInt ≤ 31; omega) (by have := ((by decide : (4 : Int32).toInt = 4) : ((4 : Int32)).toInt = 4); have := (e394 : (x393).toInt = (a3).toInt); show ((4 : Int32)).toInt = 4 → 0 ≤ (a4).toInt ∧ 0 ≤ (x393).toInt ∧ (x393).toInt ≤ 600 ∧ (a4).toInt + (x393).toInt ≤ 19200; omega) (by show 0 ≤ (a1).toInt ∧ (a1).toInt ≤ 1; omega) (show rl_h 2 ((FI) 136) ((FL) 137) ((FI) 138) from rel_hold)) (fun v395 sv396 p397 => ?_)
                                      obtain ⟨rfl, FI399, FL400, rfl, f398I, f398L, rl402⟩ := p397
                                      show hw sk base _ none _ _ _ [] _ _
                                      refine xw_vret (aX12_acts 255 rfl) rfl ?_
                                      exact ⟨rfl, _, _, rfl, (fr_tr fr_rf f398I (by decide) (by decide)), (fr_tr fr_rf f398L (by decide) (by decide)), (ai_eq ai128 (f398I.2 128 (by decide) (by decide))), (show rl_h 2 ((FI399) 136) ((FL400) 137) ((FI399) 138) from rl402)⟩
                                  · have hn1 : 1 ≤ ((FI 128 (a1).toNatClampNeg).toInt) := hid_e g0 (by omega)
                                    refine hw_aloadn (aX12_acts 231 rfl) rfl ?_
                                    refine hw_get (v := .ref (base + 128)) (aX12_acts 232 rfl) wf_RX12_36 (c121 hS) (s121 hS) (by decide) (congrArg (fun r => va_rf (h_rf base r)) (r121_15 hF)) ?_
                                    refine xw_iloadn (aX12_acts 233 rfl) rfl ?_
                                    refine xw_iload (aX12_acts 234 rfl) rfl ?_
                                    refine hw_ic (v := (1 : Int32)) (aX12_acts 235 rfl) (by decide) ?_
                                    refine xw_isub (aX12_acts 236 rfl) ?_
                                    refine hw_tie (A := ((FI 128 (a1).toNatClampNeg).toInt) - (1)) (i_sub rfl (by decide : (1 : Int32).toInt = 1) (by omega) (by omega)) (fun x403 e404 => ?_)
                                    refine hw_iast (aX12_acts 237 rfl) (c128 hS) (s128 hS) (h_in rfl (by omega) (by omega)) ?_
                                    have e405 : h_ai 128 2 0 128 (h_up FI 128 (a1).toNatClampNeg (x403)) := ai_up ai128 e404 (by omega) (by omega)
                                    refine hw_aloadn (aX12_acts 238 rfl) rfl ?_
                                    refine xw_iloadn (aX12_acts 239 rfl) rfl ?_
                                    refine hw_ic (v := (3 : Int32)) (aX12_acts 240 rfl) (by decide) ?_
                                    refine xw_lload (aX12_acts 241 rfl) rfl ?_
                                    refine hw_ic (v := (0 : Int32)) (aX12_acts 242 rfl) (by decide) ?_
                                    refine hw_callV (Bs := [.int (a1), .int ((3 : Int32)), .long (g10), .int ((0 : Int32))]) (rest := []) (aX12_acts 243 rfl) wc_RX12_350 (by decide) rfl wi_yX12_hold wv_yX12_hold (c121 hS) (s121 hS) rfl rfl rfl (Nat.le_of_ble_eq_true rfl) (Nat.le_of_ble_eq_true rfl) (m_hold (d := d + 2) hS hF (a1) ((3 : Int32)) (g10) ((0 : Int32)) (by have := ((by decide : (3 : Int32).toInt = 3) : ((3 : Int32)).toInt = 3); show ((3 : Int32)).toInt = 2 → 0 ≤ (g10).toInt ∧ (g10).toInt ≤ 31; omega) (by have := ((by decide : (3 : Int32).toInt = 3) : ((3 : Int32)).toInt = 3); have := ((by decide : (0 : Int32).toInt = 0) : ((0 : Int32)).toInt = 0); show ((3 : Int32)).toInt = 4 → 0 ≤ (g10).toInt ∧ 0 ≤ ((0 : Int32)).toInt ∧ ((0 : Int32)).toInt ≤ 600 ∧ (g10).toInt + ((0 : Int32)).toInt ≤ 19200; omega) (by show 0 ≤ (a1).toInt ∧ (a1).toInt ≤ 1; omega) (show rl_h 2 ((h_up FI 128 (a1).toNatClampNeg (x403)) 136) ((FL) 137) ((h_up FI 128 (a1).toNatClampNeg (x403)) 138) from rel_hold)) (fun v406 sv407 p408 => ?_)
                                    obtain ⟨rfl, FI410, FL411, rfl, f409I, f409L, rl413⟩ := p408
                                    show hw sk base _ none _ _ _ [] _ _
                                    refine xw_goto (tgt := 459) (aX12_acts 244 rfl) (by decide) ?_
                                    refine xw_vret (aX12_acts 255 rfl) rfl ?_
                                    exact ⟨rfl, _, _, rfl, (fr_tr (fr_ua fr_rf (by decide) (by decide)) f409I (by decide) (by decide)), (fr_tr fr_rf f409L (by decide) (by decide)), (ai_eq e405 (f409I.2 128 (by decide) (by decide))), (show rl_h 2 ((FI410) 136) ((FL411) 137) ((FI410) 138) from rl413)⟩
                                · have hz := hid_e g3 (by omega)
                                  refine hw_aloadn (aX12_acts 221 rfl) rfl ?_
                                  refine xw_iloadn (aX12_acts 222 rfl) rfl ?_
                                  refine hw_ic (v := (2 : Int32)) (aX12_acts 223 rfl) (by decide) ?_
                                  refine xw_lloadn (aX12_acts 224 rfl) rfl ?_
                                  refine hw_ic (v := (0 : Int32)) (aX12_acts 225 rfl) (by decide) ?_
                                  refine hw_callV (Bs := [.int (a1), .int ((2 : Int32)), .long (a3), .int ((0 : Int32))]) (rest := []) (aX12_acts 226 rfl) wc_RX12_350 (by decide) rfl wi_yX12_hold wv_yX12_hold (c121 hS) (s121 hS) rfl rfl rfl (Nat.le_of_ble_eq_true rfl) (Nat.le_of_ble_eq_true rfl) (m_hold (d := d + 2) hS hF (a1) ((2 : Int32)) (a3) ((0 : Int32)) (by have := ((by decide : (2 : Int32).toInt = 2) : ((2 : Int32)).toInt = 2); show ((2 : Int32)).toInt = 2 → 0 ≤ (a3).toInt ∧ (a3).toInt ≤ 31; omega) (by have := ((by decide : (2 : Int32).toInt = 2) : ((2 : Int32)).toInt = 2); have := ((by decide : (0 : Int32).toInt = 0) : ((0 : Int32)).toInt = 0); show ((2 : Int32)).toInt = 4 → 0 ≤ (a3).toInt ∧ 0 ≤ ((0 : Int32)).toInt ∧ ((0 : Int32)).toInt ≤ 600 ∧ (a3).toInt + ((0 : Int32)).toInt ≤ 19200; omega) (by show 0 ≤ (a1).toInt ∧ (a1).toInt ≤ 1; omega) (show rl_h 2 ((FI) 136) ((FL) 137) ((FI) 138) from rel_hold)) (fun v414 sv415 p416 => ?_)
                                  obtain ⟨rfl, FI418, FL419, rfl, f417I, f417L, rl421⟩ := p416
                                  show hw sk base _ none _ _ _ [] _ _
                                  refine xw_goto (tgt := 459) (aX12_acts 227 rfl) (by decide) ?_
                                  refine xw_vret (aX12_acts 255 rfl) rfl ?_
                                  exact ⟨rfl, _, _, rfl, (fr_tr fr_rf f417I (by decide) (by decide)), (fr_tr fr_rf f417L (by decide) (by decide)), (ai_eq ai128 (f417I.2 128 (by decide) (by decide))), (show rl_h 2 ((FI418) 136) ((FL419) 137) ((FI418) 138) from rl421)⟩
                              refine hw_iclt (tgt := 395) (aX12_acts 204 rfl) (by decide) rfl (by decide : (80 : Int32).toInt = 80) (fun cd422 => ?_) (fun cd422 => ?_)
                              · exact hw_L (j388) ⟨rfl, rfl, rfl, rfl, rfl, rfl, rfl, trivial⟩
                              · refine xw_iloadn (aX12_acts 205 rfl) rfl ?_
                                refine hw_bp (v := (111 : Int32)) (aX12_acts 206 rfl) (by decide) ?_
                                refine hw_icgt (tgt := 395) (aX12_acts 207 rfl) (by decide) rfl (by decide : (111 : Int32).toInt = 111) (fun cd423 => ?_) (fun cd423 => ?_)
                                · exact hw_L (j388) ⟨rfl, rfl, rfl, rfl, rfl, rfl, rfl, trivial⟩
                                · refine hw_aloadn (aX12_acts 208 rfl) rfl ?_
                                  refine xw_iloadn (aX12_acts 209 rfl) rfl ?_
                                  refine hw_ic (v := (2 : Int32)) (aX12_acts 210 rfl) (by decide) ?_
                                  refine xw_iloadn (aX12_acts 211 rfl) rfl ?_
                                  refine hw_bp (v := (80 : Int32)) (aX12_acts 212 rfl) (by decide) ?_
                                  refine xw_isub (aX12_acts 213 rfl) ?_
                                  refine hw_tie (A := ((a2).toInt) - (80)) (i_sub rfl (by decide : (80 : Int32).toInt = 80) (by omega) (by omega)) (fun x424 e425 => ?_)
                                  refine xw_i2l (aX12_acts 214 rfl) ?_
                                  refine hw_tle (A := ((a2).toInt) - (80)) (i_2l e425) (fun x426 e427 => ?_)
                                  refine hw_ic (v := (0 : Int32)) (aX12_acts 215 rfl) (by decide) ?_
                                  refine hw_callV (Bs := [.int (a1), .int ((2 : Int32)), .long (x426), .int ((0 : Int32))]) (rest := []) (aX12_acts 216 rfl) wc_RX12_350 (by decide) rfl wi_yX12_hold wv_yX12_hold (c121 hS) (s121 hS) rfl rfl rfl (Nat.le_of_ble_eq_true rfl) (Nat.le_of_ble_eq_true rfl) (m_hold (d := d + 2) hS hF (a1) ((2 : Int32)) (x426) ((0 : Int32)) (by have := ((by decide : (2 : Int32).toInt = 2) : ((2 : Int32)).toInt = 2); have := (e427 : (x426).toInt = ((a2).toInt) - (80)); show ((2 : Int32)).toInt = 2 → 0 ≤ (x426).toInt ∧ (x426).toInt ≤ 31; omega) (by have := ((by decide : (2 : Int32).toInt = 2) : ((2 : Int32)).toInt = 2); have := (e427 : (x426).toInt = ((a2).toInt) - (80)); have := ((by decide : (0 : Int32).toInt = 0) : ((0 : Int32)).toInt = 0); show ((2 : Int32)).toInt = 4 → 0 ≤ (x426).toInt ∧ 0 ≤ ((0 : Int32)).toInt ∧ ((0 : Int32)).toInt ≤ 600 ∧ (x426).toInt + ((0 : Int32)).toInt ≤ 19200; omega) (by show 0 ≤ (a1).toInt ∧ (a1).toInt ≤ 1; omega) (show rl_h 2 ((FI) 136) ((FL) 137) ((FI) 138) from rel_hold)) (fun v428 sv429 p430 => ?_)
                                  obtain ⟨rfl, FI432, FL433, rfl, f431I, f431L, rl435⟩ := p430
                                  show hw sk base _ none _ _ _ [] _ _
                                  refine xw_goto (tgt := 459) (aX12_acts 217 rfl) (by decide) ?_
                                  refine xw_vret (aX12_acts 255 rfl) rfl ?_
                                  exact ⟨rfl, _, _, rfl, (fr_tr fr_rf f431I (by decide) (by decide)), (fr_tr fr_rf f431L (by decide) (by decide)), (ai_eq ai128 (f431I.2 128 (by decide) (by decide))), (show rl_h 2 ((FI432) 136) ((FL433) 137) ((FI432) 138) from rl435)⟩
                            refine hw_iclt (tgt := 368) (aX12_acts 179 rfl) (by decide) rfl (by decide : (26 : Int32).toInt = 26) (fun cd436 => ?_) (fun cd436 => ?_)
                            · exact hw_L (j340) ⟨rfl, rfl, rfl, rfl, rfl, rfl, rfl, trivial⟩
                            · refine xw_iloadn (aX12_acts 180 rfl) rfl ?_
                              refine hw_bp (v := (46 : Int32)) (aX12_acts 181 rfl) (by decide) ?_
                              refine hw_icgt (tgt := 368) (aX12_acts 182 rfl) (by decide) rfl (by decide : (46 : Int32).toInt = 46) (fun cd437 => ?_) (fun cd437 => ?_)
                              · exact hw_L (j340) ⟨rfl, rfl, rfl, rfl, rfl, rfl, rfl, trivial⟩
                              · have hn2 : 2 ≤ ((FI 128 (a1).toNatClampNeg).toInt) := hid_e g1 (by omega)
                                refine hw_aloadn (aX12_acts 183 rfl) rfl ?_
                                refine hw_get (v := .ref (base + 128)) (aX12_acts 184 rfl) wf_RX12_36 (c121 hS) (s121 hS) (by decide) (congrArg (fun r => va_rf (h_rf base r)) (r121_15 hF)) ?_
                                refine xw_iloadn (aX12_acts 185 rfl) rfl ?_
                                refine xw_iload (aX12_acts 186 rfl) rfl ?_
                                refine hw_ic (v := (1 : Int32)) (aX12_acts 187 rfl) (by decide) ?_
                                refine xw_isub (aX12_acts 188 rfl) ?_
                                refine hw_tie (A := ((FI 128 (a1).toNatClampNeg).toInt) - (1)) (i_sub rfl (by decide : (1 : Int32).toInt = 1) (by omega) (by omega)) (fun x438 e439 => ?_)
                                refine hw_iast (aX12_acts 189 rfl) (c128 hS) (s128 hS) (h_in rfl (by omega) (by omega)) ?_
                                have e440 : h_ai 128 2 0 128 (h_up FI 128 (a1).toNatClampNeg (x438)) := ai_up ai128 e439 (by omega) (by omega)
                                refine hw_aloadn (aX12_acts 190 rfl) rfl ?_
                                refine hw_get (v := .ref (base + 127)) (aX12_acts 191 rfl) wf_RX12_33 (c121 hS) (s121 hS) (by decide) (congrArg (fun r => va_rf (h_rf base r)) (r121_14 hF)) ?_
                                refine xw_iload (aX12_acts 192 rfl) rfl ?_
                                refine hw_ic (v := (1 : Int32)) (aX12_acts 193 rfl) (by decide) ?_
                                refine xw_isub (aX12_acts 194 rfl) ?_
                                refine hw_tie (A := ((((128) * ((a1).toInt)) + ((FI 128 (a1).toNatClampNeg).toInt)) - (1)) - (1)) (i_sub e7 (by decide : (1 : Int32).toInt = 1) (by omega) (by omega)) (fun x441 e442 => ?_)
                                refine hw_aloadn (aX12_acts 195 rfl) rfl ?_
                                refine xw_iloadn (aX12_acts 196 rfl) rfl ?_
                                refine xw_lload (aX12_acts 197 rfl) rfl ?_
                                refine xw_lload (aX12_acts 198 rfl) rfl ?_
                                have hz := fc36_0.2.2
                                refine hw_callV (Bs := [.int (a2), .long (g143), .long (g10)]) (rest := [.int (x441), .ref (base + 127)]) (aX12_acts 199 rfl) wc_RX12_346 (by decide) rfl wi_yX12_worked wv_yX12_worked (c121 hS) (s121 hS) rfl rfl rfl (Nat.le_of_ble_eq_true rfl) (Nat.le_of_ble_eq_true rfl) (m_worked (d := d) hS hF (a2) (g143) (g10) (by show (a2).toInt = 27 ∨ (a2).toInt = 29 → (g10).toInt ≠ 0; omega)) (fun v443 sv444 p445 => ?_)
                                obtain ⟨r449, rfl, FI447, FL448, rfl, rfl, rfl⟩ := p445
                                have rg_r449 := l_rng r449
                                show hw sk base _ none _ _ _ [.long (r449), .int (x441), .ref (base + 127)] _ _
                                refine hw_last (aX12_acts 200 rfl) (c127 hS) (s127 hS) (h_in e442 (by omega) (by omega)) ?_
                                refine xw_goto (tgt := 459) (aX12_acts 201 rfl) (by decide) ?_
                                refine xw_vret (aX12_acts 255 rfl) rfl ?_
                                exact ⟨rfl, _, _, rfl, (fr_ua fr_rf (by decide) (by decide)), (fr_ua fr_rf (by decide) (by decide)), e440, (show rl_h 2 ((h_up FI 128 (a1).toNatClampNeg (x438)) 136) ((h_up FL 127 (x441).toNatClampNeg (r449)) 137) ((h_up FI 128 (a1).toNatClampNeg (x438)) 138) from rel_hold)⟩
                          · have hn1 : 1 ≤ ((FI 128 (a1).toNatClampNeg).toInt) := hid_e g0 (by omega)
                            refine hw_aloadn (aX12_acts 168 rfl) rfl ?_
                            refine hw_get (v := .ref (base + 127)) (aX12_acts 169 rfl) wf_RX12_33 (c121 hS) (s121 hS) (by decide) (congrArg (fun r => va_rf (h_rf base r)) (r121_14 hF)) ?_
                            refine xw_iload (aX12_acts 170 rfl) rfl ?_
                            refine hw_aloadn (aX12_acts 171 rfl) rfl ?_
                            refine hw_get (v := .long (FL 121 9)) (aX12_acts 172 rfl) wf_RX12_212 (c121 hS) (s121 hS) (by decide) (congrArg Value.long (show FL 121 9 = FL 121 9 from rfl)) ?_
                            have e450 := l_rng (FL 121 9)
                            refine xw_lload (aX12_acts 173 rfl) rfl ?_
                            refine xw_ladd (aX12_acts 174 rfl) ?_
                            refine hw_tl (fun x451 => ?_)
                            have b452 := l_rng x451
                            refine hw_last (aX12_acts 175 rfl) (c127 hS) (s127 hS) (h_in e7 (by omega) (by omega)) ?_
                            refine xw_goto (tgt := 459) (aX12_acts 176 rfl) (by decide) ?_
                            refine xw_vret (aX12_acts 255 rfl) rfl ?_
                            exact ⟨rfl, _, _, rfl, fr_rf, (fr_ua fr_rf (by decide) (by decide)), ai128, (show rl_h 2 ((FI) 136) ((h_up FL 127 (x6).toNatClampNeg (x451)) 137) ((FI) 138) from rel_hold)⟩
                        · have hn1 : 1 ≤ ((FI 128 (a1).toNatClampNeg).toInt) := hid_e g0 (by omega)
                          refine hw_aloadn (aX12_acts 157 rfl) rfl ?_
                          refine hw_get (v := .ref (base + 127)) (aX12_acts 158 rfl) wf_RX12_33 (c121 hS) (s121 hS) (by decide) (congrArg (fun r => va_rf (h_rf base r)) (r121_14 hF)) ?_
                          refine xw_iload (aX12_acts 159 rfl) rfl ?_
                          refine xw_lload (aX12_acts 160 rfl) rfl ?_
                          refine xw_lloadn (aX12_acts 161 rfl) rfl ?_
                          refine xw_ladd (aX12_acts 162 rfl) ?_
                          refine hw_tl (fun x453 => ?_)
                          have b454 := l_rng x453
                          refine hw_last (aX12_acts 163 rfl) (c127 hS) (s127 hS) (h_in e7 (by omega) (by omega)) ?_
                          refine xw_goto (tgt := 459) (aX12_acts 164 rfl) (by decide) ?_
                          refine xw_vret (aX12_acts 255 rfl) rfl ?_
                          exact ⟨rfl, _, _, rfl, fr_rf, (fr_ua fr_rf (by decide) (by decide)), ai128, (show rl_h 2 ((FI) 136) ((h_up FL 127 (x6).toNatClampNeg (x453)) 137) ((FI) 138) from rel_hold)⟩
                      · have hn1 : 1 ≤ ((FI 128 (a1).toNatClampNeg).toInt) := hid_e g0 (by omega)
                        refine hw_aloadn (aX12_acts 146 rfl) rfl ?_
                        refine hw_get (v := .ref (base + 127)) (aX12_acts 147 rfl) wf_RX12_33 (c121 hS) (s121 hS) (by decide) (congrArg (fun r => va_rf (h_rf base r)) (r121_14 hF)) ?_
                        refine xw_iload (aX12_acts 148 rfl) rfl ?_
                        refine xw_lload (aX12_acts 149 rfl) rfl ?_
                        refine xw_ldc2 (aX12_acts 150 rfl) wk_RX12_226 ?_
                        refine xw_lxor (aX12_acts 151 rfl) ?_
                        refine hw_tl (fun x455 => ?_)
                        have b456 := l_rng x455
                        refine hw_last (aX12_acts 152 rfl) (c127 hS) (s127 hS) (h_in e7 (by omega) (by omega)) ?_
                        refine xw_goto (tgt := 459) (aX12_acts 153 rfl) (by decide) ?_
                        refine xw_vret (aX12_acts 255 rfl) rfl ?_
                        exact ⟨rfl, _, _, rfl, fr_rf, (fr_ua fr_rf (by decide) (by decide)), ai128, (show rl_h 2 ((FI) 136) ((h_up FL 127 (x6).toNatClampNeg (x455)) 137) ((FI) 138) from rel_hold)⟩
                    · have hn1 : 1 ≤ ((FI 128 (a1).toNatClampNeg).toInt) := hid_e g0 (by omega)
                      refine hw_aloadn (aX12_acts 136 rfl) rfl ?_
                      refine hw_get (v := .ref (base + 127)) (aX12_acts 137 rfl) wf_RX12_33 (c121 hS) (s121 hS) (by decide) (congrArg (fun r => va_rf (h_rf base r)) (r121_14 hF)) ?_
                      refine xw_iload (aX12_acts 138 rfl) rfl ?_
                      refine xw_lload (aX12_acts 139 rfl) rfl ?_
                      refine xw_lneg (aX12_acts 140 rfl) ?_
                      refine hw_tl (fun x457 => ?_)
                      have b458 := l_rng x457
                      refine hw_last (aX12_acts 141 rfl) (c127 hS) (s127 hS) (h_in e7 (by omega) (by omega)) ?_
                      refine xw_goto (tgt := 459) (aX12_acts 142 rfl) (by decide) ?_
                      refine xw_vret (aX12_acts 255 rfl) rfl ?_
                      exact ⟨rfl, _, _, rfl, fr_rf, (fr_ua fr_rf (by decide) (by decide)), ai128, (show rl_h 2 ((FI) 136) ((h_up FL 127 (x6).toNatClampNeg (x457)) 137) ((FI) 138) from rel_hold)⟩
                  · have hn1 : 1 ≤ ((FI 128 (a1).toNatClampNeg).toInt) := hid_e g0 (by omega)
                    refine hw_aloadn (aX12_acts 120 rfl) rfl ?_
                    refine hw_get (v := .ref (base + 127)) (aX12_acts 121 rfl) wf_RX12_33 (c121 hS) (s121 hS) (by decide) (congrArg (fun r => va_rf (h_rf base r)) (r121_14 hF)) ?_
                    refine xw_iload (aX12_acts 122 rfl) rfl ?_
                    refine xw_lload (aX12_acts 123 rfl) rfl ?_
                    refine hw_lc (v := (0 : Int64)) (aX12_acts 124 rfl) (by decide) ?_
                    have j463 : ∀ (g462 : Int64), hw sk base (d + 3) none 184 236 [(0, .ref (base + 121))] [.long (g462), .int (x6), .ref (base + 127)] (n, sl, SH, FI, FL, FR) (h_V (fun s => ∃ FI' FL', s = (n, sl, SH, FI', FL', FR) ∧ h_fr FI FI' [] [128, 136, 138] ∧ h_fr FL FL' [] [127, 137] ∧ h_ai 128 2 0 128 FI' ∧ (rl_h 2 (FI' 136) (FL' 137) (FI' 138)))) := by
                      intro g462
                      have rg_g462 := l_rng g462
                      refine hw_last (aX12_acts 131 rfl) (c127 hS) (s127 hS) (h_in e7 (by omega) (by omega)) ?_
                      refine xw_goto (tgt := 459) (aX12_acts 132 rfl) (by decide) ?_
                      refine xw_vret (aX12_acts 255 rfl) rfl ?_
                      exact ⟨rfl, _, _, rfl, fr_rf, (fr_ua fr_rf (by decide) (by decide)), ai128, (show rl_h 2 ((FI) 136) ((h_up FL 127 (x6).toNatClampNeg (g462)) 137) ((FI) 138) from rel_hold)⟩
                    refine hw_lcge (tgt := 234) (aX12_acts 125 rfl) (aX12_acts 126 rfl) (by decide) rfl (by decide : (0 : Int64).toInt = 0) (fun cd464 => ?_) (fun cd464 => ?_)
                    · refine xw_lload (aX12_acts 130 rfl) rfl ?_
                      exact hw_L (j463 (g10)) ⟨rfl, trivial⟩
                    · refine xw_lload (aX12_acts 127 rfl) rfl ?_
                      refine xw_lneg (aX12_acts 128 rfl) ?_
                      refine hw_tl (fun x465 => ?_)
                      have b466 := l_rng x465
                      refine xw_goto (tgt := 236) (aX12_acts 129 rfl) (by decide) ?_
                      exact hw_L (j463 (x465)) ⟨rfl, trivial⟩
                · have hn1 : 1 ≤ ((FI 128 (a1).toNatClampNeg).toInt) := hid_e g0 (by omega)
                  refine hw_aloadn (aX12_acts 107 rfl) rfl ?_
                  refine hw_get (v := .ref (base + 127)) (aX12_acts 108 rfl) wf_RX12_33 (c121 hS) (s121 hS) (by decide) (congrArg (fun r => va_rf (h_rf base r)) (r121_14 hF)) ?_
                  refine xw_iload (aX12_acts 109 rfl) rfl ?_
                  refine hw_aloadn (aX12_acts 110 rfl) rfl ?_
                  refine xw_lload (aX12_acts 111 rfl) rfl ?_
                  have hy := hid_e g4 (by omega); have hz := fc36_0.2.1 (by omega)
                  have e467 : 0 ≤ (g10).toInt ∧ (g10).toInt ≤ 4096 := by omega
                  refine xw_lloadn (aX12_acts 112 rfl) rfl ?_
                  have e468 : 1 ≤ (a3).toInt ∧ (a3).toInt ≤ 8 := by omega
                  refine xw_l2i (aX12_acts 113 rfl) ?_
                  refine hw_tie (A := (a3).toInt) (l_2i rfl (by omega) (by omega)) (fun x469 e470 => ?_)
                  refine hw_callV (Bs := [.long (g10), .int (x469)]) (rest := [.int (x6), .ref (base + 127)]) (aX12_acts 114 rfl) wc_RX12_342 (by decide) rfl wi_yX12_read wv_yX12_read (c121 hS) (s121 hS) rfl rfl rfl (Nat.le_of_ble_eq_true rfl) (Nat.le_of_ble_eq_true rfl) (m_read (d := d + 2) hS hF (g10) (x469) (by have := (e470 : (x469).toInt = (a3).toInt); show (g10).toInt + (x469).toInt ≤ 4096; omega) (by show 0 ≤ (g10).toInt ∧ (g10).toInt ≤ 4096; omega) (by have := (e470 : (x469).toInt = (a3).toInt); show 1 ≤ (x469).toInt ∧ (x469).toInt ≤ 8; omega)) (fun v471 sv472 p473 => ?_)
                  obtain ⟨r477, rfl, FI475, FL476, rfl, rfl, rfl⟩ := p473
                  have rg_r477 := l_rng r477
                  show hw sk base _ none _ _ _ [.long (r477), .int (x6), .ref (base + 127)] _ _
                  refine hw_last (aX12_acts 115 rfl) (c127 hS) (s127 hS) (h_in e7 (by omega) (by omega)) ?_
                  refine xw_goto (tgt := 459) (aX12_acts 116 rfl) (by decide) ?_
                  refine xw_vret (aX12_acts 255 rfl) rfl ?_
                  exact ⟨rfl, _, _, rfl, fr_rf, (fr_ua fr_rf (by decide) (by decide)), ai128, (show rl_h 2 ((FI) 136) ((h_up FL 127 (x6).toNatClampNeg (r477)) 137) ((FI) 138) from rel_hold)⟩
              · have hn1 : 1 ≤ ((FI 128 (a1).toNatClampNeg).toInt) := hid_e g0 (by omega)
                refine hw_aloadn (aX12_acts 95 rfl) rfl ?_
                refine hw_get (v := .ref (base + 127)) (aX12_acts 96 rfl) wf_RX12_33 (c121 hS) (s121 hS) (by decide) (congrArg (fun r => va_rf (h_rf base r)) (r121_14 hF)) ?_
                refine xw_iload (aX12_acts 97 rfl) rfl ?_
                refine hw_aloadn (aX12_acts 98 rfl) rfl ?_
                refine xw_lload (aX12_acts 99 rfl) rfl ?_
                have hz := fc36_0.1 (by omega)
                have e478 : 0 ≤ (g10).toInt ∧ (g10).toInt ≤ 4088 := by omega
                refine hw_bp (v := (8 : Int32)) (aX12_acts 100 rfl) (by decide) ?_
                refine hw_callV (Bs := [.long (g10), .int ((8 : Int32))]) (rest := [.int (x6), .ref (base + 127)]) (aX12_acts 101 rfl) wc_RX12_342 (by decide) rfl wi_yX12_read wv_yX12_read (c121 hS) (s121 hS) rfl rfl rfl (Nat.le_of_ble_eq_true rfl) (Nat.le_of_ble_eq_true rfl) (m_read (d := d + 2) hS hF (g10) ((8 : Int32)) (by have := ((by decide : (8 : Int32).toInt = 8) : ((8 : Int32)).toInt = 8); show (g10).toInt + ((8 : Int32)).toInt ≤ 4096; omega) (by show 0 ≤ (g10).toInt ∧ (g10).toInt ≤ 4096; omega) (by have := ((by decide : (8 : Int32).toInt = 8) : ((8 : Int32)).toInt = 8); show 1 ≤ ((8 : Int32)).toInt ∧ ((8 : Int32)).toInt ≤ 8; omega)) (fun v479 sv480 p481 => ?_)
                obtain ⟨r485, rfl, FI483, FL484, rfl, rfl, rfl⟩ := p481
                have rg_r485 := l_rng r485
                show hw sk base _ none _ _ _ [.long (r485), .int (x6), .ref (base + 127)] _ _
                refine hw_last (aX12_acts 102 rfl) (c127 hS) (s127 hS) (h_in e7 (by omega) (by omega)) ?_
                refine xw_goto (tgt := 459) (aX12_acts 103 rfl) (by decide) ?_
                refine xw_vret (aX12_acts 255 rfl) rfl ?_
                exact ⟨rfl, _, _, rfl, fr_rf, (fr_ua fr_rf (by decide) (by decide)), ai128, (show rl_h 2 ((FI) 136) ((h_up FL 127 (x6).toNatClampNeg (r485)) 137) ((FI) 138) from rel_hold)⟩
            · have hn3 : 3 ≤ ((FI 128 (a1).toNatClampNeg).toInt) := hid_e g2 (by omega)
              refine hw_aloadn (aX12_acts 67 rfl) rfl ?_
              refine hw_get (v := .ref (base + 127)) (aX12_acts 68 rfl) wf_RX12_33 (c121 hS) (s121 hS) (by decide) (congrArg (fun r => va_rf (h_rf base r)) (r121_14 hF)) ?_
              refine xw_iload (aX12_acts 69 rfl) rfl ?_
              refine xw_lload (aX12_acts 70 rfl) rfl ?_
              refine hw_last (aX12_acts 71 rfl) (c127 hS) (s127 hS) (h_in e7 (by omega) (by omega)) ?_
              refine hw_aloadn (aX12_acts 72 rfl) rfl ?_
              refine hw_get (v := .ref (base + 127)) (aX12_acts 73 rfl) wf_RX12_33 (c121 hS) (s121 hS) (by decide) (congrArg (fun r => va_rf (h_rf base r)) (r121_14 hF)) ?_
              refine xw_iload (aX12_acts 74 rfl) rfl ?_
              refine hw_ic (v := (1 : Int32)) (aX12_acts 75 rfl) (by decide) ?_
              refine xw_isub (aX12_acts 76 rfl) ?_
              refine hw_tie (A := ((((128) * ((a1).toInt)) + ((FI 128 (a1).toNatClampNeg).toInt)) - (1)) - (1)) (i_sub e7 (by decide : (1 : Int32).toInt = 1) (by omega) (by omega)) (fun x486 e487 => ?_)
              refine hw_aloadn (aX12_acts 77 rfl) rfl ?_
              refine hw_get (v := .ref (base + 127)) (aX12_acts 78 rfl) wf_RX12_33 (c121 hS) (s121 hS) (by decide) (congrArg (fun r => va_rf (h_rf base r)) (r121_14 hF)) ?_
              refine xw_iload (aX12_acts 79 rfl) rfl ?_
              refine hw_ic (v := (2 : Int32)) (aX12_acts 80 rfl) (by decide) ?_
              refine xw_isub (aX12_acts 81 rfl) ?_
              refine hw_tie (A := ((((128) * ((a1).toInt)) + ((FI 128 (a1).toNatClampNeg).toInt)) - (1)) - (2)) (i_sub e7 (by decide : (2 : Int32).toInt = 2) (by omega) (by omega)) (fun x488 e489 => ?_)
              refine hw_lald (v := (h_up FL 127 (x6).toNatClampNeg (g143)) 127 (x488).toNatClampNeg) (aX12_acts 82 rfl) (c127 hS) (s127 hS) (h_in e489 (by omega) (by omega)) rfl ?_
              refine hw_tl (fun x490 => ?_)
              have b491 := l_rng x490
              refine hw_last (aX12_acts 83 rfl) (c127 hS) (s127 hS) (h_in e487 (by omega) (by omega)) ?_
              refine hw_aloadn (aX12_acts 84 rfl) rfl ?_
              refine hw_get (v := .ref (base + 127)) (aX12_acts 85 rfl) wf_RX12_33 (c121 hS) (s121 hS) (by decide) (congrArg (fun r => va_rf (h_rf base r)) (r121_14 hF)) ?_
              refine xw_iload (aX12_acts 86 rfl) rfl ?_
              refine hw_ic (v := (2 : Int32)) (aX12_acts 87 rfl) (by decide) ?_
              refine xw_isub (aX12_acts 88 rfl) ?_
              refine hw_tie (A := ((((128) * ((a1).toInt)) + ((FI 128 (a1).toNatClampNeg).toInt)) - (1)) - (2)) (i_sub e7 (by decide : (2 : Int32).toInt = 2) (by omega) (by omega)) (fun x492 e493 => ?_)
              refine xw_lload (aX12_acts 89 rfl) rfl ?_
              refine hw_last (aX12_acts 90 rfl) (c127 hS) (s127 hS) (h_in e493 (by omega) (by omega)) ?_
              refine xw_goto (tgt := 459) (aX12_acts 91 rfl) (by decide) ?_
              refine xw_vret (aX12_acts 255 rfl) rfl ?_
              exact ⟨rfl, _, _, rfl, fr_rf, (fr_ua (fr_ua (fr_ua fr_rf (by decide) (by decide)) (by decide) (by decide)) (by decide) (by decide)), ai128, (show rl_h 2 ((FI) 136) ((h_up (h_up (h_up FL 127 (x6).toNatClampNeg (g143)) 127 (x486).toNatClampNeg (x490)) 127 (x492).toNatClampNeg (g10)) 137) ((FI) 138) from rel_hold)⟩
          · have hn2 : 2 ≤ ((FI 128 (a1).toNatClampNeg).toInt) := hid_e g1 (by omega)
            refine hw_aloadn (aX12_acts 51 rfl) rfl ?_
            refine hw_get (v := .ref (base + 127)) (aX12_acts 52 rfl) wf_RX12_33 (c121 hS) (s121 hS) (by decide) (congrArg (fun r => va_rf (h_rf base r)) (r121_14 hF)) ?_
            refine xw_iload (aX12_acts 53 rfl) rfl ?_
            refine xw_lload (aX12_acts 54 rfl) rfl ?_
            refine hw_last (aX12_acts 55 rfl) (c127 hS) (s127 hS) (h_in e7 (by omega) (by omega)) ?_
            refine hw_aloadn (aX12_acts 56 rfl) rfl ?_
            refine hw_get (v := .ref (base + 127)) (aX12_acts 57 rfl) wf_RX12_33 (c121 hS) (s121 hS) (by decide) (congrArg (fun r => va_rf (h_rf base r)) (r121_14 hF)) ?_
            refine xw_iload (aX12_acts 58 rfl) rfl ?_
            refine hw_ic (v := (1 : Int32)) (aX12_acts 59 rfl) (by decide) ?_
            refine xw_isub (aX12_acts 60 rfl) ?_
            refine hw_tie (A := ((((128) * ((a1).toInt)) + ((FI 128 (a1).toNatClampNeg).toInt)) - (1)) - (1)) (i_sub e7 (by decide : (1 : Int32).toInt = 1) (by omega) (by omega)) (fun x494 e495 => ?_)
            refine xw_lload (aX12_acts 61 rfl) rfl ?_
            refine hw_last (aX12_acts 62 rfl) (c127 hS) (s127 hS) (h_in e495 (by omega) (by omega)) ?_
            refine xw_goto (tgt := 459) (aX12_acts 63 rfl) (by decide) ?_
            refine xw_vret (aX12_acts 255 rfl) rfl ?_
            exact ⟨rfl, _, _, rfl, fr_rf, (fr_ua (fr_ua fr_rf (by decide) (by decide)) (by decide) (by decide)), ai128, (show rl_h 2 ((FI) 136) ((h_up (h_up FL 127 (x6).toNatClampNeg (g143)) 127 (x494).toNatClampNeg (g10)) 137) ((FI) 138) from rel_hold)⟩
        · have hn1 : 1 ≤ ((FI 128 (a1).toNatClampNeg).toInt) := hid_e g0 (by omega)
          refine hw_aloadn (aX12_acts 40 rfl) rfl ?_
          refine hw_get (v := .ref (base + 128)) (aX12_acts 41 rfl) wf_RX12_36 (c121 hS) (s121 hS) (by decide) (congrArg (fun r => va_rf (h_rf base r)) (r121_15 hF)) ?_
          refine xw_iloadn (aX12_acts 42 rfl) rfl ?_
          refine xw_iload (aX12_acts 43 rfl) rfl ?_
          refine hw_ic (v := (1 : Int32)) (aX12_acts 44 rfl) (by decide) ?_
          refine xw_isub (aX12_acts 45 rfl) ?_
          refine hw_tie (A := ((FI 128 (a1).toNatClampNeg).toInt) - (1)) (i_sub rfl (by decide : (1 : Int32).toInt = 1) (by omega) (by omega)) (fun x496 e497 => ?_)
          refine hw_iast (aX12_acts 46 rfl) (c128 hS) (s128 hS) (h_in rfl (by omega) (by omega)) ?_
          have e498 : h_ai 128 2 0 128 (h_up FI 128 (a1).toNatClampNeg (x496)) := ai_up ai128 e497 (by omega) (by omega)
          refine xw_goto (tgt := 459) (aX12_acts 47 rfl) (by decide) ?_
          refine xw_vret (aX12_acts 255 rfl) rfl ?_
          exact ⟨rfl, _, _, rfl, (fr_ua fr_rf (by decide) (by decide)), fr_rf, e498, (show rl_h 2 ((h_up FI 128 (a1).toNatClampNeg (x496)) 136) ((FL) 137) ((h_up FI 128 (a1).toNatClampNeg (x496)) 138) from rel_hold)⟩
    refine hw_icle (tgt := 56) (aX12_acts 24 rfl) (by decide) rfl (by decide : (1 : Int32).toInt = 1) (fun cd499 => ?_) (fun cd499 => ?_)
    · refine hw_lc (v := (0 : Int64)) (aX12_acts 32 rfl) (by decide) ?_
      exact hw_L (j264 ((0 : Int64))) ⟨rfl, rfl, rfl, rfl, rfl, rfl, rfl, rfl, trivial⟩
    · refine hw_aloadn (aX12_acts 25 rfl) rfl ?_
      refine hw_get (v := .ref (base + 127)) (aX12_acts 26 rfl) wf_RX12_33 (c121 hS) (s121 hS) (by decide) (congrArg (fun r => va_rf (h_rf base r)) (r121_14 hF)) ?_
      refine xw_iload (aX12_acts 27 rfl) rfl ?_
      refine hw_ic (v := (1 : Int32)) (aX12_acts 28 rfl) (by decide) ?_
      refine xw_isub (aX12_acts 29 rfl) ?_
      refine hw_tie (A := ((((128) * ((a1).toInt)) + ((FI 128 (a1).toNatClampNeg).toInt)) - (1)) - (1)) (i_sub e7 (by decide : (1 : Int32).toInt = 1) (by omega) (by omega)) (fun x500 e501 => ?_)
      refine hw_lald (v := FL 127 (x500).toNatClampNeg) (aX12_acts 30 rfl) (c127 hS) (s127 hS) (h_in e501 (by omega) (by omega)) rfl ?_
      refine hw_tl (fun x502 => ?_)
      have b503 := l_rng x502
      refine xw_goto (tgt := 57) (aX12_acts 31 rfl) (by decide) ?_
      exact hw_L (j264 (x502)) ⟨rfl, rfl, rfl, rfl, rfl, rfl, rfl, rfl, trivial⟩
  refine hw_ifle (tgt := 35) (aX12_acts 14 rfl) (by decide) rfl (fun cd504 => ?_) (fun cd504 => ?_)
  · refine hw_lc (v := (0 : Int64)) (aX12_acts 20 rfl) (by decide) ?_
    exact hw_L (j137 ((0 : Int64)) (show hid (((a2).toInt = 6 → 0 ≤ ((0 : Int64)).toInt ∧ ((0 : Int64)).toInt ≤ 4088) ∧ ((a2).toInt = 148 → 0 ≤ ((0 : Int64)).toInt ∧ ((0 : Int64)).toInt ≤ 4096 - (a3).toInt) ∧ ((a2).toInt = 27 ∨ (a2).toInt = 29 → ((0 : Int64)).toInt ≠ 0)) from (by have z1 := hid_e g0; have z2 := hid_e g1; show ((a2).toInt = 6 → 0 ≤ ((0 : Int64)).toInt ∧ ((0 : Int64)).toInt ≤ 4088) ∧ ((a2).toInt = 148 → 0 ≤ ((0 : Int64)).toInt ∧ ((0 : Int64)).toInt ≤ 4096 - (a3).toInt) ∧ ((a2).toInt = 27 ∨ (a2).toInt = 29 → ((0 : Int64)).toInt ≠ 0); omega))) ⟨rfl, rfl, rfl, rfl, rfl, rfl, rfl, trivial⟩
  · refine hw_aloadn (aX12_acts 15 rfl) rfl ?_
    refine hw_get (v := .ref (base + 127)) (aX12_acts 16 rfl) wf_RX12_33 (c121 hS) (s121 hS) (by decide) (congrArg (fun r => va_rf (h_rf base r)) (r121_14 hF)) ?_
    refine xw_iload (aX12_acts 17 rfl) rfl ?_
    refine hw_lald (v := FL 127 (x6).toNatClampNeg) (aX12_acts 18 rfl) (c127 hS) (s127 hS) (h_in e7 (by omega) (by omega)) rfl ?_
    have e505 := l_rng (FL 127 (x6).toNatClampNeg)
    have hT := gg0 x6 (by omega)
    refine xw_goto (tgt := 36) (aX12_acts 19 rfl) (by decide) ?_
    exact hw_L (j137 (FL 127 (x6).toNatClampNeg) (show hid (((a2).toInt = 6 → 0 ≤ (FL 127 (x6).toNatClampNeg).toInt ∧ (FL 127 (x6).toNatClampNeg).toInt ≤ 4088) ∧ ((a2).toInt = 148 → 0 ≤ (FL 127 (x6).toNatClampNeg).toInt ∧ (FL 127 (x6).toNatClampNeg).toInt ≤ 4096 - (a3).toInt) ∧ ((a2).toInt = 27 ∨ (a2).toInt = 29 → (FL 127 (x6).toNatClampNeg).toInt ≠ 0)) from hT)) ⟨rfl, rfl, rfl, rfl, rfl, rfl, rfl, trivial⟩
end
section
/-! Ranges of the fixed cells' ints; writes with names; frames. -/
def g_F : Int × Int := (-2147483648, 2147483647)
def g_r0 (k : Nat) : Int × Int := if k = 9 then (0, 1000) else if k = 10 then (0, 64) else if k = 12 then (0, 12) else g_F
def g_r1 (k : Nat) : Int × Int := if k = 1 then (0, 16) else g_F
def g_r23 (k : Nat) : Int × Int := if k = 4 then (-1, 15) else if k = 5 then (-1, 31) else if k = 7 then (0, 1) else if k = 9 then (0, 1) else g_F
def g_r48 (k : Nat) : Int × Int := if k = 5 then (0, 128) else g_F
def g_r49 (k : Nat) : Int × Int := if k = 5 then (0, 128) else g_F
def g_r52 (k : Nat) : Int × Int := if k = 1 then (0, 16) else g_F
def g_r72 (k : Nat) : Int × Int := if k = 1 then (0, 16) else g_F
def g_r91 (k : Nat) : Int × Int := if k = 1 then (0, 16) else g_F
def g_r110 (k : Nat) : Int × Int := if k = 3 then (0, 12) else if k = 7 then (-1, 1000) else g_F
def g_r111 (k : Nat) : Int × Int := if k = 4 then (0, 1001) else if k = 6 then (0, 1000) else if k = 7 then (0, 1003) else if k = 8 then (0, 1003) else g_F
def g_r114 (k : Nat) : Int × Int := if k < 1001 then (0, 1003) else g_F
def g_r115 (k : Nat) : Int × Int := if k < 1001 then (0, 1003) else g_F
def g_r119 (k : Nat) : Int × Int := if k = 1 then (0, 2000000000) else g_F
def g_r121 (k : Nat) : Int × Int := if k = 5 then (-1, 15) else if k = 6 then (-1, 31) else if k = 10 then (0, 1) else if k = 11 then (0, 1) else if k = 13 then (0, 1000) else if k = 46 then (1, 16) else if k = 47 then (0, 1) else if k = 53 then (0, 1) else if k = 61 then (0, 64) else if k = 67 then (0, 1001) else if k = 68 then (0, 1000) else if k = 73 then (0, 30000) else if k = 74 then (0, 12) else if k = 78 then (0, 12) else if k = 90 then (0, 256) else if k = 91 then (0, 1) else if k = 92 then (0, 1001) else if k = 94 then (0, 8) else if k = 95 then (0, 1) else if k = 101 then (0, 512) else if k = 104 then (0, 1) else g_F
def g_r124 (k : Nat) : Int × Int := if k < 19200 then (0, 255) else g_F
def g_r125 (k : Nat) : Int × Int := if k < 32 then (0, 600) else g_F
def g_r126 (k : Nat) : Int × Int := if k < 1000 then (0, 255) else g_F
def g_r128 (k : Nat) : Int × Int := if k < 2 then (0, 128) else g_F
def g_r129 (k : Nat) : Int × Int := if k < 2 then (0, 16) else g_F
def g_r132 (k : Nat) : Int × Int := if k < 32 then (0, 4096) else g_F
def g_r133 (k : Nat) : Int × Int := if k < 32 then (0, 4096) else g_F
def g_r135 (k : Nat) : Int × Int := if k < 2 then (0, 4096) else g_F
def g_r142 (k : Nat) : Int × Int := if k < 2 then (0, 8) else g_F
def g_r146 (k : Nat) : Int × Int := if k < 16 then (0, 4096) else g_F
def g_r154 (k : Nat) : Int × Int := if k < 4000 then (0, 255) else g_F
def g_r156 (k : Nat) : Int × Int := if k < 12 then (0, 8) else g_F
def g_r157 (k : Nat) : Int × Int := if k < 12 then (0, 1000) else g_F
def g_r159 (k : Nat) : Int × Int := if k < 12 then (0, 8) else g_F
def g_r160 (k : Nat) : Int × Int := if k < 12 then (0, 1000) else g_F
def g_r161 (k : Nat) : Int × Int := if k < 13 then (0, 30000) else g_F
def g_r163 (k : Nat) : Int × Int := if k < 12 then (0, 1) else g_F
def g_r164 (k : Nat) : Int × Int := if k < 4000 then (0, 255) else g_F
def g_r174 (k : Nat) : Int × Int := if k < 256 then (0, 1) else g_F
def g_r175 (k : Nat) : Int × Int := if k < 256 then (0, 1) else g_F
def g_r (c k : Nat) : Int × Int := if c = 0 then g_r0 k else if c = 1 then g_r1 k else if c = 23 then g_r23 k else if c = 48 then g_r48 k else if c = 49 then g_r49 k else if c = 52 then g_r52 k else if c = 72 then g_r72 k else if c = 91 then g_r91 k else if c = 110 then g_r110 k else if c = 111 then g_r111 k else if c = 114 then g_r114 k else if c = 115 then g_r115 k else if c = 119 then g_r119 k else if c = 121 then g_r121 k else if c = 124 then g_r124 k else if c = 125 then g_r125 k else if c = 126 then g_r126 k else if c = 128 then g_r128 k else if c = 129 then g_r129 k else if c = 132 then g_r132 k else if c = 133 then g_r133 k else if c = 135 then g_r135 k else if c = 142 then g_r142 k else if c = 146 then g_r146 k else if c = 154 then g_r154 k else if c = 156 then g_r156 k else if c = 157 then g_r157 k else if c = 159 then g_r159 k else if c = 160 then g_r160 k else if c = 161 then g_r161 k else if c = 163 then g_r163 k else if c = 164 then g_r164 k else if c = 174 then g_r174 k else if c = 175 then g_r175 k else g_F
def g_I (F : Nat → Nat → Int32) : Prop := ∀ c k, (g_r c k).1 ≤ (F c k).toInt ∧ (F c k).toInt ≤ (g_r c k).2
theorem g_up {F F2 : Nat → Nat → Int32} {c k : Nat} {x : Int32} (h : g_I F) (u : F2 = h_up F c k x) (h1 : (g_r c k).1 ≤ x.toInt ∧ x.toInt ≤ (g_r c k).2) : g_I F2 := by
  subst u
  intro c2 k2
  by_cases e : c2 = c
  · subst e
    by_cases e2 : k2 = k
    · subst e2; rw [h_up_eq]; exact h1
    · rw [h_up_ne e2]; exact h c2 k2
  · rw [h_up_nc e]; exact h c2 k2
theorem g_full {c k : Nat} {x : Int32} (e : g_r c k = g_F) : (g_r c k).1 ≤ x.toInt ∧ x.toInt ≤ (g_r c k).2 := by rw [e]; exact i_rng x
theorem gU_F {F F2 : Nat → Nat → Int32} {c k : Nat} {x : Int32} (h : g_I F) (u : F2 = h_up F c k x) (e : g_r c k = g_F) : g_I F2 := g_up h u (g_full e)
theorem gI_0_9 {F : Nat → Nat → Int32} (h : g_I F) : 0 ≤ (F 0 9).toInt ∧ (F 0 9).toInt ≤ 1000 := h 0 9
theorem gU_0_9 {F F2 : Nat → Nat → Int32} {x : Int32} (h : g_I F) (u : F2 = h_up F 0 9 x) (h1 : 0 ≤ x.toInt) (h2 : x.toInt ≤ 1000) : g_I F2 := g_up h u ⟨h1, h2⟩
theorem gI_0_10 {F : Nat → Nat → Int32} (h : g_I F) : 0 ≤ (F 0 10).toInt ∧ (F 0 10).toInt ≤ 64 := h 0 10
theorem gU_0_10 {F F2 : Nat → Nat → Int32} {x : Int32} (h : g_I F) (u : F2 = h_up F 0 10 x) (h1 : 0 ≤ x.toInt) (h2 : x.toInt ≤ 64) : g_I F2 := g_up h u ⟨h1, h2⟩
theorem gI_0_12 {F : Nat → Nat → Int32} (h : g_I F) : 0 ≤ (F 0 12).toInt ∧ (F 0 12).toInt ≤ 12 := h 0 12
theorem gU_0_12 {F F2 : Nat → Nat → Int32} {x : Int32} (h : g_I F) (u : F2 = h_up F 0 12 x) (h1 : 0 ≤ x.toInt) (h2 : x.toInt ≤ 12) : g_I F2 := g_up h u ⟨h1, h2⟩
theorem gI_1_1 {F : Nat → Nat → Int32} (h : g_I F) : 0 ≤ (F 1 1).toInt ∧ (F 1 1).toInt ≤ 16 := h 1 1
theorem gU_1_1 {F F2 : Nat → Nat → Int32} {x : Int32} (h : g_I F) (u : F2 = h_up F 1 1 x) (h1 : 0 ≤ x.toInt) (h2 : x.toInt ≤ 16) : g_I F2 := g_up h u ⟨h1, h2⟩
theorem gI_23_4 {F : Nat → Nat → Int32} (h : g_I F) : -1 ≤ (F 23 4).toInt ∧ (F 23 4).toInt ≤ 15 := h 23 4
theorem gU_23_4 {F F2 : Nat → Nat → Int32} {x : Int32} (h : g_I F) (u : F2 = h_up F 23 4 x) (h1 : -1 ≤ x.toInt) (h2 : x.toInt ≤ 15) : g_I F2 := g_up h u ⟨h1, h2⟩
theorem gI_23_5 {F : Nat → Nat → Int32} (h : g_I F) : -1 ≤ (F 23 5).toInt ∧ (F 23 5).toInt ≤ 31 := h 23 5
theorem gU_23_5 {F F2 : Nat → Nat → Int32} {x : Int32} (h : g_I F) (u : F2 = h_up F 23 5 x) (h1 : -1 ≤ x.toInt) (h2 : x.toInt ≤ 31) : g_I F2 := g_up h u ⟨h1, h2⟩
theorem gI_23_7 {F : Nat → Nat → Int32} (h : g_I F) : 0 ≤ (F 23 7).toInt ∧ (F 23 7).toInt ≤ 1 := h 23 7
theorem gU_23_7 {F F2 : Nat → Nat → Int32} {x : Int32} (h : g_I F) (u : F2 = h_up F 23 7 x) (h1 : 0 ≤ x.toInt) (h2 : x.toInt ≤ 1) : g_I F2 := g_up h u ⟨h1, h2⟩
theorem gI_23_9 {F : Nat → Nat → Int32} (h : g_I F) : 0 ≤ (F 23 9).toInt ∧ (F 23 9).toInt ≤ 1 := h 23 9
theorem gU_23_9 {F F2 : Nat → Nat → Int32} {x : Int32} (h : g_I F) (u : F2 = h_up F 23 9 x) (h1 : 0 ≤ x.toInt) (h2 : x.toInt ≤ 1) : g_I F2 := g_up h u ⟨h1, h2⟩
theorem gI_48_5 {F : Nat → Nat → Int32} (h : g_I F) : 0 ≤ (F 48 5).toInt ∧ (F 48 5).toInt ≤ 128 := h 48 5
theorem gU_48_5 {F F2 : Nat → Nat → Int32} {x : Int32} (h : g_I F) (u : F2 = h_up F 48 5 x) (h1 : 0 ≤ x.toInt) (h2 : x.toInt ≤ 128) : g_I F2 := g_up h u ⟨h1, h2⟩
theorem gI_49_5 {F : Nat → Nat → Int32} (h : g_I F) : 0 ≤ (F 49 5).toInt ∧ (F 49 5).toInt ≤ 128 := h 49 5
theorem gU_49_5 {F F2 : Nat → Nat → Int32} {x : Int32} (h : g_I F) (u : F2 = h_up F 49 5 x) (h1 : 0 ≤ x.toInt) (h2 : x.toInt ≤ 128) : g_I F2 := g_up h u ⟨h1, h2⟩
theorem gI_52_1 {F : Nat → Nat → Int32} (h : g_I F) : 0 ≤ (F 52 1).toInt ∧ (F 52 1).toInt ≤ 16 := h 52 1
theorem gU_52_1 {F F2 : Nat → Nat → Int32} {x : Int32} (h : g_I F) (u : F2 = h_up F 52 1 x) (h1 : 0 ≤ x.toInt) (h2 : x.toInt ≤ 16) : g_I F2 := g_up h u ⟨h1, h2⟩
theorem gI_72_1 {F : Nat → Nat → Int32} (h : g_I F) : 0 ≤ (F 72 1).toInt ∧ (F 72 1).toInt ≤ 16 := h 72 1
theorem gU_72_1 {F F2 : Nat → Nat → Int32} {x : Int32} (h : g_I F) (u : F2 = h_up F 72 1 x) (h1 : 0 ≤ x.toInt) (h2 : x.toInt ≤ 16) : g_I F2 := g_up h u ⟨h1, h2⟩
theorem gI_91_1 {F : Nat → Nat → Int32} (h : g_I F) : 0 ≤ (F 91 1).toInt ∧ (F 91 1).toInt ≤ 16 := h 91 1
theorem gU_91_1 {F F2 : Nat → Nat → Int32} {x : Int32} (h : g_I F) (u : F2 = h_up F 91 1 x) (h1 : 0 ≤ x.toInt) (h2 : x.toInt ≤ 16) : g_I F2 := g_up h u ⟨h1, h2⟩
theorem gI_110_3 {F : Nat → Nat → Int32} (h : g_I F) : 0 ≤ (F 110 3).toInt ∧ (F 110 3).toInt ≤ 12 := h 110 3
theorem gU_110_3 {F F2 : Nat → Nat → Int32} {x : Int32} (h : g_I F) (u : F2 = h_up F 110 3 x) (h1 : 0 ≤ x.toInt) (h2 : x.toInt ≤ 12) : g_I F2 := g_up h u ⟨h1, h2⟩
theorem gI_110_7 {F : Nat → Nat → Int32} (h : g_I F) : -1 ≤ (F 110 7).toInt ∧ (F 110 7).toInt ≤ 1000 := h 110 7
theorem gU_110_7 {F F2 : Nat → Nat → Int32} {x : Int32} (h : g_I F) (u : F2 = h_up F 110 7 x) (h1 : -1 ≤ x.toInt) (h2 : x.toInt ≤ 1000) : g_I F2 := g_up h u ⟨h1, h2⟩
theorem gI_111_4 {F : Nat → Nat → Int32} (h : g_I F) : 0 ≤ (F 111 4).toInt ∧ (F 111 4).toInt ≤ 1001 := h 111 4
theorem gU_111_4 {F F2 : Nat → Nat → Int32} {x : Int32} (h : g_I F) (u : F2 = h_up F 111 4 x) (h1 : 0 ≤ x.toInt) (h2 : x.toInt ≤ 1001) : g_I F2 := g_up h u ⟨h1, h2⟩
theorem gI_111_6 {F : Nat → Nat → Int32} (h : g_I F) : 0 ≤ (F 111 6).toInt ∧ (F 111 6).toInt ≤ 1000 := h 111 6
theorem gU_111_6 {F F2 : Nat → Nat → Int32} {x : Int32} (h : g_I F) (u : F2 = h_up F 111 6 x) (h1 : 0 ≤ x.toInt) (h2 : x.toInt ≤ 1000) : g_I F2 := g_up h u ⟨h1, h2⟩
theorem gI_111_7 {F : Nat → Nat → Int32} (h : g_I F) : 0 ≤ (F 111 7).toInt ∧ (F 111 7).toInt ≤ 1003 := h 111 7
theorem gU_111_7 {F F2 : Nat → Nat → Int32} {x : Int32} (h : g_I F) (u : F2 = h_up F 111 7 x) (h1 : 0 ≤ x.toInt) (h2 : x.toInt ≤ 1003) : g_I F2 := g_up h u ⟨h1, h2⟩
theorem gI_111_8 {F : Nat → Nat → Int32} (h : g_I F) : 0 ≤ (F 111 8).toInt ∧ (F 111 8).toInt ≤ 1003 := h 111 8
theorem gU_111_8 {F F2 : Nat → Nat → Int32} {x : Int32} (h : g_I F) (u : F2 = h_up F 111 8 x) (h1 : 0 ≤ x.toInt) (h2 : x.toInt ≤ 1003) : g_I F2 := g_up h u ⟨h1, h2⟩
theorem gI_114 {F : Nat → Nat → Int32} (h : g_I F) {i : Nat} (hi : i < 1001) : 0 ≤ (F 114 i).toInt ∧ (F 114 i).toInt ≤ 1003 := by
  have z : _ := h 114 i
  rw [show g_r 114 i = g_r114 i from rfl, g_r114, if_pos hi] at z; exact z
theorem gU_114 {F F2 : Nat → Nat → Int32} {x : Int32} {i : Nat} (h : g_I F) (u : F2 = h_up F 114 i x) (h1 : 0 ≤ x.toInt) (h2 : x.toInt ≤ 1003) : g_I F2 := g_up h u (by
  rw [show g_r 114 i = g_r114 i from rfl, g_r114]
  split
  · exact ⟨h1, h2⟩
  · exact i_rng x)
theorem gA_114 {F : Nat → Nat → Int32} (h : g_I F) : h_ai 114 1001 0 1003 F := fun _ hi => gI_114 h hi
theorem gB_114 {F : Nat → Nat → Int32} (h : h_ai 114 1001 0 1003 F) : ∀ i, (g_r 114 i).1 ≤ (F 114 i).toInt ∧ (F 114 i).toInt ≤ (g_r 114 i).2 := fun i => by
  rw [show g_r 114 i = g_r114 i from rfl, g_r114]
  split
  · exact h i (by assumption)
  · exact i_rng _
theorem gI_115 {F : Nat → Nat → Int32} (h : g_I F) {i : Nat} (hi : i < 1001) : 0 ≤ (F 115 i).toInt ∧ (F 115 i).toInt ≤ 1003 := by
  have z : _ := h 115 i
  rw [show g_r 115 i = g_r115 i from rfl, g_r115, if_pos hi] at z; exact z
theorem gU_115 {F F2 : Nat → Nat → Int32} {x : Int32} {i : Nat} (h : g_I F) (u : F2 = h_up F 115 i x) (h1 : 0 ≤ x.toInt) (h2 : x.toInt ≤ 1003) : g_I F2 := g_up h u (by
  rw [show g_r 115 i = g_r115 i from rfl, g_r115]
  split
  · exact ⟨h1, h2⟩
  · exact i_rng x)
theorem gA_115 {F : Nat → Nat → Int32} (h : g_I F) : h_ai 115 1001 0 1003 F := fun _ hi => gI_115 h hi
theorem gB_115 {F : Nat → Nat → Int32} (h : h_ai 115 1001 0 1003 F) : ∀ i, (g_r 115 i).1 ≤ (F 115 i).toInt ∧ (F 115 i).toInt ≤ (g_r 115 i).2 := fun i => by
  rw [show g_r 115 i = g_r115 i from rfl, g_r115]
  split
  · exact h i (by assumption)
  · exact i_rng _
theorem gI_119_1 {F : Nat → Nat → Int32} (h : g_I F) : 0 ≤ (F 119 1).toInt ∧ (F 119 1).toInt ≤ 2000000000 := h 119 1
theorem gU_119_1 {F F2 : Nat → Nat → Int32} {x : Int32} (h : g_I F) (u : F2 = h_up F 119 1 x) (h1 : 0 ≤ x.toInt) (h2 : x.toInt ≤ 2000000000) : g_I F2 := g_up h u ⟨h1, h2⟩
theorem gI_121_5 {F : Nat → Nat → Int32} (h : g_I F) : -1 ≤ (F 121 5).toInt ∧ (F 121 5).toInt ≤ 15 := h 121 5
theorem gU_121_5 {F F2 : Nat → Nat → Int32} {x : Int32} (h : g_I F) (u : F2 = h_up F 121 5 x) (h1 : -1 ≤ x.toInt) (h2 : x.toInt ≤ 15) : g_I F2 := g_up h u ⟨h1, h2⟩
theorem gI_121_6 {F : Nat → Nat → Int32} (h : g_I F) : -1 ≤ (F 121 6).toInt ∧ (F 121 6).toInt ≤ 31 := h 121 6
theorem gU_121_6 {F F2 : Nat → Nat → Int32} {x : Int32} (h : g_I F) (u : F2 = h_up F 121 6 x) (h1 : -1 ≤ x.toInt) (h2 : x.toInt ≤ 31) : g_I F2 := g_up h u ⟨h1, h2⟩
theorem gI_121_10 {F : Nat → Nat → Int32} (h : g_I F) : 0 ≤ (F 121 10).toInt ∧ (F 121 10).toInt ≤ 1 := h 121 10
theorem gU_121_10 {F F2 : Nat → Nat → Int32} {x : Int32} (h : g_I F) (u : F2 = h_up F 121 10 x) (h1 : 0 ≤ x.toInt) (h2 : x.toInt ≤ 1) : g_I F2 := g_up h u ⟨h1, h2⟩
theorem gI_121_11 {F : Nat → Nat → Int32} (h : g_I F) : 0 ≤ (F 121 11).toInt ∧ (F 121 11).toInt ≤ 1 := h 121 11
theorem gU_121_11 {F F2 : Nat → Nat → Int32} {x : Int32} (h : g_I F) (u : F2 = h_up F 121 11 x) (h1 : 0 ≤ x.toInt) (h2 : x.toInt ≤ 1) : g_I F2 := g_up h u ⟨h1, h2⟩
theorem gI_121_13 {F : Nat → Nat → Int32} (h : g_I F) : 0 ≤ (F 121 13).toInt ∧ (F 121 13).toInt ≤ 1000 := h 121 13
theorem gU_121_13 {F F2 : Nat → Nat → Int32} {x : Int32} (h : g_I F) (u : F2 = h_up F 121 13 x) (h1 : 0 ≤ x.toInt) (h2 : x.toInt ≤ 1000) : g_I F2 := g_up h u ⟨h1, h2⟩
theorem gI_121_46 {F : Nat → Nat → Int32} (h : g_I F) : 1 ≤ (F 121 46).toInt ∧ (F 121 46).toInt ≤ 16 := h 121 46
theorem gU_121_46 {F F2 : Nat → Nat → Int32} {x : Int32} (h : g_I F) (u : F2 = h_up F 121 46 x) (h1 : 1 ≤ x.toInt) (h2 : x.toInt ≤ 16) : g_I F2 := g_up h u ⟨h1, h2⟩
theorem gI_121_47 {F : Nat → Nat → Int32} (h : g_I F) : 0 ≤ (F 121 47).toInt ∧ (F 121 47).toInt ≤ 1 := h 121 47
theorem gU_121_47 {F F2 : Nat → Nat → Int32} {x : Int32} (h : g_I F) (u : F2 = h_up F 121 47 x) (h1 : 0 ≤ x.toInt) (h2 : x.toInt ≤ 1) : g_I F2 := g_up h u ⟨h1, h2⟩
theorem gI_121_53 {F : Nat → Nat → Int32} (h : g_I F) : 0 ≤ (F 121 53).toInt ∧ (F 121 53).toInt ≤ 1 := h 121 53
theorem gU_121_53 {F F2 : Nat → Nat → Int32} {x : Int32} (h : g_I F) (u : F2 = h_up F 121 53 x) (h1 : 0 ≤ x.toInt) (h2 : x.toInt ≤ 1) : g_I F2 := g_up h u ⟨h1, h2⟩
theorem gI_121_61 {F : Nat → Nat → Int32} (h : g_I F) : 0 ≤ (F 121 61).toInt ∧ (F 121 61).toInt ≤ 64 := h 121 61
theorem gU_121_61 {F F2 : Nat → Nat → Int32} {x : Int32} (h : g_I F) (u : F2 = h_up F 121 61 x) (h1 : 0 ≤ x.toInt) (h2 : x.toInt ≤ 64) : g_I F2 := g_up h u ⟨h1, h2⟩
theorem gI_121_67 {F : Nat → Nat → Int32} (h : g_I F) : 0 ≤ (F 121 67).toInt ∧ (F 121 67).toInt ≤ 1001 := h 121 67
theorem gU_121_67 {F F2 : Nat → Nat → Int32} {x : Int32} (h : g_I F) (u : F2 = h_up F 121 67 x) (h1 : 0 ≤ x.toInt) (h2 : x.toInt ≤ 1001) : g_I F2 := g_up h u ⟨h1, h2⟩
theorem gI_121_68 {F : Nat → Nat → Int32} (h : g_I F) : 0 ≤ (F 121 68).toInt ∧ (F 121 68).toInt ≤ 1000 := h 121 68
theorem gU_121_68 {F F2 : Nat → Nat → Int32} {x : Int32} (h : g_I F) (u : F2 = h_up F 121 68 x) (h1 : 0 ≤ x.toInt) (h2 : x.toInt ≤ 1000) : g_I F2 := g_up h u ⟨h1, h2⟩
theorem gI_121_73 {F : Nat → Nat → Int32} (h : g_I F) : 0 ≤ (F 121 73).toInt ∧ (F 121 73).toInt ≤ 30000 := h 121 73
theorem gU_121_73 {F F2 : Nat → Nat → Int32} {x : Int32} (h : g_I F) (u : F2 = h_up F 121 73 x) (h1 : 0 ≤ x.toInt) (h2 : x.toInt ≤ 30000) : g_I F2 := g_up h u ⟨h1, h2⟩
theorem gI_121_74 {F : Nat → Nat → Int32} (h : g_I F) : 0 ≤ (F 121 74).toInt ∧ (F 121 74).toInt ≤ 12 := h 121 74
theorem gU_121_74 {F F2 : Nat → Nat → Int32} {x : Int32} (h : g_I F) (u : F2 = h_up F 121 74 x) (h1 : 0 ≤ x.toInt) (h2 : x.toInt ≤ 12) : g_I F2 := g_up h u ⟨h1, h2⟩
theorem gI_121_78 {F : Nat → Nat → Int32} (h : g_I F) : 0 ≤ (F 121 78).toInt ∧ (F 121 78).toInt ≤ 12 := h 121 78
theorem gU_121_78 {F F2 : Nat → Nat → Int32} {x : Int32} (h : g_I F) (u : F2 = h_up F 121 78 x) (h1 : 0 ≤ x.toInt) (h2 : x.toInt ≤ 12) : g_I F2 := g_up h u ⟨h1, h2⟩
theorem gI_121_90 {F : Nat → Nat → Int32} (h : g_I F) : 0 ≤ (F 121 90).toInt ∧ (F 121 90).toInt ≤ 256 := h 121 90
theorem gU_121_90 {F F2 : Nat → Nat → Int32} {x : Int32} (h : g_I F) (u : F2 = h_up F 121 90 x) (h1 : 0 ≤ x.toInt) (h2 : x.toInt ≤ 256) : g_I F2 := g_up h u ⟨h1, h2⟩
theorem gI_121_91 {F : Nat → Nat → Int32} (h : g_I F) : 0 ≤ (F 121 91).toInt ∧ (F 121 91).toInt ≤ 1 := h 121 91
theorem gU_121_91 {F F2 : Nat → Nat → Int32} {x : Int32} (h : g_I F) (u : F2 = h_up F 121 91 x) (h1 : 0 ≤ x.toInt) (h2 : x.toInt ≤ 1) : g_I F2 := g_up h u ⟨h1, h2⟩
theorem gI_121_92 {F : Nat → Nat → Int32} (h : g_I F) : 0 ≤ (F 121 92).toInt ∧ (F 121 92).toInt ≤ 1001 := h 121 92
theorem gU_121_92 {F F2 : Nat → Nat → Int32} {x : Int32} (h : g_I F) (u : F2 = h_up F 121 92 x) (h1 : 0 ≤ x.toInt) (h2 : x.toInt ≤ 1001) : g_I F2 := g_up h u ⟨h1, h2⟩
theorem gI_121_94 {F : Nat → Nat → Int32} (h : g_I F) : 0 ≤ (F 121 94).toInt ∧ (F 121 94).toInt ≤ 8 := h 121 94
theorem gU_121_94 {F F2 : Nat → Nat → Int32} {x : Int32} (h : g_I F) (u : F2 = h_up F 121 94 x) (h1 : 0 ≤ x.toInt) (h2 : x.toInt ≤ 8) : g_I F2 := g_up h u ⟨h1, h2⟩
theorem gI_121_95 {F : Nat → Nat → Int32} (h : g_I F) : 0 ≤ (F 121 95).toInt ∧ (F 121 95).toInt ≤ 1 := h 121 95
theorem gU_121_95 {F F2 : Nat → Nat → Int32} {x : Int32} (h : g_I F) (u : F2 = h_up F 121 95 x) (h1 : 0 ≤ x.toInt) (h2 : x.toInt ≤ 1) : g_I F2 := g_up h u ⟨h1, h2⟩
theorem gI_121_101 {F : Nat → Nat → Int32} (h : g_I F) : 0 ≤ (F 121 101).toInt ∧ (F 121 101).toInt ≤ 512 := h 121 101
theorem gU_121_101 {F F2 : Nat → Nat → Int32} {x : Int32} (h : g_I F) (u : F2 = h_up F 121 101 x) (h1 : 0 ≤ x.toInt) (h2 : x.toInt ≤ 512) : g_I F2 := g_up h u ⟨h1, h2⟩
theorem gI_121_104 {F : Nat → Nat → Int32} (h : g_I F) : 0 ≤ (F 121 104).toInt ∧ (F 121 104).toInt ≤ 1 := h 121 104
theorem gU_121_104 {F F2 : Nat → Nat → Int32} {x : Int32} (h : g_I F) (u : F2 = h_up F 121 104 x) (h1 : 0 ≤ x.toInt) (h2 : x.toInt ≤ 1) : g_I F2 := g_up h u ⟨h1, h2⟩
theorem gI_124 {F : Nat → Nat → Int32} (h : g_I F) {i : Nat} (hi : i < 19200) : 0 ≤ (F 124 i).toInt ∧ (F 124 i).toInt ≤ 255 := by
  have z : _ := h 124 i
  rw [show g_r 124 i = g_r124 i from rfl, g_r124, if_pos hi] at z; exact z
theorem gU_124 {F F2 : Nat → Nat → Int32} {x : Int32} {i : Nat} (h : g_I F) (u : F2 = h_up F 124 i x) (h1 : 0 ≤ x.toInt) (h2 : x.toInt ≤ 255) : g_I F2 := g_up h u (by
  rw [show g_r 124 i = g_r124 i from rfl, g_r124]
  split
  · exact ⟨h1, h2⟩
  · exact i_rng x)
theorem gA_124 {F : Nat → Nat → Int32} (h : g_I F) : h_ai 124 19200 0 255 F := fun _ hi => gI_124 h hi
theorem gB_124 {F : Nat → Nat → Int32} (h : h_ai 124 19200 0 255 F) : ∀ i, (g_r 124 i).1 ≤ (F 124 i).toInt ∧ (F 124 i).toInt ≤ (g_r 124 i).2 := fun i => by
  rw [show g_r 124 i = g_r124 i from rfl, g_r124]
  split
  · exact h i (by assumption)
  · exact i_rng _
theorem gI_125 {F : Nat → Nat → Int32} (h : g_I F) {i : Nat} (hi : i < 32) : 0 ≤ (F 125 i).toInt ∧ (F 125 i).toInt ≤ 600 := by
  have z : _ := h 125 i
  rw [show g_r 125 i = g_r125 i from rfl, g_r125, if_pos hi] at z; exact z
theorem gU_125 {F F2 : Nat → Nat → Int32} {x : Int32} {i : Nat} (h : g_I F) (u : F2 = h_up F 125 i x) (h1 : 0 ≤ x.toInt) (h2 : x.toInt ≤ 600) : g_I F2 := g_up h u (by
  rw [show g_r 125 i = g_r125 i from rfl, g_r125]
  split
  · exact ⟨h1, h2⟩
  · exact i_rng x)
theorem gA_125 {F : Nat → Nat → Int32} (h : g_I F) : h_ai 125 32 0 600 F := fun _ hi => gI_125 h hi
theorem gB_125 {F : Nat → Nat → Int32} (h : h_ai 125 32 0 600 F) : ∀ i, (g_r 125 i).1 ≤ (F 125 i).toInt ∧ (F 125 i).toInt ≤ (g_r 125 i).2 := fun i => by
  rw [show g_r 125 i = g_r125 i from rfl, g_r125]
  split
  · exact h i (by assumption)
  · exact i_rng _
theorem gI_126 {F : Nat → Nat → Int32} (h : g_I F) {i : Nat} (hi : i < 1000) : 0 ≤ (F 126 i).toInt ∧ (F 126 i).toInt ≤ 255 := by
  have z : _ := h 126 i
  rw [show g_r 126 i = g_r126 i from rfl, g_r126, if_pos hi] at z; exact z
theorem gU_126 {F F2 : Nat → Nat → Int32} {x : Int32} {i : Nat} (h : g_I F) (u : F2 = h_up F 126 i x) (h1 : 0 ≤ x.toInt) (h2 : x.toInt ≤ 255) : g_I F2 := g_up h u (by
  rw [show g_r 126 i = g_r126 i from rfl, g_r126]
  split
  · exact ⟨h1, h2⟩
  · exact i_rng x)
theorem gA_126 {F : Nat → Nat → Int32} (h : g_I F) : h_ai 126 1000 0 255 F := fun _ hi => gI_126 h hi
theorem gB_126 {F : Nat → Nat → Int32} (h : h_ai 126 1000 0 255 F) : ∀ i, (g_r 126 i).1 ≤ (F 126 i).toInt ∧ (F 126 i).toInt ≤ (g_r 126 i).2 := fun i => by
  rw [show g_r 126 i = g_r126 i from rfl, g_r126]
  split
  · exact h i (by assumption)
  · exact i_rng _
theorem gI_128 {F : Nat → Nat → Int32} (h : g_I F) {i : Nat} (hi : i < 2) : 0 ≤ (F 128 i).toInt ∧ (F 128 i).toInt ≤ 128 := by
  have z : _ := h 128 i
  rw [show g_r 128 i = g_r128 i from rfl, g_r128, if_pos hi] at z; exact z
theorem gU_128 {F F2 : Nat → Nat → Int32} {x : Int32} {i : Nat} (h : g_I F) (u : F2 = h_up F 128 i x) (h1 : 0 ≤ x.toInt) (h2 : x.toInt ≤ 128) : g_I F2 := g_up h u (by
  rw [show g_r 128 i = g_r128 i from rfl, g_r128]
  split
  · exact ⟨h1, h2⟩
  · exact i_rng x)
theorem gA_128 {F : Nat → Nat → Int32} (h : g_I F) : h_ai 128 2 0 128 F := fun _ hi => gI_128 h hi
theorem gB_128 {F : Nat → Nat → Int32} (h : h_ai 128 2 0 128 F) : ∀ i, (g_r 128 i).1 ≤ (F 128 i).toInt ∧ (F 128 i).toInt ≤ (g_r 128 i).2 := fun i => by
  rw [show g_r 128 i = g_r128 i from rfl, g_r128]
  split
  · exact h i (by assumption)
  · exact i_rng _
theorem gI_129 {F : Nat → Nat → Int32} (h : g_I F) {i : Nat} (hi : i < 2) : 0 ≤ (F 129 i).toInt ∧ (F 129 i).toInt ≤ 16 := by
  have z : _ := h 129 i
  rw [show g_r 129 i = g_r129 i from rfl, g_r129, if_pos hi] at z; exact z
theorem gU_129 {F F2 : Nat → Nat → Int32} {x : Int32} {i : Nat} (h : g_I F) (u : F2 = h_up F 129 i x) (h1 : 0 ≤ x.toInt) (h2 : x.toInt ≤ 16) : g_I F2 := g_up h u (by
  rw [show g_r 129 i = g_r129 i from rfl, g_r129]
  split
  · exact ⟨h1, h2⟩
  · exact i_rng x)
theorem gA_129 {F : Nat → Nat → Int32} (h : g_I F) : h_ai 129 2 0 16 F := fun _ hi => gI_129 h hi
theorem gB_129 {F : Nat → Nat → Int32} (h : h_ai 129 2 0 16 F) : ∀ i, (g_r 129 i).1 ≤ (F 129 i).toInt ∧ (F 129 i).toInt ≤ (g_r 129 i).2 := fun i => by
  rw [show g_r 129 i = g_r129 i from rfl, g_r129]
  split
  · exact h i (by assumption)
  · exact i_rng _
theorem gI_132 {F : Nat → Nat → Int32} (h : g_I F) {i : Nat} (hi : i < 32) : 0 ≤ (F 132 i).toInt ∧ (F 132 i).toInt ≤ 4096 := by
  have z : _ := h 132 i
  rw [show g_r 132 i = g_r132 i from rfl, g_r132, if_pos hi] at z; exact z
theorem gU_132 {F F2 : Nat → Nat → Int32} {x : Int32} {i : Nat} (h : g_I F) (u : F2 = h_up F 132 i x) (h1 : 0 ≤ x.toInt) (h2 : x.toInt ≤ 4096) : g_I F2 := g_up h u (by
  rw [show g_r 132 i = g_r132 i from rfl, g_r132]
  split
  · exact ⟨h1, h2⟩
  · exact i_rng x)
theorem gA_132 {F : Nat → Nat → Int32} (h : g_I F) : h_ai 132 32 0 4096 F := fun _ hi => gI_132 h hi
theorem gB_132 {F : Nat → Nat → Int32} (h : h_ai 132 32 0 4096 F) : ∀ i, (g_r 132 i).1 ≤ (F 132 i).toInt ∧ (F 132 i).toInt ≤ (g_r 132 i).2 := fun i => by
  rw [show g_r 132 i = g_r132 i from rfl, g_r132]
  split
  · exact h i (by assumption)
  · exact i_rng _
theorem gI_133 {F : Nat → Nat → Int32} (h : g_I F) {i : Nat} (hi : i < 32) : 0 ≤ (F 133 i).toInt ∧ (F 133 i).toInt ≤ 4096 := by
  have z : _ := h 133 i
  rw [show g_r 133 i = g_r133 i from rfl, g_r133, if_pos hi] at z; exact z
theorem gU_133 {F F2 : Nat → Nat → Int32} {x : Int32} {i : Nat} (h : g_I F) (u : F2 = h_up F 133 i x) (h1 : 0 ≤ x.toInt) (h2 : x.toInt ≤ 4096) : g_I F2 := g_up h u (by
  rw [show g_r 133 i = g_r133 i from rfl, g_r133]
  split
  · exact ⟨h1, h2⟩
  · exact i_rng x)
theorem gA_133 {F : Nat → Nat → Int32} (h : g_I F) : h_ai 133 32 0 4096 F := fun _ hi => gI_133 h hi
theorem gB_133 {F : Nat → Nat → Int32} (h : h_ai 133 32 0 4096 F) : ∀ i, (g_r 133 i).1 ≤ (F 133 i).toInt ∧ (F 133 i).toInt ≤ (g_r 133 i).2 := fun i => by
  rw [show g_r 133 i = g_r133 i from rfl, g_r133]
  split
  · exact h i (by assumption)
  · exact i_rng _
theorem gI_135 {F : Nat → Nat → Int32} (h : g_I F) {i : Nat} (hi : i < 2) : 0 ≤ (F 135 i).toInt ∧ (F 135 i).toInt ≤ 4096 := by
  have z : _ := h 135 i
  rw [show g_r 135 i = g_r135 i from rfl, g_r135, if_pos hi] at z; exact z
theorem gU_135 {F F2 : Nat → Nat → Int32} {x : Int32} {i : Nat} (h : g_I F) (u : F2 = h_up F 135 i x) (h1 : 0 ≤ x.toInt) (h2 : x.toInt ≤ 4096) : g_I F2 := g_up h u (by
  rw [show g_r 135 i = g_r135 i from rfl, g_r135]
  split
  · exact ⟨h1, h2⟩
  · exact i_rng x)
theorem gA_135 {F : Nat → Nat → Int32} (h : g_I F) : h_ai 135 2 0 4096 F := fun _ hi => gI_135 h hi
theorem gB_135 {F : Nat → Nat → Int32} (h : h_ai 135 2 0 4096 F) : ∀ i, (g_r 135 i).1 ≤ (F 135 i).toInt ∧ (F 135 i).toInt ≤ (g_r 135 i).2 := fun i => by
  rw [show g_r 135 i = g_r135 i from rfl, g_r135]
  split
  · exact h i (by assumption)
  · exact i_rng _
theorem gI_142 {F : Nat → Nat → Int32} (h : g_I F) {i : Nat} (hi : i < 2) : 0 ≤ (F 142 i).toInt ∧ (F 142 i).toInt ≤ 8 := by
  have z : _ := h 142 i
  rw [show g_r 142 i = g_r142 i from rfl, g_r142, if_pos hi] at z; exact z
theorem gU_142 {F F2 : Nat → Nat → Int32} {x : Int32} {i : Nat} (h : g_I F) (u : F2 = h_up F 142 i x) (h1 : 0 ≤ x.toInt) (h2 : x.toInt ≤ 8) : g_I F2 := g_up h u (by
  rw [show g_r 142 i = g_r142 i from rfl, g_r142]
  split
  · exact ⟨h1, h2⟩
  · exact i_rng x)
theorem gA_142 {F : Nat → Nat → Int32} (h : g_I F) : h_ai 142 2 0 8 F := fun _ hi => gI_142 h hi
theorem gB_142 {F : Nat → Nat → Int32} (h : h_ai 142 2 0 8 F) : ∀ i, (g_r 142 i).1 ≤ (F 142 i).toInt ∧ (F 142 i).toInt ≤ (g_r 142 i).2 := fun i => by
  rw [show g_r 142 i = g_r142 i from rfl, g_r142]
  split
  · exact h i (by assumption)
  · exact i_rng _
theorem gI_146 {F : Nat → Nat → Int32} (h : g_I F) {i : Nat} (hi : i < 16) : 0 ≤ (F 146 i).toInt ∧ (F 146 i).toInt ≤ 4096 := by
  have z : _ := h 146 i
  rw [show g_r 146 i = g_r146 i from rfl, g_r146, if_pos hi] at z; exact z
theorem gU_146 {F F2 : Nat → Nat → Int32} {x : Int32} {i : Nat} (h : g_I F) (u : F2 = h_up F 146 i x) (h1 : 0 ≤ x.toInt) (h2 : x.toInt ≤ 4096) : g_I F2 := g_up h u (by
  rw [show g_r 146 i = g_r146 i from rfl, g_r146]
  split
  · exact ⟨h1, h2⟩
  · exact i_rng x)
theorem gA_146 {F : Nat → Nat → Int32} (h : g_I F) : h_ai 146 16 0 4096 F := fun _ hi => gI_146 h hi
theorem gB_146 {F : Nat → Nat → Int32} (h : h_ai 146 16 0 4096 F) : ∀ i, (g_r 146 i).1 ≤ (F 146 i).toInt ∧ (F 146 i).toInt ≤ (g_r 146 i).2 := fun i => by
  rw [show g_r 146 i = g_r146 i from rfl, g_r146]
  split
  · exact h i (by assumption)
  · exact i_rng _
theorem gI_154 {F : Nat → Nat → Int32} (h : g_I F) {i : Nat} (hi : i < 4000) : 0 ≤ (F 154 i).toInt ∧ (F 154 i).toInt ≤ 255 := by
  have z : _ := h 154 i
  rw [show g_r 154 i = g_r154 i from rfl, g_r154, if_pos hi] at z; exact z
theorem gU_154 {F F2 : Nat → Nat → Int32} {x : Int32} {i : Nat} (h : g_I F) (u : F2 = h_up F 154 i x) (h1 : 0 ≤ x.toInt) (h2 : x.toInt ≤ 255) : g_I F2 := g_up h u (by
  rw [show g_r 154 i = g_r154 i from rfl, g_r154]
  split
  · exact ⟨h1, h2⟩
  · exact i_rng x)
theorem gA_154 {F : Nat → Nat → Int32} (h : g_I F) : h_ai 154 4000 0 255 F := fun _ hi => gI_154 h hi
theorem gB_154 {F : Nat → Nat → Int32} (h : h_ai 154 4000 0 255 F) : ∀ i, (g_r 154 i).1 ≤ (F 154 i).toInt ∧ (F 154 i).toInt ≤ (g_r 154 i).2 := fun i => by
  rw [show g_r 154 i = g_r154 i from rfl, g_r154]
  split
  · exact h i (by assumption)
  · exact i_rng _
theorem gI_156 {F : Nat → Nat → Int32} (h : g_I F) {i : Nat} (hi : i < 12) : 0 ≤ (F 156 i).toInt ∧ (F 156 i).toInt ≤ 8 := by
  have z : _ := h 156 i
  rw [show g_r 156 i = g_r156 i from rfl, g_r156, if_pos hi] at z; exact z
theorem gU_156 {F F2 : Nat → Nat → Int32} {x : Int32} {i : Nat} (h : g_I F) (u : F2 = h_up F 156 i x) (h1 : 0 ≤ x.toInt) (h2 : x.toInt ≤ 8) : g_I F2 := g_up h u (by
  rw [show g_r 156 i = g_r156 i from rfl, g_r156]
  split
  · exact ⟨h1, h2⟩
  · exact i_rng x)
theorem gA_156 {F : Nat → Nat → Int32} (h : g_I F) : h_ai 156 12 0 8 F := fun _ hi => gI_156 h hi
theorem gB_156 {F : Nat → Nat → Int32} (h : h_ai 156 12 0 8 F) : ∀ i, (g_r 156 i).1 ≤ (F 156 i).toInt ∧ (F 156 i).toInt ≤ (g_r 156 i).2 := fun i => by
  rw [show g_r 156 i = g_r156 i from rfl, g_r156]
  split
  · exact h i (by assumption)
  · exact i_rng _
theorem gI_157 {F : Nat → Nat → Int32} (h : g_I F) {i : Nat} (hi : i < 12) : 0 ≤ (F 157 i).toInt ∧ (F 157 i).toInt ≤ 1000 := by
  have z : _ := h 157 i
  rw [show g_r 157 i = g_r157 i from rfl, g_r157, if_pos hi] at z; exact z
theorem gU_157 {F F2 : Nat → Nat → Int32} {x : Int32} {i : Nat} (h : g_I F) (u : F2 = h_up F 157 i x) (h1 : 0 ≤ x.toInt) (h2 : x.toInt ≤ 1000) : g_I F2 := g_up h u (by
  rw [show g_r 157 i = g_r157 i from rfl, g_r157]
  split
  · exact ⟨h1, h2⟩
  · exact i_rng x)
theorem gA_157 {F : Nat → Nat → Int32} (h : g_I F) : h_ai 157 12 0 1000 F := fun _ hi => gI_157 h hi
theorem gB_157 {F : Nat → Nat → Int32} (h : h_ai 157 12 0 1000 F) : ∀ i, (g_r 157 i).1 ≤ (F 157 i).toInt ∧ (F 157 i).toInt ≤ (g_r 157 i).2 := fun i => by
  rw [show g_r 157 i = g_r157 i from rfl, g_r157]
  split
  · exact h i (by assumption)
  · exact i_rng _
theorem gI_159 {F : Nat → Nat → Int32} (h : g_I F) {i : Nat} (hi : i < 12) : 0 ≤ (F 159 i).toInt ∧ (F 159 i).toInt ≤ 8 := by
  have z : _ := h 159 i
  rw [show g_r 159 i = g_r159 i from rfl, g_r159, if_pos hi] at z; exact z
theorem gU_159 {F F2 : Nat → Nat → Int32} {x : Int32} {i : Nat} (h : g_I F) (u : F2 = h_up F 159 i x) (h1 : 0 ≤ x.toInt) (h2 : x.toInt ≤ 8) : g_I F2 := g_up h u (by
  rw [show g_r 159 i = g_r159 i from rfl, g_r159]
  split
  · exact ⟨h1, h2⟩
  · exact i_rng x)
theorem gA_159 {F : Nat → Nat → Int32} (h : g_I F) : h_ai 159 12 0 8 F := fun _ hi => gI_159 h hi
theorem gB_159 {F : Nat → Nat → Int32} (h : h_ai 159 12 0 8 F) : ∀ i, (g_r 159 i).1 ≤ (F 159 i).toInt ∧ (F 159 i).toInt ≤ (g_r 159 i).2 := fun i => by
  rw [show g_r 159 i = g_r159 i from rfl, g_r159]
  split
  · exact h i (by assumption)
  · exact i_rng _
theorem gI_160 {F : Nat → Nat → Int32} (h : g_I F) {i : Nat} (hi : i < 12) : 0 ≤ (F 160 i).toInt ∧ (F 160 i).toInt ≤ 1000 := by
  have z : _ := h 160 i
  rw [show g_r 160 i = g_r160 i from rfl, g_r160, if_pos hi] at z; exact z
theorem gU_160 {F F2 : Nat → Nat → Int32} {x : Int32} {i : Nat} (h : g_I F) (u : F2 = h_up F 160 i x) (h1 : 0 ≤ x.toInt) (h2 : x.toInt ≤ 1000) : g_I F2 := g_up h u (by
  rw [show g_r 160 i = g_r160 i from rfl, g_r160]
  split
  · exact ⟨h1, h2⟩
  · exact i_rng x)
theorem gA_160 {F : Nat → Nat → Int32} (h : g_I F) : h_ai 160 12 0 1000 F := fun _ hi => gI_160 h hi
theorem gB_160 {F : Nat → Nat → Int32} (h : h_ai 160 12 0 1000 F) : ∀ i, (g_r 160 i).1 ≤ (F 160 i).toInt ∧ (F 160 i).toInt ≤ (g_r 160 i).2 := fun i => by
  rw [show g_r 160 i = g_r160 i from rfl, g_r160]
  split
  · exact h i (by assumption)
  · exact i_rng _
theorem gI_161 {F : Nat → Nat → Int32} (h : g_I F) {i : Nat} (hi : i < 13) : 0 ≤ (F 161 i).toInt ∧ (F 161 i).toInt ≤ 30000 := by
  have z : _ := h 161 i
  rw [show g_r 161 i = g_r161 i from rfl, g_r161, if_pos hi] at z; exact z
theorem gU_161 {F F2 : Nat → Nat → Int32} {x : Int32} {i : Nat} (h : g_I F) (u : F2 = h_up F 161 i x) (h1 : 0 ≤ x.toInt) (h2 : x.toInt ≤ 30000) : g_I F2 := g_up h u (by
  rw [show g_r 161 i = g_r161 i from rfl, g_r161]
  split
  · exact ⟨h1, h2⟩
  · exact i_rng x)
theorem gA_161 {F : Nat → Nat → Int32} (h : g_I F) : h_ai 161 13 0 30000 F := fun _ hi => gI_161 h hi
theorem gB_161 {F : Nat → Nat → Int32} (h : h_ai 161 13 0 30000 F) : ∀ i, (g_r 161 i).1 ≤ (F 161 i).toInt ∧ (F 161 i).toInt ≤ (g_r 161 i).2 := fun i => by
  rw [show g_r 161 i = g_r161 i from rfl, g_r161]
  split
  · exact h i (by assumption)
  · exact i_rng _
theorem gI_163 {F : Nat → Nat → Int32} (h : g_I F) {i : Nat} (hi : i < 12) : 0 ≤ (F 163 i).toInt ∧ (F 163 i).toInt ≤ 1 := by
  have z : _ := h 163 i
  rw [show g_r 163 i = g_r163 i from rfl, g_r163, if_pos hi] at z; exact z
theorem gU_163 {F F2 : Nat → Nat → Int32} {x : Int32} {i : Nat} (h : g_I F) (u : F2 = h_up F 163 i x) (h1 : 0 ≤ x.toInt) (h2 : x.toInt ≤ 1) : g_I F2 := g_up h u (by
  rw [show g_r 163 i = g_r163 i from rfl, g_r163]
  split
  · exact ⟨h1, h2⟩
  · exact i_rng x)
theorem gA_163 {F : Nat → Nat → Int32} (h : g_I F) : h_ai 163 12 0 1 F := fun _ hi => gI_163 h hi
theorem gB_163 {F : Nat → Nat → Int32} (h : h_ai 163 12 0 1 F) : ∀ i, (g_r 163 i).1 ≤ (F 163 i).toInt ∧ (F 163 i).toInt ≤ (g_r 163 i).2 := fun i => by
  rw [show g_r 163 i = g_r163 i from rfl, g_r163]
  split
  · exact h i (by assumption)
  · exact i_rng _
theorem gI_164 {F : Nat → Nat → Int32} (h : g_I F) {i : Nat} (hi : i < 4000) : 0 ≤ (F 164 i).toInt ∧ (F 164 i).toInt ≤ 255 := by
  have z : _ := h 164 i
  rw [show g_r 164 i = g_r164 i from rfl, g_r164, if_pos hi] at z; exact z
theorem gU_164 {F F2 : Nat → Nat → Int32} {x : Int32} {i : Nat} (h : g_I F) (u : F2 = h_up F 164 i x) (h1 : 0 ≤ x.toInt) (h2 : x.toInt ≤ 255) : g_I F2 := g_up h u (by
  rw [show g_r 164 i = g_r164 i from rfl, g_r164]
  split
  · exact ⟨h1, h2⟩
  · exact i_rng x)
theorem gA_164 {F : Nat → Nat → Int32} (h : g_I F) : h_ai 164 4000 0 255 F := fun _ hi => gI_164 h hi
theorem gB_164 {F : Nat → Nat → Int32} (h : h_ai 164 4000 0 255 F) : ∀ i, (g_r 164 i).1 ≤ (F 164 i).toInt ∧ (F 164 i).toInt ≤ (g_r 164 i).2 := fun i => by
  rw [show g_r 164 i = g_r164 i from rfl, g_r164]
  split
  · exact h i (by assumption)
  · exact i_rng _
theorem gI_174 {F : Nat → Nat → Int32} (h : g_I F) {i : Nat} (hi : i < 256) : 0 ≤ (F 174 i).toInt ∧ (F 174 i).toInt ≤ 1 := by
  have z : _ := h 174 i
  rw [show g_r 174 i = g_r174 i from rfl, g_r174, if_pos hi] at z; exact z
theorem gU_174 {F F2 : Nat → Nat → Int32} {x : Int32} {i : Nat} (h : g_I F) (u : F2 = h_up F 174 i x) (h1 : 0 ≤ x.toInt) (h2 : x.toInt ≤ 1) : g_I F2 := g_up h u (by
  rw [show g_r 174 i = g_r174 i from rfl, g_r174]
  split
  · exact ⟨h1, h2⟩
  · exact i_rng x)
theorem gA_174 {F : Nat → Nat → Int32} (h : g_I F) : h_ai 174 256 0 1 F := fun _ hi => gI_174 h hi
theorem gB_174 {F : Nat → Nat → Int32} (h : h_ai 174 256 0 1 F) : ∀ i, (g_r 174 i).1 ≤ (F 174 i).toInt ∧ (F 174 i).toInt ≤ (g_r 174 i).2 := fun i => by
  rw [show g_r 174 i = g_r174 i from rfl, g_r174]
  split
  · exact h i (by assumption)
  · exact i_rng _
theorem gI_175 {F : Nat → Nat → Int32} (h : g_I F) {i : Nat} (hi : i < 256) : 0 ≤ (F 175 i).toInt ∧ (F 175 i).toInt ≤ 1 := by
  have z : _ := h 175 i
  rw [show g_r 175 i = g_r175 i from rfl, g_r175, if_pos hi] at z; exact z
theorem gU_175 {F F2 : Nat → Nat → Int32} {x : Int32} {i : Nat} (h : g_I F) (u : F2 = h_up F 175 i x) (h1 : 0 ≤ x.toInt) (h2 : x.toInt ≤ 1) : g_I F2 := g_up h u (by
  rw [show g_r 175 i = g_r175 i from rfl, g_r175]
  split
  · exact ⟨h1, h2⟩
  · exact i_rng x)
theorem gA_175 {F : Nat → Nat → Int32} (h : g_I F) : h_ai 175 256 0 1 F := fun _ hi => gI_175 h hi
theorem gB_175 {F : Nat → Nat → Int32} (h : h_ai 175 256 0 1 F) : ∀ i, (g_r 175 i).1 ≤ (F 175 i).toInt ∧ (F 175 i).toInt ≤ (g_r 175 i).2 := fun i => by
  rw [show g_r 175 i = g_r175 i from rfl, g_r175]
  split
  · exact h i (by assumption)
  · exact i_rng _
theorem g_hi {c k : Nat} (h : 176 ≤ c) : g_r c k = g_F := by
  unfold g_r
  repeat (first | rw [if_neg (by omega)] | rfl)
theorem hid_i {p : Prop} (h : p) : hid p := h
section GUP
variable {α : Type} {F F1 F2 : Nat → Nat → α} {c c2 k k2 n : Nat} {x v : α} {SH : Nat → Nat × Nat} {L : List (Nat × Nat)} {A T : List Nat}
theorem up_eq (u : F2 = h_up F c k x) : F2 c k = x := by subst u; exact h_up_eq
theorem up_k (u : F2 = h_up F c k x) (h : k2 ≠ k) (p : F c2 k2 = v) : F2 c2 k2 = v := by
  subst u
  by_cases e : c2 = c
  · subst e; rw [h_up_ne h]; exact p
  · rw [h_up_nc e]; exact p
theorem up_c (u : F2 = h_up F c k x) (h : c2 ≠ c) (p : F c2 k2 = v) : F2 c2 k2 = v := by subst u; rw [h_up_nc h]; exact p
theorem up_row {G : Nat → α} (u : F2 = h_up F c k x) (h : c2 ≠ c) (p : F c2 = G) : F2 c2 = G := by subst u; rw [h_up_nc h]; exact p
theorem up_va {G : Nat → α} (u : F2 = h_up F c k x) (p : F c = G) : F2 c = va_up G k x := by subst u; subst p; simp [h_up, va_up]
def g_fr (n : Nat) (SH : Nat → Nat × Nat) (L : List (Nat × Nat)) (A T : List Nat) (F F2 : Nat → Nat → α) : Prop := ∀ c k, c < n → (c, k) ∉ L → c ∉ A → (SH c).1 ∉ T → F2 c k = F c k
theorem gf_rf : g_fr n SH L A T F F := fun _ _ _ _ _ _ => rfl
theorem gf_f (h : g_fr n SH L A T F F1) (u : F2 = h_up F1 c k x) (m : (c, k) ∈ L) : g_fr n SH L A T F F2 := fun c2 k2 h1 h2 h3 h4 => by
  subst u
  by_cases e : c2 = c
  · subst e
    by_cases e2 : k2 = k
    · subst e2; exact absurd m h2
    · rw [h_up_ne e2]; exact h _ _ h1 h2 h3 h4
  · rw [h_up_nc e]; exact h _ _ h1 h2 h3 h4
theorem gf_a (h : g_fr n SH L A T F F1) (u : F2 = h_up F1 c k x) (m : c ∈ A) : g_fr n SH L A T F F2 := fun c2 k2 h1 h2 h3 h4 => by
  subst u
  by_cases e : c2 = c
  · subst e; exact absurd m h3
  · rw [h_up_nc e]; exact h _ _ h1 h2 h3 h4
theorem gf_t {t z : Nat} (h : g_fr n SH L A T F F1) (u : F2 = h_up F1 c k x) (hs : SH c = (t, z)) (m : t ∈ T) : g_fr n SH L A T F F2 := fun c2 k2 h1 h2 h3 h4 => by
  subst u
  by_cases e : c2 = c
  · subst e; rw [hs] at h4; exact absurd m h4
  · rw [h_up_nc e]; exact h _ _ h1 h2 h3 h4
theorem gf_n (h : g_fr n SH L A T F F1) (u : F2 = h_up F1 c k x) (hc : n ≤ c) : g_fr n SH L A T F F2 := fun c2 k2 h1 h2 h3 h4 => by
  subst u
  rw [h_up_nc (show c2 ≠ c by omega)]; exact h _ _ h1 h2 h3 h4
def g_sub (L2 L : List (Nat × Nat)) : Bool := L2.all (fun p => L.contains p)
def g_subn (L2 L : List Nat) : Bool := L2.all (fun p => L.contains p)
theorem g_sub_mem {L2 L : List (Nat × Nat)} (h : g_sub L2 L = true) {p : Nat × Nat} (hp : p ∈ L2) : p ∈ L := by
  simpa using List.all_eq_true.mp h p hp
theorem g_subn_mem {L2 L : List Nat} (h : g_subn L2 L = true) {p : Nat} (hp : p ∈ L2) : p ∈ L := by
  simpa using List.all_eq_true.mp h p hp
/-- more cells, the old ones as they were -/
def g_ex (n : Nat) (SH : Nat → Nat × Nat) (n2 : Nat) (SH2 : Nat → Nat × Nat) : Prop := n ≤ n2 ∧ ∀ c, c < n → SH2 c = SH c
theorem ex_rf : g_ex n SH n SH := ⟨Nat.le_refl _, fun _ _ => rfl⟩
theorem ex_tr {n2 n3 : Nat} {SH2 SH3 : Nat → Nat × Nat} (h : g_ex n SH n2 SH2) (h2 : g_ex n2 SH2 n3 SH3) : g_ex n SH n3 SH3 := ⟨Nat.le_trans h.1 h2.1, fun c hc => (h2.2 c (Nat.lt_of_lt_of_le hc h.1)).trans (h.2 c hc)⟩
theorem gf_tr {n2 : Nat} {SH2 : Nat → Nat × Nat} {L2 : List (Nat × Nat)} {A2 T2 : List Nat} (e : g_ex n SH n2 SH2) (h : g_fr n SH L A T F F1) (h2 : g_fr n2 SH2 L2 A2 T2 F1 F2) (s1 : g_sub L2 L = true) (s2 : g_subn A2 A = true) (s3 : g_subn T2 T = true) : g_fr n SH L A T F F2 := fun c k h1 g2 g3 g4 =>
  (h2 c k (Nat.lt_of_lt_of_le h1 e.1) (fun z => g2 (g_sub_mem s1 z)) (fun z => g3 (g_subn_mem s2 z)) (by rw [e.2 c h1]; exact fun z => g4 (g_subn_mem s3 z))).trans (h c k h1 g2 g3 g4)
theorem gf_at {t z : Nat} (f : g_fr n SH L A T F F2) (hc : c < n) (hs : SH c = (t, z)) (m : (L.contains (c, k) || A.contains c || T.contains t) = false) (p : F c k = v) : F2 c k = v := by
  rw [Bool.or_eq_false_iff, Bool.or_eq_false_iff] at m
  refine (f c k hc ?_ ?_ ?_).trans p
  · intro h; have := m.1.1; simp [h] at this
  · intro h; have := m.1.2; simp [h] at this
  · rw [hs]; intro h; have := m.2; simp [h] at this
theorem gf_row {G : Nat → α} {t z : Nat} (f : g_fr n SH L A T F F2) (hc : c < n) (hs : SH c = (t, z)) (m : (L.all (fun p => p.1 != c) && !(A.contains c) && !(T.contains t)) = true) (p : F c = G) : F2 c = G := by
  rw [Bool.and_eq_true, Bool.and_eq_true] at m
  refine Eq.trans ?_ p
  funext k
  refine f c k hc ?_ ?_ ?_
  · intro h
    have := List.all_eq_true.mp m.1.1 _ h
    simp at this
  · intro h; have := m.1.2; simp [h] at this
  · rw [hs]; intro h; have := m.2; simp [h] at this
theorem gf_old {ks qs : List Nat} (f : h_fr F F2 ks qs) : g_fr n SH (ks.map (fun k => (121, k))) qs T F F2 := fun c k _ h2 h3 _ => by
  by_cases e : c = 121
  · subst e
    exact f.1 k (fun h => h2 (List.mem_map.mpr ⟨k, h, rfl⟩))
  · rw [f.2 c e h3]
end GUP
theorem g_old {F F2 : Nat → Nat → Int32} {ks qs : List Nat} (h : g_I F) (f : h_fr F F2 ks qs) (hk : ∀ k, k ∈ ks → (g_r 121 k).1 ≤ (F2 121 k).toInt ∧ (F2 121 k).toInt ≤ (g_r 121 k).2) (hq : ∀ q, q ∈ qs → ∀ i, (g_r q i).1 ≤ (F2 q i).toInt ∧ (F2 q i).toInt ≤ (g_r q i).2) : g_I F2 := fun c k => by
  by_cases e : c = 121
  · subst e
    by_cases e2 : k ∈ ks
    · exact hk k e2
    · rw [f.1 k e2]; exact h 121 k
  · by_cases e2 : c ∈ qs
    · exact hq c e2 k
    · rw [f.2 c e e2]; exact h c k
theorem g_k0 {P : Nat → Prop} : ∀ k, k ∈ ([] : List Nat) → P k := fun _ h => by cases h
theorem g_kc {P : Nat → Prop} {a : Nat} {l : List Nat} (h : P a) (t : ∀ k, k ∈ l → P k) : ∀ k, k ∈ a :: l → P k := fun k hk => by
  rcases List.mem_cons.mp hk with rfl | h2
  · exact h
  · exact t k h2
section GHW
variable {base d : Nat} {X : Option (Nat × Nat × (Nat → Int32))} {j : Nat} {y : MethodName} {nL : Nat} {ret : Option FieldType} {pc : Nat} {L : xL} {st : List Value} {Φ : Option Value → hS → Prop} {n sl : Nat} {SH : Nat → Nat × Nat} {FI : Nat → Nat → Int32} {FL : Nat → Nat → Int64} {FR : Nat → Nat → Option Nat}
theorem hv_puti {sk : xK} {idx t k N c z : Nat} {C : String} {T : u_T} {x : Int32} (q : x_at xMM j pc (.putfield idx) 3 y nL ret) (hf : x_fl vwCl x_Ts x_AO y.cls idx t k C T N) (hc : c < n) (hs : SH c = (t, z)) (ht : t < 100) (hty : h_ty t k = .int) (hfin : (T k).2.2.2 = false) (kk : ∀ F2, F2 = h_up FI c k x → hw sk base d X j (pc + 3) L st (n, sl, SH, F2, FL, FR) Φ) : hw sk base d X j pc L (.int x :: .ref (base + c) :: st) (n, sl, SH, FI, FL, FR) Φ := hw_puti q hf hc hs ht hty hfin (kk _ rfl)
theorem hv_putz {sk : xK} {idx t k N c z : Nat} {C : String} {T : u_T} {x : Int32} (q : x_at xMM j pc (.putfield idx) 3 y nL ret) (hf : x_fl vwCl x_Ts x_AO y.cls idx t k C T N) (hc : c < n) (hs : SH c = (t, z)) (ht : t < 100) (hty : h_ty t k = .boolean) (hfin : (T k).2.2.2 = false) (hx : x = 0 ∨ x = 1) (kk : ∀ F2, F2 = h_up FI c k x → hw sk base d X j (pc + 3) L st (n, sl, SH, F2, FL, FR) Φ) : hw sk base d X j pc L (.int x :: .ref (base + c) :: st) (n, sl, SH, FI, FL, FR) Φ := hw_putz q hf hc hs ht hty hfin hx (kk _ rfl)
theorem hv_putl {sk : xK} {idx t k N c z : Nat} {C : String} {T : u_T} {x : Int64} (q : x_at xMM j pc (.putfield idx) 3 y nL ret) (hf : x_fl vwCl x_Ts x_AO y.cls idx t k C T N) (hc : c < n) (hs : SH c = (t, z)) (ht : t < 100) (hty : h_ty t k = .long) (hfin : (T k).2.2.2 = false) (kk : ∀ F2, F2 = h_up FL c k x → hw sk base d X j (pc + 3) L st (n, sl, SH, FI, F2, FR) Φ) : hw sk base d X j pc L (.long x :: .ref (base + c) :: st) (n, sl, SH, FI, FL, FR) Φ := hw_putl q hf hc hs ht hty hfin (kk _ rfl)
theorem hv_iast {sk : xK} {c z k : Nat} {i x : Int32} (q : x_at xMM j pc .iastore 1 y nL ret) (hc : c < n) (hs : SH c = (100, z)) (hin : vp_in i z) (hk : i.toNatClampNeg = k) (kk : ∀ F2, F2 = h_up FI c k x → hw sk base d X j (pc + 1) L st (n, sl, SH, F2, FL, FR) Φ) : hw sk base d X j pc L (.int x :: .int i :: .ref (base + c) :: st) (n, sl, SH, FI, FL, FR) Φ := hw_iastk q hc hs hin hk (kk _ rfl)
theorem hv_last {sk : xK} {c z k : Nat} {i : Int32} {x : Int64} (q : x_at xMM j pc .lastore 1 y nL ret) (hc : c < n) (hs : SH c = (101, z)) (hin : vp_in i z) (hk : i.toNatClampNeg = k) (kk : ∀ F2, F2 = h_up FL c k x → hw sk base d X j (pc + 1) L st (n, sl, SH, FI, F2, FR) Φ) : hw sk base d X j pc L (.long x :: .int i :: .ref (base + c) :: st) (n, sl, SH, FI, FL, FR) Φ := hw_lastk q hc hs hin hk (kk _ rfl)
theorem hv_zast {sk : xK} {c z k : Nat} {i x w : Int32} (q : x_at xMM j pc .bastore 1 y nL ret) (hc : c < n) (hs : SH c = (102, z)) (hin : vp_in i z) (hk : i.toNatClampNeg = k) (hx : vp_nar .boolean x = w) (kk : ∀ F2, F2 = h_up FI c k w → hw sk base d X j (pc + 1) L st (n, sl, SH, F2, FL, FR) Φ) : hw sk base d X j pc L (.int x :: .int i :: .ref (base + c) :: st) (n, sl, SH, FI, FL, FR) Φ := by
  subst hx; exact hw_zastk q hc hs hin hk (kk _ rfl)
theorem hv_st {sk : xK} {s2 s : hS} (e : s2 = s) (k : hw sk base d X j pc L st s2 Φ) : hw sk base d X j pc L st s Φ := e ▸ k
end GHW
theorem i_nb {x : Int32} : ∃ w : Int32, vp_nar .boolean x = w ∧ (w = 0 ∨ w = 1) := ⟨_, rfl, by
  have h : vp_nar .boolean x = x &&& 1 := rfl
  have z := i_and (x := x) (m := 1) (M := 1) (by decide) (by decide)
  rw [← h] at z
  rcases Int.lt_or_le (vp_nar .boolean x).toInt 1 with g | g
  · left; exact i_eqv (by have : ((0 : Int32)).toInt = 0 := by decide
                          omega)
  · right; exact i_eqv (by have : ((1 : Int32)).toInt = 1 := by decide
                           omega)⟩
end
section
/-! References of the class: what they point at. -/
def own (q : Nat) : Prop := q < 121 ∨ 176 ≤ q
def g_ty (t k : Nat) : Nat :=
  if t = 0 then 100 else
  if t = 1 then (if k = 0 then 101 else if k = 1 then 100 else 106) else
  if t = 2 then (if k = 0 then 1 else if k = 1 then 9 else if k = 2 then 8 else 5) else
  if t = 3 then 3 else
  if t = 4 then (if k = 0 then 7 else if k = 1 then 100 else 104) else
  if t = 5 then 100 else
  if t = 6 then (if k = 2 then 3 else if k = 3 then 100 else 6) else
  if t = 7 then (if k = 1 then 101 else 100) else
  if t = 8 then 103 else
  if t = 9 then (if k = 0 then 1 else if k = 1 then 9 else if k = 2 then 101 else if k = 3 then 5 else 8) else
  if t = 10 then (if k = 2 ∨ k = 3 then 101 else if k = 4 then 105 else 100) else
  if t = 11 then (if k = 0 then 1 else if k = 1 then 9 else if k = 2 then 2 else if k = 3 then 4 else if k = 4 then 0 else if k = 5 then 8 else if k = 11 then 104 else 100) else
  if t = 103 then 5 else if t = 104 then 10 else if t = 105 then 6 else 100
def g_dt (t : Nat) : Prop := t = 3 ∨ t = 6 ∨ t = 10 ∨ t = 100 ∨ t = 101 ∨ t = 104 ∨ t = 105
/-- what is never null -/
def g_nn (c k : Nat) : Prop := (c = 0 ∧ k = 11) ∨ (c = 110 ∧ k = 2) ∨ (c = 111 ∧ k = 5) ∨ (c = 26 ∧ k < 16) ∨ (c = 43 ∧ k < 4)
def g_R (n : Nat) (SH : Nat → Nat × Nat) (FR : Nat → Nat → Option Nat) : Prop := (∀ c, 176 ≤ c → c < n → g_dt (SH c).1) ∧ (∀ c k r, c < n → own c → FR c k = some r → r < n ∧ own r ∧ (SH r).1 = g_ty (SH c).1 k ∧ (176 ≤ c → 176 ≤ r)) ∧ (∀ c k, g_nn c k → FR c k ≠ none) ∧ FR 49 1 = none
def hf_ck (t k : Nat) : Bool := hf_L.all (fun e => decide (e.1 < 176) && !((hs_L.getD e.1 (0, 0)).1 == t && e.2.1 == k))
def hf_ca (t : Nat) : Bool := hf_L.all (fun e => decide (e.1 < 176) && !((hs_L.getD e.1 (0, 0)).1 == t))
/-- the shapes, those of cells that came later marked -/
def shd (SH : Nat → Nat × Nat) : Nat → Nat × Nat := fun c => if 176 ≤ c then ((SH c).1 + 1000, (SH c).2) else if 121 ≤ c then ((SH c).1 + 2000, (SH c).2) else SH c
theorem shd_f {SH : Nat → Nat × Nat} {c t z : Nat} (h : c < 121) (hs : SH c = (t, z)) : shd SH c = (t, z) := by unfold shd; rw [if_neg (by omega), if_neg (by omega)]; exact hs
theorem shd_d {SH : Nat → Nat × Nat} {c t z : Nat} (h : 176 ≤ c) (hs : SH c = (t, z)) : shd SH c = (t + 1000, z) := by unfold shd; rw [if_pos h, hs]
section CR
variable {n : Nat} {SH : Nat → Nat × Nat} {FR FR2 : Nat → Nat → Option Nat} {c k t z r : Nat} {o : Option Nat}
theorem gR_get (h : g_R n SH FR) (hc : c < n) (ho : own c) (hs : SH c = (t, z)) (e : FR c k = some r) : r < n ∧ own r ∧ SH r = (g_ty t k, (SH r).2) := by
  obtain ⟨h1, h2, h3, -⟩ := h.2.1 c k r hc ho e
  rw [hs] at h3
  exact ⟨h1, h2, Prod.ext h3 rfl⟩
theorem gR_nn (h : g_R n SH FR) (hn : g_nn c k) (e : FR c k = o) : ∃ r, o = some r := by
  subst e
  exact Option.ne_none_iff_exists'.mp (h.2.2.1 c k hn)
theorem gR_dyn (h : g_R n SH FR) (hc : c < n) (hd : 176 ≤ c) (e : FR c k = some r) : 176 ≤ r := (h.2.1 c k r hc (Or.inr hd) e).2.2.2 hd
theorem gR_up (h : g_R n SH FR) (u : FR2 = h_up FR c k o) (hs : SH c = (t, z)) (ho : ∀ r, o = some r → r < n ∧ own r ∧ (SH r).1 = g_ty t k) (hd : 176 ≤ c → ∀ r, o = some r → 176 ≤ r) (hn : g_nn c k → o ≠ none) (hz : ¬ (c = 49 ∧ k = 1)) : g_R n SH FR2 := by
  refine ⟨h.1, ?_, fun c2 k2 h2 => by
    by_cases e : c2 = c
    · by_cases e2 : k2 = k
      · subst e; subst e2; rw [up_eq u]; exact hn h2
      · rw [up_k u e2 rfl]; exact h.2.2.1 c2 k2 h2
    · rw [up_c u e rfl]; exact h.2.2.1 c2 k2 h2, by
    by_cases e : c = 49
    · by_cases e2 : k = 1
      · exact absurd ⟨e, e2⟩ hz
      · exact up_k u (fun q => e2 q.symm) h.2.2.2
    · exact up_c u (fun q => e q.symm) h.2.2.2⟩
  intro c2 k2 r2 h1 h2 h3
  by_cases e : c2 = c
  · by_cases e2 : k2 = k
    · subst e; subst e2
      rw [up_eq u] at h3
      obtain ⟨a, b, d⟩ := ho r2 h3
      rw [hs]
      exact ⟨a, b, d, fun h9 => hd h9 r2 h3⟩
    · rw [up_k u e2 rfl] at h3
      exact h.2.1 c2 k2 r2 h1 h2 h3
  · rw [up_c u e rfl] at h3
    exact h.2.1 c2 k2 r2 h1 h2 h3
theorem hs_len : hs_L.length = 176 := by decide +kernel
theorem hs_mem {c : Nat} (h : c < 176) : hs_L.getD c (0, 0) ∈ hs_L := by
  have hl : c < hs_L.length := by rw [hs_len]; exact h
  have e : hs_L.getD c (0, 0) = hs_L[c] := by simp [List.getD_eq_getElem?_getD, List.getElem?_eq_getElem hl]
  rw [e]
  exact List.getElem_mem hl
theorem dyn_tag (hS : h_S n SH) (hs : SH c = (t, z)) (m : hs_L.all (fun e => e.1 != t) = true) : 176 ≤ c := by
  rcases Nat.lt_or_ge c 176 with h | h
  · exfalso
    have h1 := List.all_eq_true.mp m _ (hs_mem h)
    rw [← hS.2 c h, hs] at h1
    simp at h1
  · exact h
theorem fix_tag (hR : g_R n SH FR) (hc : c < n) (hs : SH c = (t, z)) (m : ¬ g_dt t) : c < 176 := by
  rcases Nat.lt_or_ge c 176 with h | h
  · exact h
  · have := hR.1 c h hc
    rw [hs] at this
    exact absurd this m
theorem fix_t2 (hS : h_S n SH) (hR : g_R n SH FR) (hc : c < n) (hs : SH c = (t, z)) (m : ¬ g_dt t) (m2 : (List.range 55).all (fun i => (hs_L.getD (121 + i) (0, 0)).1 != t) = true) : c < 121 := by
  have h := fix_tag hR hc hs m
  rcases Nat.lt_or_ge c 121 with h1 | h1
  · exact h1
  · exfalso
    have h2 := List.all_eq_true.mp m2 (c - 121) (List.mem_range.mpr (by omega))
    rw [show 121 + (c - 121) = c by omega, ← hS.2 c h, hs] at h2
    simp at h2
theorem ne_tag {a b t2 z2 : Nat} (h1 : SH a = (t, z)) (h2 : SH b = (t2, z2)) (h : t ≠ t2) : a ≠ b := by
  intro e; subst e; rw [h1] at h2; exact h (congrArg Prod.fst h2)
def g_nk (t k : Nat) : Bool := (List.range 176).all (fun c => (hs_L.getD c (0, 0)).1 != t || decide (g_r c k = g_F))
theorem gU_g {F F2 : Nat → Nat → Int32} {x : Int32} (hI : g_I F) (hS : h_S n SH) (u : F2 = h_up F c k x) (hs : SH c = (t, z)) (m : g_nk t k = true) : g_I F2 := by
  refine gU_F hI u ?_
  rcases Nat.lt_or_ge c 176 with h | h
  · have h1 := List.all_eq_true.mp m c (List.mem_range.mpr h)
    rw [← hS.2 c h, hs] at h1
    simpa using h1
  · exact g_hi h
def g_kr (t k : Nat) (lo hi : Int) : Bool := (List.range 176).all (fun c => (hs_L.getD c (0, 0)).1 != t || decide (g_r c k = (lo, hi)))
theorem g_kr_e {lo hi : Int} (hS : h_S n SH) (hR : g_R n SH FR) (hc : c < n) (hs : SH c = (t, z)) (hg : ¬ g_dt t) (m : g_kr t k lo hi = true) : g_r c k = (lo, hi) := by
  have h := fix_tag hR hc hs hg
  have h1 := List.all_eq_true.mp m c (List.mem_range.mpr h)
  rw [← hS.2 c h, hs] at h1
  simpa using h1
theorem gI_s {F : Nat → Nat → Int32} {lo hi : Int} (hI : g_I F) (hS : h_S n SH) (hR : g_R n SH FR) (hc : c < n) (hs : SH c = (t, z)) (hg : ¬ g_dt t) (m : g_kr t k lo hi = true) : lo ≤ (F c k).toInt ∧ (F c k).toInt ≤ hi := by
  have h := hI c k
  rw [g_kr_e hS hR hc hs hg m] at h
  exact h
theorem gU_s {F F2 : Nat → Nat → Int32} {x : Int32} {lo hi : Int} (hI : g_I F) (hS : h_S n SH) (hR : g_R n SH FR) (hc : c < n) (hs : SH c = (t, z)) (hg : ¬ g_dt t) (m : g_kr t k lo hi = true) (u : F2 = h_up F c k x) (h1 : lo ≤ x.toInt) (h2 : x.toInt ≤ hi) : g_I F2 := g_up hI u (by rw [g_kr_e hS hR hc hs hg m]; exact ⟨h1, h2⟩)
theorem g_th (hS : h_S n SH) (hF : h_FR FR) (hR : g_R n SH FR) (hc : c < n) (hs : SH c = (103, z)) {i : Nat} (hi : i < 16) : ∃ r, FR c i = some r := by
  have h := fix_tag hR hc hs (by unfold g_dt; omega)
  have h1 : (hs_L.getD c (0, 0)).1 = 103 := by rw [← hS.2 c h, hs]
  have h2 : ∀ c, c < 176 → (hs_L.getD c (0, 0)).1 = 103 → ∀ i, i < 16 → hf_L.any (fun e => e.1 == c && e.2.1 == i) = true := by decide +kernel
  obtain ⟨e, he, h3⟩ := List.any_eq_true.mp (h2 c h h1 i hi)
  rw [Bool.and_eq_true] at h3
  have h4 := hF e he
  rw [eq_of_beq h3.1, eq_of_beq h3.2] at h4
  exact ⟨_, h4⟩
def g_nk2 (t k ty zz : Nat) : Bool := (List.range 176).all (fun c => (hs_L.getD c (0, 0)).1 != t || hf_L.any (fun e => e.1 == c && (e.2.1 == k && (decide (e.2.2 < 121) && hs_L.getD e.2.2 (0, 0) == (ty, zz)))))
theorem g_nz {ty zz : Nat} (hS : h_S n SH) (hF : h_FR FR) (hR : g_R n SH FR) (hc : c < n) (hs : SH c = (t, z)) (hg : ¬ g_dt t) (m : g_nk2 t k ty zz = true) : ∃ r, FR c k = some r ∧ r < n ∧ own r ∧ SH r = (ty, zz) ∧ r < 121 := by
  have h := fix_tag hR hc hs hg
  have h1 := List.all_eq_true.mp m c (List.mem_range.mpr h)
  rw [← hS.2 c h, hs] at h1
  rw [Bool.or_eq_true] at h1
  rcases h1 with h1 | h1
  · simp at h1
  · obtain ⟨e, he, h3⟩ := List.any_eq_true.mp h1
    rw [Bool.and_eq_true, Bool.and_eq_true, Bool.and_eq_true] at h3
    have h4 := hF e he
    rw [eq_of_beq h3.1, eq_of_beq h3.2.1] at h4
    have h5 : e.2.2 < 121 := of_decide_eq_true h3.2.2.1
    refine ⟨_, h4, Nat.lt_of_lt_of_le (by omega) hS.1, Or.inl h5, ?_, by omega⟩
    rw [hS.2 _ (by omega)]
    exact eq_of_beq h3.2.2.2
def g_nk3 (t k l : Nat) : Bool := (List.range 176).all (fun c => (hs_L.getD c (0, 0)).1 != t || hf_L.contains (c, k, l))
theorem g_nl {l : Nat} (hS : h_S n SH) (hF : h_FR FR) (hR : g_R n SH FR) (hc : c < n) (hs : SH c = (t, z)) (hg : ¬ g_dt t) (m : g_nk3 t k l = true) : FR c k = some l := by
  have h := fix_tag hR hc hs hg
  have h1 := List.all_eq_true.mp m c (List.mem_range.mpr h)
  rw [← hS.2 c h, hs] at h1
  rw [Bool.or_eq_true] at h1
  rcases h1 with h1 | h1
  · simp at h1
  · exact hF (c, k, l) (by simpa using h1)
theorem hF_up (hS : h_S n SH) (h : h_FR FR) (u : FR2 = h_up FR c k o) (hs : SH c = (t, z)) (m : hf_ck t k = true) : h_FR FR2 := by
  intro e he
  have h1 := List.all_eq_true.mp m e he
  rw [Bool.and_eq_true] at h1
  have h9 : e.1 < 176 := of_decide_eq_true h1.1
  by_cases e1 : e.1 = c
  · by_cases e2 : e.2.1 = k
    · exfalso
      have h2 : (hs_L.getD e.1 (0, 0)).1 = t := by rw [← hS.2 e.1 h9, e1, hs]
      have h3 := h1.2
      rw [h2, e2] at h3
      simp at h3
    · rw [up_k u e2 rfl]; exact h e he
  · rw [up_c u e1 rfl]; exact h e he
theorem hF_ua (hS : h_S n SH) (h : h_FR FR) (u : FR2 = h_up FR c k o) (hs : SH c = (t, z)) (m : hf_ca t = true) : h_FR FR2 := by
  intro e he
  have h1 := List.all_eq_true.mp m e he
  rw [Bool.and_eq_true] at h1
  have h9 : e.1 < 176 := of_decide_eq_true h1.1
  by_cases e1 : e.1 = c
  · exfalso
    have h2 : (hs_L.getD e.1 (0, 0)).1 = t := by rw [← hS.2 e.1 h9, e1, hs]
    have h3 := h1.2
    rw [h2] at h3
    simp at h3
  · rw [up_c u e1 rfl]; exact h e he
theorem gf_as {α : Type} {F F2 : Nat → Nat → α} {v : α} {L : List (Nat × Nat)} {A T : List Nat} {t2 : Nat} (hS : h_S n SH) (f : g_fr n (shd SH) L A T F F2) (hc : c < n) (hs : SH c = (t, z)) (hsd : shd SH c = (t2, z)) (m : (L.all (fun p => decide (p.1 < 176) && (hs_L.getD p.1 (0, 0)).1 != t) && (A.all (fun q => decide (q < 176) && (hs_L.getD q (0, 0)).1 != t) && !(T.contains t2))) = true) (p : F c k = v) : F2 c k = v := by
  rw [Bool.and_eq_true, Bool.and_eq_true] at m
  obtain ⟨m1, m2, m3⟩ := m
  have key : ∀ q, (decide (q < 176) && (hs_L.getD q (0, 0)).1 != t) = true → q ≠ c := by
    intro q hq e
    subst e
    rw [Bool.and_eq_true] at hq
    have h1 : q < 176 := of_decide_eq_true hq.1
    have h2 := hq.2
    rw [← hS.2 q h1, hs] at h2
    simp at h2
  refine (f c k hc (fun h => ?_) (fun h => ?_) (fun h => ?_)).trans p
  · exact key c (List.all_eq_true.mp m1 (c, k) h) rfl
  · exact key c (List.all_eq_true.mp m2 c h) rfl
  · rw [hsd] at h
    simp [h] at m3
theorem h_rf_n {base : Nat} (h : h_rf base o = none) : o = none := by cases o with | none => rfl | some q => cases h
theorem h_rf_s {base : Nat} (h : ¬ h_rf base o = none) : ∃ r, o = some r := by cases o with | none => exact absurd rfl h | some q => exact ⟨q, rfl⟩
theorem i_len {z : Nat} : (Int32.ofNat z).toInt ≤ (z : Int) := by
  rw [Int32.toInt_ofNat', show Int32.size = 4294967296 from rfl]
  have h1 := Int.bmod_le (x := (z : Int)) (m := 4294967296) (by decide)
  rcases Nat.lt_or_ge z 2147483648 with h | h
  · rw [Int.bmod_eq_of_le (by omega) (by omega)]; exact Int.le_refl _
  · omega
end CR
section CV
variable {base d : Nat} {X : Option (Nat × Nat × (Nat → Int32))} {j : Nat} {y : MethodName} {nL : Nat} {ret : Option FieldType} {pc : Nat} {L : xL} {st : List Value} {Φ : Option Value → hS → Prop} {n sl : Nat} {SH : Nat → Nat × Nat} {FI : Nat → Nat → Int32} {FL : Nat → Nat → Int64} {FR : Nat → Nat → Option Nat}
theorem hv_putr {sk : xK} {idx t k N c z : Nat} {C : String} {T : u_T} {r : Option Nat} (q : x_at xMM j pc (.putfield idx) 3 y nL ret) (hf : x_fl vwCl x_Ts x_AO y.cls idx t k C T N) (hc : c < n) (hs : SH c = (t, z)) (ht : t < 100) (hty : (∃ C2, h_ty t k = .object C2) ∨ ∃ t2, h_ty t k = .array t2) (hfin : (T k).2.2.2 = false ∨ ((T k).2.2.2 = true ∧ y.name = "<init>" ∧ (T k).1 = y.cls ∧ Cond.fieldLink y.cls idx (T k).1 (T k).2.1 (T k).2.2.1 ∈ x_Ts)) (kk : ∀ F2, F2 = h_up FR c k r → hw sk base d X j (pc + 3) L st (n, sl, SH, FI, FL, F2) Φ) : hw sk base d X j pc L (va_rf (h_rf base r) :: .ref (base + c) :: st) (n, sl, SH, FI, FL, FR) Φ := hw_putr q hf hc hs ht hty hfin (kk _ rfl)
end CV
end
section
def nX5_become : Nat := 0xb11600b5032a1300b5032a0f00b5202a0900b51b2a
theorem bX5_become : cX5_become.data.toList.map UInt8.toNat = x_un nX5_become 21 := by decide +kernel
def iX5_become : List (Nat × Jvm.ClassFile.Instr × Nat) := [(0, .aload_n 0, 1), (1, .iload_n 1, 1), (2, .putfield 9, 3), (5, .aload_n 0, 1), (6, .lload_n 2, 1), (7, .putfield 15, 3), (10, .aload_n 0, 1), (11, .iconst 0, 1), (12, .putfield 19, 3), (15, .aload_n 0, 1), (16, .iconst 0, 1), (17, .putfield 22, 3), (20, .return_, 1)]
theorem dX5_become : x_il nX5_become 21 iX5_become = true := by decide +kernel
theorem aX5_become (k : Nat) {pc : Nat} {i : Jvm.ClassFile.Instr} {len : Nat} (hk : iX5_become[k]? = some (pc, i, len)) : x_at xMM 59 pc i len yX5_become 4 none := ⟨cX5_become, rfl, x_il_ok bX5_become dX5_become k hk⟩
set_option maxHeartbeats 4000000 in
set_option maxRecDepth 100000 in
theorem k_X5_become {sk : xK} {base d n sl : Nat} {SH : Nat → Nat × Nat} {FI : Nat → Nat → Int32} {FL : Nat → Nat → Int64} {FR : Nat → Nat → Option Nat} (hS : h_S n SH) (hF : h_FR FR) (hI : g_I FI) (hR : g_R n SH FR) (c : Nat) {zc : Nat} (hc : c < n) (hsc : SH c = (5, zc)) (hoc : own c) (a1 : Int32) (a2 : Int64) : hw sk base d none 59 0 [(0, .ref (base + c)), (1, .int (a1)), (2, .long (a2))] [] (n, sl, SH, FI, FL, FR) (h_V (fun s => ∃ FI' FL', s = (n, sl, SH, FI', FL', FR) ∧ g_I FI' ∧ g_fr n (shd SH) [] [] [5] FI FI' ∧ g_fr n (shd SH) [] [] [5] FL FL')) := by
  have rg_a1 := i_rng a1
  have rg_a2 := l_rng a2
  refine hw_aloadn (aX5_become 0 rfl) rfl ?_
  refine xw_iloadn (aX5_become 1 rfl) rfl ?_
  refine hv_puti (aX5_become 2 rfl) wf_RX5_9 hc hsc (by decide) rfl rfl (fun FI1 u2 => ?_)
  have hI3 : g_I FI1 := gU_g hI hS u2 hsc (by decide +kernel)
  refine hw_aloadn (aX5_become 3 rfl) rfl ?_
  refine xw_lloadn (aX5_become 4 rfl) rfl ?_
  refine hv_putl (aX5_become 5 rfl) wf_RX5_15 hc hsc (by decide) rfl rfl (fun FL4 u5 => ?_)
  refine hw_aloadn (aX5_become 6 rfl) rfl ?_
  refine hw_ic (v := (0 : Int32)) (aX5_become 7 rfl) (by decide) ?_
  refine hv_puti (aX5_become 8 rfl) wf_RX5_19 hc hsc (by decide) rfl rfl (fun FI6 u7 => ?_)
  have hI8 : g_I FI6 := gU_g hI3 hS u7 hsc (by decide +kernel)
  refine hw_aloadn (aX5_become 9 rfl) rfl ?_
  refine hw_ic (v := (0 : Int32)) (aX5_become 10 rfl) (by decide) ?_
  refine hv_puti (aX5_become 11 rfl) wf_RX5_22 hc hsc (by decide) rfl rfl (fun FI9 u10 => ?_)
  have hI11 : g_I FI9 := gU_g hI8 hS u10 hsc (by decide +kernel)
  refine xw_vret (aX5_become 12 rfl) rfl ?_
  exact ⟨rfl, FI9, FL4, rfl, hI11, (gf_t (gf_t (gf_t gf_rf u2 (shd_f (fix_t2 hS hR hc hsc (by unfold g_dt; omega) (by decide +kernel)) hsc) (by decide)) u7 (shd_f (fix_t2 hS hR hc hsc (by unfold g_dt; omega) (by decide +kernel)) hsc) (by decide)) u10 (shd_f (fix_t2 hS hR hc hsc (by unfold g_dt; omega) (by decide +kernel)) hsc) (by decide)), (gf_t gf_rf u5 (shd_f (fix_t2 hS hR hc hsc (by unfold g_dt; omega) (by decide +kernel)) hsc) (by decide))⟩
def nX5_becomeBlock : Nat := 0xb12100b51c2a1d00b52b2a1900b6851d072a
theorem bX5_becomeBlock : cX5_becomeBlock.data.toList.map UInt8.toNat = x_un nX5_becomeBlock 18 := by decide +kernel
def iX5_becomeBlock : List (Nat × Jvm.ClassFile.Instr × Nat) := [(0, .aload_n 0, 1), (1, .iconst 4, 1), (2, .iload_n 3, 1), (3, .i2l, 1), (4, .invokevirtual 25, 3), (7, .aload_n 0, 1), (8, .aload_n 1, 1), (9, .putfield 29, 3), (12, .aload_n 0, 1), (13, .iload_n 2, 1), (14, .putfield 33, 3), (17, .return_, 1)]
theorem dX5_becomeBlock : x_il nX5_becomeBlock 18 iX5_becomeBlock = true := by decide +kernel
theorem aX5_becomeBlock (k : Nat) {pc : Nat} {i : Jvm.ClassFile.Instr} {len : Nat} (hk : iX5_becomeBlock[k]? = some (pc, i, len)) : x_at xMM 60 pc i len yX5_becomeBlock 4 none := ⟨cX5_becomeBlock, rfl, x_il_ok bX5_becomeBlock dX5_becomeBlock k hk⟩
set_option maxHeartbeats 4000000 in
set_option maxRecDepth 100000 in
theorem k_X5_becomeBlock {sk : xK} {base d n sl : Nat} {SH : Nat → Nat × Nat} {FI : Nat → Nat → Int32} {FL : Nat → Nat → Int64} {FR : Nat → Nat → Option Nat} (hS : h_S n SH) (hF : h_FR FR) (hI : g_I FI) (hR : g_R n SH FR) (c : Nat) {zc : Nat} (hc : c < n) (hsc : SH c = (5, zc)) (hoc : own c) (a1 : Nat) {z1 : Nat} (ha1l : a1 < n) (ha1s : SH a1 = (100, z1)) (ha1o : own a1) (a2 : Int32) (a3 : Int32) : hw sk base (d + 1) none 60 0 [(0, .ref (base + c)), (1, .ref (base + a1)), (2, .int (a2)), (3, .int (a3))] [] (n, sl, SH, FI, FL, FR) (h_V (fun s => ∃ FI' FL' FR', s = (n, sl, SH, FI', FL', FR') ∧ g_I FI' ∧ g_fr n (shd SH) [] [] [5] FI FI' ∧ g_fr n (shd SH) [] [] [5] FL FL' ∧ g_fr n (shd SH) [] [] [5] FR FR' ∧ h_FR FR' ∧ g_R n SH FR')) := by
  have rg_a2 := i_rng a2
  have rg_a3 := i_rng a3
  refine hw_aloadn (aX5_becomeBlock 0 rfl) rfl ?_
  refine hw_ic (v := (4 : Int32)) (aX5_becomeBlock 1 rfl) (by decide) ?_
  refine xw_iloadn (aX5_becomeBlock 2 rfl) rfl ?_
  refine xw_i2l (aX5_becomeBlock 3 rfl) ?_
  refine hw_tle (A := (a3).toInt) (i_2l rfl) (fun x1 e2 => ?_)
  refine hw_callV (Bs := [.int ((4 : Int32)), .long (x1)]) (rest := []) (aX5_becomeBlock 4 rfl) wc_RX5_25 (by decide) rfl wi_yX5_become wv_yX5_become hc hsc rfl rfl rfl (Nat.le_of_ble_eq_true rfl) (Nat.le_of_ble_eq_true rfl) (k_X5_become (d := d) hS hF hI hR (c) hc hsc hoc ((4 : Int32)) (x1) ) (fun v3 sv4 p5 => ?_)
  obtain ⟨rfl, FI7, FL8, rfl, hI9, f10, f11⟩ := p5
  show hw sk base _ _ _ _ _ [] _ _
  refine hw_aloadn (aX5_becomeBlock 5 rfl) rfl ?_
  refine hw_aloadn (aX5_becomeBlock 6 rfl) rfl ?_
  refine hv_putr (r := some (a1)) (aX5_becomeBlock 7 rfl) wf_RX5_29 hc hsc (by decide) (by first | exact Or.inl ⟨_, rfl⟩ | exact Or.inr ⟨_, rfl⟩) (Or.inl rfl) (fun FR16 u17 => ?_)
  have hF18 : h_FR FR16 := hF_up hS hF u17 hsc (by decide +kernel)
  have hR19 : g_R n SH FR16 := gR_up hR u17 hsc (fun r e => by cases e; exact ⟨ha1l, ha1o, by rw [ha1s]; rfl⟩) (fun h => absurd h (by have := (fix_t2 hS hR hc hsc (by unfold g_dt; omega) (by decide +kernel)); omega)) (fun _ => by simp) (fun h => absurd h.1 (ne_tag hsc (s49 hS) (by decide)))
  refine hw_aloadn (aX5_becomeBlock 8 rfl) rfl ?_
  refine xw_iloadn (aX5_becomeBlock 9 rfl) rfl ?_
  refine hv_puti (aX5_becomeBlock 10 rfl) wf_RX5_33 hc hsc (by decide) rfl rfl (fun FI20 u21 => ?_)
  have hI22 : g_I FI20 := gU_g hI9 hS u21 hsc (by decide +kernel)
  refine xw_vret (aX5_becomeBlock 11 rfl) rfl ?_
  exact ⟨rfl, FI20, FL8, FR16, rfl, hI22, (gf_t (gf_tr ex_rf gf_rf f10 rfl rfl rfl) u21 (shd_f (fix_t2 hS hR19 hc hsc (by unfold g_dt; omega) (by decide +kernel)) hsc) (by decide)), (gf_tr ex_rf gf_rf f11 rfl rfl rfl), (gf_t gf_rf u17 (shd_f (fix_t2 hS hR hc hsc (by unfold g_dt; omega) (by decide +kernel)) hsc) (by decide)), hF18, hR19⟩
def nX5_take : Nat := 0xb12100b52100b42b2a1d00b51d00b42b2a1600b51600b42b2a1300b51300b42b2a0f00b50f00b42b2a0900b50900b42b2a
theorem bX5_take : cX5_take.data.toList.map UInt8.toNat = x_un nX5_take 49 := by decide +kernel
def iX5_take : List (Nat × Jvm.ClassFile.Instr × Nat) := [(0, .aload_n 0, 1), (1, .aload_n 1, 1), (2, .getfield 9, 3), (5, .putfield 9, 3), (8, .aload_n 0, 1), (9, .aload_n 1, 1), (10, .getfield 15, 3), (13, .putfield 15, 3), (16, .aload_n 0, 1), (17, .aload_n 1, 1), (18, .getfield 19, 3), (21, .putfield 19, 3), (24, .aload_n 0, 1), (25, .aload_n 1, 1), (26, .getfield 22, 3), (29, .putfield 22, 3), (32, .aload_n 0, 1), (33, .aload_n 1, 1), (34, .getfield 29, 3), (37, .putfield 29, 3), (40, .aload_n 0, 1), (41, .aload_n 1, 1), (42, .getfield 33, 3), (45, .putfield 33, 3), (48, .return_, 1)]
theorem dX5_take : x_il nX5_take 49 iX5_take = true := by decide +kernel
theorem aX5_take (k : Nat) {pc : Nat} {i : Jvm.ClassFile.Instr} {len : Nat} (hk : iX5_take[k]? = some (pc, i, len)) : x_at xMM 61 pc i len yX5_take 2 none := ⟨cX5_take, rfl, x_il_ok bX5_take dX5_take k hk⟩
set_option maxHeartbeats 4000000 in
set_option maxRecDepth 100000 in
theorem k_X5_take {sk : xK} {base d n sl : Nat} {SH : Nat → Nat × Nat} {FI : Nat → Nat → Int32} {FL : Nat → Nat → Int64} {FR : Nat → Nat → Option Nat} (hS : h_S n SH) (hF : h_FR FR) (hI : g_I FI) (hR : g_R n SH FR) (c : Nat) {zc : Nat} (hc : c < n) (hsc : SH c = (5, zc)) (hoc : own c) (a1 : Nat) {z1 : Nat} (ha1l : a1 < n) (ha1s : SH a1 = (5, z1)) (ha1o : own a1) : hw sk base d none 61 0 [(0, .ref (base + c)), (1, .ref (base + a1))] [] (n, sl, SH, FI, FL, FR) (h_V (fun s => ∃ FI' FL' FR', s = (n, sl, SH, FI', FL', FR') ∧ g_I FI' ∧ g_fr n (shd SH) [] [] [5] FI FI' ∧ g_fr n (shd SH) [] [] [5] FL FL' ∧ g_fr n (shd SH) [] [] [5] FR FR' ∧ h_FR FR' ∧ g_R n SH FR')) := by
  refine hw_aloadn (aX5_take 0 rfl) rfl ?_
  refine hw_aloadn (aX5_take 1 rfl) rfl ?_
  obtain ⟨x1, h2⟩ : ∃ y, FI a1 0 = y := ⟨_, rfl⟩
  have h2l := congrArg Int32.toInt h2
  have := i_rng x1
  refine hw_get (v := .int (x1)) (aX5_take 2 rfl) wf_RX5_9 ha1l ha1s (by decide) (congrArg Value.int (show FI a1 0 = x1 from h2)) ?_
  refine hv_puti (aX5_take 3 rfl) wf_RX5_9 hc hsc (by decide) rfl rfl (fun FI3 u4 => ?_)
  have hI5 : g_I FI3 := gU_g hI hS u4 hsc (by decide +kernel)
  refine hw_aloadn (aX5_take 4 rfl) rfl ?_
  refine hw_aloadn (aX5_take 5 rfl) rfl ?_
  obtain ⟨x6, h7⟩ : ∃ y, FL a1 1 = y := ⟨_, rfl⟩
  have h7l := congrArg Int64.toInt h7
  have := l_rng x6
  refine hw_get (v := .long (x6)) (aX5_take 6 rfl) wf_RX5_15 ha1l ha1s (by decide) (congrArg Value.long (show FL a1 1 = x6 from h7)) ?_
  refine hv_putl (aX5_take 7 rfl) wf_RX5_15 hc hsc (by decide) rfl rfl (fun FL8 u9 => ?_)
  refine hw_aloadn (aX5_take 8 rfl) rfl ?_
  refine hw_aloadn (aX5_take 9 rfl) rfl ?_
  obtain ⟨x10, h11⟩ : ∃ y, FI3 a1 2 = y := ⟨_, rfl⟩
  have h11l := congrArg Int32.toInt h11
  have := i_rng x10
  refine hw_get (v := .int (x10)) (aX5_take 10 rfl) wf_RX5_19 ha1l ha1s (by decide) (congrArg Value.int (show FI3 a1 2 = x10 from h11)) ?_
  refine hv_puti (aX5_take 11 rfl) wf_RX5_19 hc hsc (by decide) rfl rfl (fun FI12 u13 => ?_)
  have hI14 : g_I FI12 := gU_g hI5 hS u13 hsc (by decide +kernel)
  refine hw_aloadn (aX5_take 12 rfl) rfl ?_
  refine hw_aloadn (aX5_take 13 rfl) rfl ?_
  obtain ⟨x15, h16⟩ : ∃ y, FI12 a1 3 = y := ⟨_, rfl⟩
  have h16l := congrArg Int32.toInt h16
  have := i_rng x15
  refine hw_get (v := .int (x15)) (aX5_take 14 rfl) wf_RX5_22 ha1l ha1s (by decide) (congrArg Value.int (show FI12 a1 3 = x15 from h16)) ?_
  refine hv_puti (aX5_take 15 rfl) wf_RX5_22 hc hsc (by decide) rfl rfl (fun FI17 u18 => ?_)
  have hI19 : g_I FI17 := gU_g hI14 hS u18 hsc (by decide +kernel)
  refine hw_aloadn (aX5_take 16 rfl) rfl ?_
  refine hw_aloadn (aX5_take 17 rfl) rfl ?_
  obtain ⟨o20, h21⟩ : ∃ y, FR a1 4 = y := ⟨_, rfl⟩
  have ht22 : ∀ r, o20 = some r → r < n ∧ own r ∧ SH r = (100, (SH r).2) := fun r e => gR_get hR ha1l ha1o ha1s (h21.trans e)
  refine hw_get (v := va_rf (h_rf base (o20))) (aX5_take 18 rfl) wf_RX5_29 ha1l ha1s (by decide) (congrArg (fun r => va_rf (h_rf base r)) (show FR a1 4 = o20 from h21)) ?_
  refine hv_putr (r := o20) (aX5_take 19 rfl) wf_RX5_29 hc hsc (by decide) (by first | exact Or.inl ⟨_, rfl⟩ | exact Or.inr ⟨_, rfl⟩) (Or.inl rfl) (fun FR23 u24 => ?_)
  have hF25 : h_FR FR23 := hF_up hS hF u24 hsc (by decide +kernel)
  have hR26 : g_R n SH FR23 := gR_up hR u24 hsc (fun r e => by obtain ⟨a, b, c⟩ := ht22 r e; exact ⟨a, b, by rw [c]; rfl⟩) (fun h => absurd h (by have := (fix_t2 hS hR hc hsc (by unfold g_dt; omega) (by decide +kernel)); omega)) (fun h => absurd h (by unfold g_nn; have z : ∀ q, q = 0 ∨ q = 110 ∨ q = 111 ∨ q = 26 ∨ q = 43 → (SH q).1 ≠ 5 := (fun q hq => by rcases hq with rfl | rfl | rfl | rfl | rfl; { rw [s0 hS]; decide }; { rw [s110 hS]; decide }; { rw [s111 hS]; decide }; { rw [s26 hS]; decide }; { rw [s43 hS]; decide }); have z2 := z c; rw [hsc] at z2; omega)) (fun h => absurd h.1 (ne_tag hsc (s49 hS) (by decide)))
  refine hw_aloadn (aX5_take 20 rfl) rfl ?_
  refine hw_aloadn (aX5_take 21 rfl) rfl ?_
  obtain ⟨x27, h28⟩ : ∃ y, FI17 a1 5 = y := ⟨_, rfl⟩
  have h28l := congrArg Int32.toInt h28
  have := i_rng x27
  refine hw_get (v := .int (x27)) (aX5_take 22 rfl) wf_RX5_33 ha1l ha1s (by decide) (congrArg Value.int (show FI17 a1 5 = x27 from h28)) ?_
  refine hv_puti (aX5_take 23 rfl) wf_RX5_33 hc hsc (by decide) rfl rfl (fun FI29 u30 => ?_)
  have hI31 : g_I FI29 := gU_g hI19 hS u30 hsc (by decide +kernel)
  refine xw_vret (aX5_take 24 rfl) rfl ?_
  exact ⟨rfl, FI29, FL8, FR23, rfl, hI31, (gf_t (gf_t (gf_t (gf_t gf_rf u4 (shd_f (fix_t2 hS hR hc hsc (by unfold g_dt; omega) (by decide +kernel)) hsc) (by decide)) u13 (shd_f (fix_t2 hS hR hc hsc (by unfold g_dt; omega) (by decide +kernel)) hsc) (by decide)) u18 (shd_f (fix_t2 hS hR hc hsc (by unfold g_dt; omega) (by decide +kernel)) hsc) (by decide)) u30 (shd_f (fix_t2 hS hR26 hc hsc (by unfold g_dt; omega) (by decide +kernel)) hsc) (by decide)), (gf_t gf_rf u9 (shd_f (fix_t2 hS hR hc hsc (by unfold g_dt; omega) (by decide +kernel)) hsc) (by decide)), (gf_t gf_rf u24 (shd_f (fix_t2 hS hR hc hsc (by unfold g_dt; omega) (by decide +kernel)) hsc) (by decide)), hF25, hR26⟩
def nX8_count : Nat := 0xac1200b42a0700a70407009a1200b42a
theorem bX8_count : cX8_count.data.toList.map UInt8.toNat = x_un nX8_count 16 := by decide +kernel
def iX8_count : List (Nat × Jvm.ClassFile.Instr × Nat) := [(0, .aload_n 0, 1), (1, .getfield 18, 3), (4, .ifCond .ne 7, 3), (7, .iconst 1, 1), (8, .goto 7, 3), (11, .aload_n 0, 1), (12, .getfield 18, 3), (15, .ireturn, 1)]
theorem dX8_count : x_il nX8_count 16 iX8_count = true := by decide +kernel
theorem aX8_count (k : Nat) {pc : Nat} {i : Jvm.ClassFile.Instr} {len : Nat} (hk : iX8_count[k]? = some (pc, i, len)) : x_at xMM 79 pc i len yX8_count 1 (some .int) := ⟨cX8_count, rfl, x_il_ok bX8_count dX8_count k hk⟩
set_option maxHeartbeats 4000000 in
set_option maxRecDepth 100000 in
theorem k_X8_count {sk : xK} {base d n sl : Nat} {SH : Nat → Nat × Nat} {FI : Nat → Nat → Int32} {FL : Nat → Nat → Int64} {FR : Nat → Nat → Option Nat} (hS : h_S n SH) (hF : h_FR FR) (hI : g_I FI) (hR : g_R n SH FR) (c : Nat) {zc : Nat} (hc : c < n) (hsc : SH c = (8, zc)) (hoc : own c) : hw sk base d none 79 0 [(0, .ref (base + c))] [] (n, sl, SH, FI, FL, FR) (h_I (fun r s => s = (n, sl, SH, FI, FL, FR) ∧ (r.toInt = 1 ∨ r.toInt = (FI c 1).toInt))) := by
  obtain ⟨x1, h2⟩ : ∃ y, FI c 1 = y := ⟨_, rfl⟩
  have h2l := congrArg Int32.toInt h2
  have := i_rng x1
  have b3 := gI_s (k := 1) (lo := 0) (hi := 16) hI hS hR hc hsc (by unfold g_dt; omega) (by decide +kernel); rw [h2] at b3
  refine hw_aloadn (aX8_count 0 rfl) rfl ?_
  refine hw_get (v := .int (x1)) (aX8_count 1 rfl) wf_RX8_18 hc hsc (by decide) (congrArg Value.int (show FI c 1 = x1 from h2)) ?_
  refine hw_ifne (tgt := 11) (aX8_count 2 rfl) (by decide) rfl (fun cd4 => ?_) (fun cd4 => ?_)
  · refine hw_aloadn (aX8_count 5 rfl) rfl ?_
    refine hw_get (v := .int (x1)) (aX8_count 6 rfl) wf_RX8_18 hc hsc (by decide) (congrArg Value.int (show FI c 1 = x1 from h2)) ?_
    refine xw_iret (aX8_count 7 rfl) rfl rfl ?_
    exact ⟨x1, rfl, rfl, (by omega)⟩
  · refine hw_ic (v := (1 : Int32)) (aX8_count 3 rfl) (by decide) ?_
    refine xw_goto (tgt := 15) (aX8_count 4 rfl) (by decide) ?_
    refine xw_iret (aX8_count 7 rfl) rfl rfl ?_
    have e5 : ((1 : Int32)).toInt = 1 := (by decide : (1 : Int32).toInt = 1)
    exact ⟨(1 : Int32), rfl, rfl, (by have : ((1 : Int32)).toInt = 1 := (by decide); omega)⟩
def nX8_only : Nat := 0xb032030d00b42a
theorem bX8_only : cX8_only.data.toList.map UInt8.toNat = x_un nX8_only 7 := by decide +kernel
def iX8_only : List (Nat × Jvm.ClassFile.Instr × Nat) := [(0, .aload_n 0, 1), (1, .getfield 13, 3), (4, .iconst 0, 1), (5, .aaload, 1), (6, .areturn, 1)]
theorem dX8_only : x_il nX8_only 7 iX8_only = true := by decide +kernel
theorem aX8_only (k : Nat) {pc : Nat} {i : Jvm.ClassFile.Instr} {len : Nat} (hk : iX8_only[k]? = some (pc, i, len)) : x_at xMM 80 pc i len yX8_only 1 (some (.object "LocationDesk$Part")) := ⟨cX8_only, rfl, x_il_ok bX8_only dX8_only k hk⟩
set_option maxHeartbeats 4000000 in
set_option maxRecDepth 100000 in
theorem k_X8_only {sk : xK} {base d n sl : Nat} {SH : Nat → Nat × Nat} {FI : Nat → Nat → Int32} {FL : Nat → Nat → Int64} {FR : Nat → Nat → Option Nat} (hS : h_S n SH) (hF : h_FR FR) (hI : g_I FI) (hR : g_R n SH FR) (c : Nat) {zc : Nat} (hc : c < n) (hsc : SH c = (8, zc)) (hoc : own c) : hw sk base d none 80 0 [(0, .ref (base + c))] [] (n, sl, SH, FI, FL, FR) (h_A base (fun r s => s = (n, sl, SH, FI, FL, FR) ∧ (∀ q, r = some q → q < n ∧ own q ∧ SH q = (5, (SH q).2)) ∧ r ≠ none)) := by
  refine hw_aloadn (aX8_only 0 rfl) rfl ?_
  obtain ⟨r1, h2, lt3, ow4, sh5, fx6⟩ := g_nz (k := 0) (ty := 103) (zz := 16) hS hF hR hc hsc (by unfold g_dt; omega) (by decide +kernel)
  refine hw_get (v := .ref (base + r1)) (aX8_only 1 rfl) wf_RX8_13 hc hsc (by decide) (congrArg (fun r => va_rf (h_rf base r)) (show FR c 0 = some r1 from h2)) ?_
  refine hw_ic (v := (0 : Int32)) (aX8_only 2 rfl) (by decide) ?_
  obtain ⟨o7, h8⟩ : ∃ y, FR r1 ((0 : Int32)).toNatClampNeg = y := ⟨_, rfl⟩
  have ht9 : ∀ r, o7 = some r → r < n ∧ own r ∧ SH r = (5, (SH r).2) := fun r e => gR_get hR lt3 ow4 sh5 (h8.trans e)
  refine hw_aald (k := 3) (v := o7) (aX8_only 3 rfl) lt3 sh5 (by decide) (by decide) (h_in (by decide : (0 : Int32).toInt = 0) (by omega) (by omega)) (show FR r1 ((0 : Int32)).toNatClampNeg = o7 from h8) ?_
  obtain ⟨r10, rfl⟩ : ∃ r, o7 = some r := by obtain ⟨r, hr⟩ := g_th hS hF hR lt3 sh5 (i := ((0 : Int32)).toNatClampNeg) (i_lt (x := (0 : Int32)) (by decide : (0 : Int32).toInt = 0) (by omega) (by omega)); exact ⟨r, (show _ = _ from h8).symm.trans hr⟩
  obtain ⟨lt12, ow13, sh14⟩ := ht9 r10 rfl
  show hw sk base _ _ _ _ [(0, .ref (base + c))] [.ref (base + r10)] _ _
  refine xw_aret (v := h_rf base (some (r10))) (aX8_only 4 rfl) rfl (by first | exact Or.inl ⟨_, rfl⟩ | exact Or.inr ⟨_, rfl⟩) ?_
  exact ⟨some (r10), rfl, rfl, ((fun r e => by cases e; exact ⟨lt12, ow13, by rw [sh14]⟩)), (by simp)⟩
def nX8_clear : Nat := 0xb11d00b609031900b62a1600b5032a1200b5032a
theorem bX8_clear : cX8_clear.data.toList.map UInt8.toNat = x_un nX8_clear 20 := by decide +kernel
def iX8_clear : List (Nat × Jvm.ClassFile.Instr × Nat) := [(0, .aload_n 0, 1), (1, .iconst 0, 1), (2, .putfield 18, 3), (5, .aload_n 0, 1), (6, .iconst 0, 1), (7, .putfield 22, 3), (10, .aload_n 0, 1), (11, .invokevirtual 25, 3), (14, .iconst 0, 1), (15, .lconst 0, 1), (16, .invokevirtual 29, 3), (19, .return_, 1)]
theorem dX8_clear : x_il nX8_clear 20 iX8_clear = true := by decide +kernel
theorem aX8_clear (k : Nat) {pc : Nat} {i : Jvm.ClassFile.Instr} {len : Nat} (hk : iX8_clear[k]? = some (pc, i, len)) : x_at xMM 81 pc i len yX8_clear 1 none := ⟨cX8_clear, rfl, x_il_ok bX8_clear dX8_clear k hk⟩
set_option maxHeartbeats 4000000 in
set_option maxRecDepth 100000 in
theorem k_X8_clear {sk : xK} {base d n sl : Nat} {SH : Nat → Nat × Nat} {FI : Nat → Nat → Int32} {FL : Nat → Nat → Int64} {FR : Nat → Nat → Option Nat} (hS : h_S n SH) (hF : h_FR FR) (hI : g_I FI) (hR : g_R n SH FR) (c : Nat) {zc : Nat} (hc : c < n) (hsc : SH c = (8, zc)) (hoc : own c) : hw sk base (d + 1) none 81 0 [(0, .ref (base + c))] [] (n, sl, SH, FI, FL, FR) (h_V (fun s => ∃ FI' FL', s = (n, sl, SH, FI', FL', FR) ∧ g_I FI' ∧ g_fr n (shd SH) [] [] [5, 8] FI FI' ∧ g_fr n (shd SH) [] [] [5] FL FL')) := by
  refine hw_aloadn (aX8_clear 0 rfl) rfl ?_
  refine hw_ic (v := (0 : Int32)) (aX8_clear 1 rfl) (by decide) ?_
  refine hv_puti (aX8_clear 2 rfl) wf_RX8_18 hc hsc (by decide) rfl rfl (fun FI1 u2 => ?_)
  have hI3 : g_I FI1 := gU_s (k := 1) (lo := 0) (hi := 16) hI hS hR hc hsc (by unfold g_dt; omega) (by decide +kernel) u2 (by have := ((by decide : (0 : Int32).toInt = 0) : ((0 : Int32)).toInt = 0); omega) (by have := ((by decide : (0 : Int32).toInt = 0) : ((0 : Int32)).toInt = 0); omega)
  refine hw_aloadn (aX8_clear 3 rfl) rfl ?_
  refine hw_ic (v := (0 : Int32)) (aX8_clear 4 rfl) (by decide) ?_
  refine hv_puti (aX8_clear 5 rfl) wf_RX8_22 hc hsc (by decide) rfl rfl (fun FI4 u5 => ?_)
  have hI6 : g_I FI4 := gU_g hI3 hS u5 hsc (by decide +kernel)
  refine hw_aloadn (aX8_clear 6 rfl) rfl ?_
  refine hw_callV (Bs := []) (rest := []) (aX8_clear 7 rfl) wc_RX8_25 (by decide) rfl wi_yX8_only wv_yX8_only hc hsc rfl rfl rfl (Nat.le_of_ble_eq_true rfl) (Nat.le_of_ble_eq_true rfl) (k_X8_only (d := d) hS hF hI6 hR (c) hc hsc hoc ) (fun v7 sv8 p9 => ?_)
  obtain ⟨r10, rfl, rfl, ht14, nn15⟩ := p9
  obtain ⟨r16, rfl⟩ : ∃ q, r10 = some q := Option.ne_none_iff_exists'.mp nn15
  obtain ⟨lt17, ow18, sh19⟩ := ht14 r16 rfl
  show hw sk base _ _ _ _ _ [.ref (base + r16)] _ _
  refine hw_ic (v := (0 : Int32)) (aX8_clear 8 rfl) (by decide) ?_
  refine hw_lc (v := (0 : Int64)) (aX8_clear 9 rfl) (by decide) ?_
  refine hw_callV (Bs := [.int ((0 : Int32)), .long ((0 : Int64))]) (rest := []) (aX8_clear 10 rfl) wc_RX8_29 (by decide) rfl wi_yX5_become wv_yX5_become lt17 sh19 rfl rfl rfl (Nat.le_of_ble_eq_true rfl) (Nat.le_of_ble_eq_true rfl) (k_X5_become (d := d) hS hF hI6 hR (r16) lt17 sh19 ow18 ((0 : Int32)) ((0 : Int64)) ) (fun v20 sv21 p22 => ?_)
  obtain ⟨rfl, FI24, FL25, rfl, hI26, f27, f28⟩ := p22
  show hw sk base _ _ _ _ _ [] _ _
  refine xw_vret (aX8_clear 11 rfl) rfl ?_
  exact ⟨rfl, FI24, FL25, rfl, hI26, (gf_tr ex_rf (gf_t (gf_t gf_rf u2 (shd_f (fix_t2 hS hR hc hsc (by unfold g_dt; omega) (by decide +kernel)) hsc) (by decide)) u5 (shd_f (fix_t2 hS hR hc hsc (by unfold g_dt; omega) (by decide +kernel)) hsc) (by decide)) f27 rfl rfl rfl), (gf_tr ex_rf gf_rf f28 rfl rfl rfl)⟩
def nX1_registerValue : Nat := 0xad2f881f0b00b42a0a00a70907009b9485be0b00b42a1f0e009b94091f
theorem bX1_registerValue : cX1_registerValue.data.toList.map UInt8.toNat = x_un nX1_registerValue 29 := by decide +kernel
def iX1_registerValue : List (Nat × Jvm.ClassFile.Instr × Nat) := [(0, .lload_n 1, 1), (1, .lconst 0, 1), (2, .lcmp, 1), (3, .ifCond .lt 14, 3), (6, .lload_n 1, 1), (7, .aload_n 0, 1), (8, .getfield 11, 3), (11, .arraylength, 1), (12, .i2l, 1), (13, .lcmp, 1), (14, .ifCond .lt 7, 3), (17, .lconst 0, 1), (18, .goto 10, 3), (21, .aload_n 0, 1), (22, .getfield 11, 3), (25, .lload_n 1, 1), (26, .l2i, 1), (27, .laload, 1), (28, .lreturn, 1)]
theorem dX1_registerValue : x_il nX1_registerValue 29 iX1_registerValue = true := by decide +kernel
theorem aX1_registerValue (k : Nat) {pc : Nat} {i : Jvm.ClassFile.Instr} {len : Nat} (hk : iX1_registerValue[k]? = some (pc, i, len)) : x_at xMM 20 pc i len yX1_registerValue 3 (some .long) := ⟨cX1_registerValue, rfl, x_il_ok bX1_registerValue dX1_registerValue k hk⟩
set_option maxHeartbeats 4000000 in
set_option maxRecDepth 100000 in
theorem k_X1_registerValue {sk : xK} {base d n sl : Nat} {SH : Nat → Nat × Nat} {FI : Nat → Nat → Int32} {FL : Nat → Nat → Int64} {FR : Nat → Nat → Option Nat} (hS : h_S n SH) (hF : h_FR FR) (hI : g_I FI) (hR : g_R n SH FR) (a1 : Int64) : hw sk base d none 20 0 [(0, .ref (base + 23)), (1, .long (a1))] [] (n, sl, SH, FI, FL, FR) (h_J (fun r s => s = (n, sl, SH, FI, FL, FR))) := by
  have rg_a1 := l_rng a1
  refine xw_lloadn (aX1_registerValue 0 rfl) rfl ?_
  refine hw_lc (v := (0 : Int64)) (aX1_registerValue 1 rfl) (by decide) ?_
  refine hw_lclt (tgt := 17) (aX1_registerValue 2 rfl) (aX1_registerValue 3 rfl) (by decide) rfl (by decide : (0 : Int64).toInt = 0) (fun cd1 => ?_) (fun cd1 => ?_)
  · refine hw_lc (v := (0 : Int64)) (aX1_registerValue 11 rfl) (by decide) ?_
    refine xw_goto (tgt := 28) (aX1_registerValue 12 rfl) (by decide) ?_
    refine xw_lret (aX1_registerValue 18 rfl) rfl ?_
    have e2 : ((0 : Int64)).toInt = 0 := (by decide : (0 : Int64).toInt = 0)
    exact ⟨(0 : Int64), rfl, rfl⟩
  · refine xw_lloadn (aX1_registerValue 4 rfl) rfl ?_
    refine hw_aloadn (aX1_registerValue 5 rfl) rfl ?_
    refine hw_get (v := .ref (base + 24)) (aX1_registerValue 6 rfl) wf_RX1_11 (c23 hS) (s23 hS) (by decide) (congrArg (fun r => va_rf (h_rf base r)) (r23_0 hF)) ?_
    refine hw_alen (k := 1) (z := 32) (v := (32 : Int32)) (aX1_registerValue 7 rfl) (c24 hS) (s24 hS) (by decide) (by decide) ?_
    refine xw_i2l (aX1_registerValue 8 rfl) ?_
    refine hw_tle (A := 32) (i_2l (by decide : (32 : Int32).toInt = 32)) (fun x3 e4 => ?_)
    refine hw_lclt (tgt := 21) (aX1_registerValue 9 rfl) (aX1_registerValue 10 rfl) (by decide) rfl e4 (fun cd5 => ?_) (fun cd5 => ?_)
    · refine hw_aloadn (aX1_registerValue 13 rfl) rfl ?_
      refine hw_get (v := .ref (base + 24)) (aX1_registerValue 14 rfl) wf_RX1_11 (c23 hS) (s23 hS) (by decide) (congrArg (fun r => va_rf (h_rf base r)) (r23_0 hF)) ?_
      refine xw_lloadn (aX1_registerValue 15 rfl) rfl ?_
      refine xw_l2i (aX1_registerValue 16 rfl) ?_
      refine hw_tie (A := (a1).toInt) (l_2i rfl (by omega) (by omega)) (fun x6 e7 => ?_)
      obtain ⟨x8, h9⟩ : ∃ y, FL 24 (x6).toNatClampNeg = y := ⟨_, rfl⟩
      have h9l := congrArg Int64.toInt h9
      have := l_rng x8
      refine hw_lald (v := x8) (aX1_registerValue 17 rfl) (c24 hS) (s24 hS) (h_in e7 (by omega) (by omega)) (show FL 24 (x6).toNatClampNeg = x8 from h9) ?_
      refine xw_lret (aX1_registerValue 18 rfl) rfl ?_
      exact ⟨x8, rfl, rfl⟩
    · refine hw_lc (v := (0 : Int64)) (aX1_registerValue 11 rfl) (by decide) ?_
      refine xw_goto (tgt := 28) (aX1_registerValue 12 rfl) (by decide) ?_
      refine xw_lret (aX1_registerValue 18 rfl) rfl ?_
      have e10 : ((0 : Int64)).toInt = 0 := (by decide : (0 : Int64).toInt = 0)
      exact ⟨(0 : Int64), rfl, rfl⟩
def nX1_cfaValue : Nat := 0xad612600b42a2200b6851f00b42a2a
theorem bX1_cfaValue : cX1_cfaValue.data.toList.map UInt8.toNat = x_un nX1_cfaValue 15 := by decide +kernel
def iX1_cfaValue : List (Nat × Jvm.ClassFile.Instr × Nat) := [(0, .aload_n 0, 1), (1, .aload_n 0, 1), (2, .getfield 31, 3), (5, .i2l, 1), (6, .invokevirtual 34, 3), (9, .aload_n 0, 1), (10, .getfield 38, 3), (13, .ladd, 1), (14, .lreturn, 1)]
theorem dX1_cfaValue : x_il nX1_cfaValue 15 iX1_cfaValue = true := by decide +kernel
theorem aX1_cfaValue (k : Nat) {pc : Nat} {i : Jvm.ClassFile.Instr} {len : Nat} (hk : iX1_cfaValue[k]? = some (pc, i, len)) : x_at xMM 21 pc i len yX1_cfaValue 1 (some .long) := ⟨cX1_cfaValue, rfl, x_il_ok bX1_cfaValue dX1_cfaValue k hk⟩
set_option maxHeartbeats 4000000 in
set_option maxRecDepth 100000 in
theorem k_X1_cfaValue {sk : xK} {base d n sl : Nat} {SH : Nat → Nat × Nat} {FI : Nat → Nat → Int32} {FL : Nat → Nat → Int64} {FR : Nat → Nat → Option Nat} (hS : h_S n SH) (hF : h_FR FR) (hI : g_I FI) (hR : g_R n SH FR) : hw sk base (d + 1) none 21 0 [(0, .ref (base + 23))] [] (n, sl, SH, FI, FL, FR) (h_J (fun r s => s = (n, sl, SH, FI, FL, FR))) := by
  refine hw_aloadn (aX1_cfaValue 0 rfl) rfl ?_
  refine hw_aloadn (aX1_cfaValue 1 rfl) rfl ?_
  obtain ⟨x1, h2⟩ : ∃ y, FI 23 5 = y := ⟨_, rfl⟩
  have h2l := congrArg Int32.toInt h2
  have b3 := gI_23_5 hI; rw [h2] at b3
  refine hw_get (v := .int (x1)) (aX1_cfaValue 2 rfl) wf_RX1_31 (c23 hS) (s23 hS) (by decide) (congrArg Value.int (show FI 23 5 = x1 from h2)) ?_
  refine xw_i2l (aX1_cfaValue 3 rfl) ?_
  refine hw_tle (A := (x1).toInt) (i_2l rfl) (fun x4 e5 => ?_)
  refine hw_callV (Bs := [.long (x4)]) (rest := []) (aX1_cfaValue 4 rfl) wc_RX1_34 (by decide) rfl wi_yX1_registerValue wv_yX1_registerValue (c23 hS) (s23 hS) rfl rfl rfl (Nat.le_of_ble_eq_true rfl) (Nat.le_of_ble_eq_true rfl) (k_X1_registerValue (d := d) hS hF hI hR (x4) ) (fun v6 sv7 p8 => ?_)
  obtain ⟨r9, rfl, rfl⟩ := p8
  have rg_r9 := l_rng r9
  show hw sk base _ _ _ _ _ [.long (r9)] _ _
  refine hw_aloadn (aX1_cfaValue 5 rfl) rfl ?_
  obtain ⟨x15, h16⟩ : ∃ y, FL 23 6 = y := ⟨_, rfl⟩
  have h16l := congrArg Int64.toInt h16
  have := l_rng x15
  refine hw_get (v := .long (x15)) (aX1_cfaValue 6 rfl) wf_RX1_38 (c23 hS) (s23 hS) (by decide) (congrArg Value.long (show FL 23 6 = x15 from h16)) ?_
  refine xw_ladd (aX1_cfaValue 7 rfl) ?_
  refine hw_tl (fun x17 => ?_)
  have b18 := l_rng x17
  refine xw_lret (aX1_cfaValue 8 rfl) rfl ?_
  exact ⟨x17, rfl, rfl⟩
end
