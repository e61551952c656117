def nX11_init : Nat := 0xb14100b54000b7593e00bb2a3a00b53900b7593700bb2a3300b53200b72c00b42a2300b42a593000bb2a2c00b52900b72900b7012300b42a592700bb2300b42a592700bb2a2300b52200b7592000bb2a1c00b51a00bd032a1700b54f0206594f0205594f0204594f0203590abc072a1400b50abc40102a1000b50abce803112a0a00b50900b7590700bb2a0100b72a
theorem bX11_init : cX11_init.data.toList.map UInt8.toNat = x_un nX11_init 143 := by decide +kernel
def iX11_init : List (Nat × Jvm.ClassFile.Instr × Nat) := [(0, .aload_n 0, 1), (1, .invokespecial 1, 3), (4, .aload_n 0, 1), (5, .new 7, 3), (8, .dup, 1), (9, .invokespecial 9, 3), (12, .putfield 10, 3), (15, .aload_n 0, 1), (16, .sipush 1000, 3), (19, .newarray .int, 2), (21, .putfield 16, 3), (24, .aload_n 0, 1), (25, .bipush 64, 2), (27, .newarray .int, 2), (29, .putfield 20, 3), (32, .aload_n 0, 1), (33, .iconst 4, 1), (34, .newarray .int, 2), (36, .dup, 1), (37, .iconst 0, 1), (38, .iconst (-1), 1), (39, .iastore, 1), (40, .dup, 1), (41, .iconst 1, 1), (42, .iconst (-1), 1), (43, .iastore, 1), (44, .dup, 1), (45, .iconst 2, 1), (46, .iconst (-1), 1), (47, .iastore, 1), (48, .dup, 1), (49, .iconst 3, 1), (50, .iconst (-1), 1), (51, .iastore, 1), (52, .putfield 23, 3), (55, .aload_n 0, 1), (56, .iconst 0, 1), (57, .anewarray 26, 3), (60, .putfield 28, 3), (63, .aload_n 0, 1), (64, .new 32, 3), (67, .dup, 1), (68, .invokespecial 34, 3), (71, .putfield 35, 3), (74, .aload_n 0, 1), (75, .new 39, 3), (78, .dup, 1), (79, .aload_n 0, 1), (80, .getfield 35, 3), (83, .new 39, 3), (86, .dup, 1), (87, .aload_n 0, 1), (88, .getfield 35, 3), (91, .aconst_null, 1), (92, .invokespecial 41, 3), (95, .invokespecial 41, 3), (98, .putfield 44, 3), (101, .aload_n 0, 1), (102, .new 48, 3), (105, .dup, 1), (106, .aload_n 0, 1), (107, .getfield 35, 3), (110, .aload_n 0, 1), (111, .getfield 44, 3), (114, .invokespecial 50, 3), (117, .putfield 51, 3), (120, .aload_n 0, 1), (121, .new 55, 3), (124, .dup, 1), (125, .invokespecial 57, 3), (128, .putfield 58, 3), (131, .aload_n 0, 1), (132, .new 62, 3), (135, .dup, 1), (136, .invokespecial 64, 3), (139, .putfield 65, 3), (142, .return_, 1)]
theorem dX11_init : x_il nX11_init 143 iX11_init = true := by decide +kernel
theorem aX11_init (k : Nat) {pc : Nat} {i : Jvm.ClassFile.Instr} {len : Nat} (hk : iX11_init[k]? = some (pc, i, len)) : x_at xMM 117 pc i len yX11_init 1 none := ⟨cX11_init, rfl, x_il_ok bX11_init dX11_init k hk⟩
def nX8_init : Nat := 0xb1e7ffa7010184531100b7590b00bb1b0d00b42a1600a2be0d00b42a1b3c030d00b50b00bd10102a0300b72a
theorem bX8_init : cX8_init.data.toList.map UInt8.toNat = x_un nX8_init 44 := by decide +kernel
def iX8_init : List (Nat × Jvm.ClassFile.Instr × Nat) := [(0, .aload_n 0, 1), (1, .invokespecial 3, 3), (4, .aload_n 0, 1), (5, .bipush 16, 2), (7, .anewarray 11, 3), (10, .putfield 13, 3), (13, .iconst 0, 1), (14, .istore_n 1, 1), (15, .iload_n 1, 1), (16, .aload_n 0, 1), (17, .getfield 13, 3), (20, .arraylength, 1), (21, .if_icmp .ge 22, 3), (24, .aload_n 0, 1), (25, .getfield 13, 3), (28, .iload_n 1, 1), (29, .new 11, 3), (32, .dup, 1), (33, .invokespecial 17, 3), (36, .aastore, 1), (37, .iinc 1 1, 3), (40, .goto (-25), 3), (43, .return_, 1)]
theorem dX8_init : x_il nX8_init 44 iX8_init = true := by decide +kernel
theorem aX8_init (k : Nat) {pc : Nat} {i : Jvm.ClassFile.Instr} {len : Nat} (hk : iX8_init[k]? = some (pc, i, len)) : x_at xMM 78 pc i len yX8_init 2 none := ⟨cX8_init, rfl, x_il_ok bX8_init dX8_init k hk⟩
def nX5_init : Nat := 0xb10300b72a
theorem bX5_init : cX5_init.data.toList.map UInt8.toNat = x_un nX5_init 5 := by decide +kernel
def iX5_init : List (Nat × Jvm.ClassFile.Instr × Nat) := [(0, .aload_n 0, 1), (1, .invokespecial 3, 3), (4, .return_, 1)]
theorem dX5_init : x_il nX5_init 5 iX5_init = true := by decide +kernel
theorem aX5_init (k : Nat) {pc : Nat} {i : Jvm.ClassFile.Instr} {len : Nat} (hk : iX5_init[k]? = some (pc, i, len)) : x_at xMM 58 pc i len yX5_init 1 none := ⟨cX5_init, rfl, x_il_ok bX5_init dX5_init k hk⟩
def nX1_init : Nat := 0xb11f00b5022a1b00b5022a1800b5021300c503072a1500b5021300c50310102a0f00b50abc0010112a0b00b50bbc20102a0300b72a
theorem bX1_init : cX1_init.data.toList.map UInt8.toNat = x_un nX1_init 53 := by decide +kernel
def iX1_init : List (Nat × Jvm.ClassFile.Instr × Nat) := [(0, .aload_n 0, 1), (1, .invokespecial 3, 3), (4, .aload_n 0, 1), (5, .bipush 32, 2), (7, .newarray .long, 2), (9, .putfield 11, 3), (12, .aload_n 0, 1), (13, .sipush 4096, 3), (16, .newarray .int, 2), (18, .putfield 15, 3), (21, .aload_n 0, 1), (22, .bipush 16, 2), (24, .iconst 0, 1), (29, .putfield 21, 3), (32, .aload_n 0, 1), (33, .iconst 4, 1), (34, .iconst 0, 1), (39, .putfield 24, 3), (42, .aload_n 0, 1), (43, .iconst (-1), 1), (44, .putfield 27, 3), (47, .aload_n 0, 1), (48, .iconst (-1), 1), (49, .putfield 31, 3), (52, .return_, 1)]
theorem dX1_init : x_il nX1_init 53 iX1_init = true := by decide +kernel
theorem aX1_init (k : Nat) {pc : Nat} {i : Jvm.ClassFile.Instr} {len : Nat} (hk : iX1_init[k]? = some (pc, i, len)) : x_at xMM 19 pc i len yX1_init 1 none := ⟨cX1_init, rfl, x_il_ok bX1_init dX1_init k hk⟩
theorem aX1_init_25 : x_at xMM 19 25 (.multianewarray 19 2) 4 yX1_init 1 none := ⟨cX1_init, rfl, by decide +kernel⟩
theorem aX1_init_35 : x_at xMM 19 35 (.multianewarray 19 2) 4 yX1_init 1 none := ⟨cX1_init, rfl, by decide +kernel⟩
def nX9_init : Nat := 0xb12100b52c2a1d00b52b2a1900b51800b7591600bb2a1200b51100b7590f00bb2a0b00b50bbc8000112a0300b72a
theorem bX9_init : cX9_init.data.toList.map UInt8.toNat = x_un nX9_init 46 := by decide +kernel
def iX9_init : List (Nat × Jvm.ClassFile.Instr × Nat) := [(0, .aload_n 0, 1), (1, .invokespecial 3, 3), (4, .aload_n 0, 1), (5, .sipush 128, 3), (8, .newarray .long, 2), (10, .putfield 11, 3), (13, .aload_n 0, 1), (14, .new 15, 3), (17, .dup, 1), (18, .invokespecial 17, 3), (21, .putfield 18, 3), (24, .aload_n 0, 1), (25, .new 22, 3), (28, .dup, 1), (29, .invokespecial 24, 3), (32, .putfield 25, 3), (35, .aload_n 0, 1), (36, .aload_n 1, 1), (37, .putfield 29, 3), (40, .aload_n 0, 1), (41, .aload_n 2, 1), (42, .putfield 33, 3), (45, .return_, 1)]
theorem dX9_init : x_il nX9_init 46 iX9_init = true := by decide +kernel
theorem aX9_init (k : Nat) {pc : Nat} {i : Jvm.ClassFile.Instr} {len : Nat} (hk : iX9_init[k]? = some (pc, i, len)) : x_at xMM 84 pc i len yX9_init 3 none := ⟨cX9_init, rfl, x_il_ok bX9_init dX9_init k hk⟩
def nX2_init : Nat := 0xb11d00b52c2a1900b52b2a1500b51400b7591200bb2a0c00b50b00b7590900bb2a0300b72a
theorem bX2_init : cX2_init.data.toList.map UInt8.toNat = x_un nX2_init 37 := by decide +kernel
def iX2_init : List (Nat × Jvm.ClassFile.Instr × Nat) := [(0, .aload_n 0, 1), (1, .invokespecial 3, 3), (4, .aload_n 0, 1), (5, .new 9, 3), (8, .dup, 1), (9, .invokespecial 11, 3), (12, .putfield 12, 3), (15, .aload_n 0, 1), (16, .new 18, 3), (19, .dup, 1), (20, .invokespecial 20, 3), (23, .putfield 21, 3), (26, .aload_n 0, 1), (27, .aload_n 1, 1), (28, .putfield 25, 3), (31, .aload_n 0, 1), (32, .aload_n 2, 1), (33, .putfield 29, 3), (36, .return_, 1)]
theorem dX2_init : x_il nX2_init 37 iX2_init = true := by decide +kernel
theorem aX2_init (k : Nat) {pc : Nat} {i : Jvm.ClassFile.Instr} {len : Nat} (hk : iX2_init[k]? = some (pc, i, len)) : x_at xMM 26 pc i len yX2_init 3 none := ⟨cX2_init, rfl, x_il_ok bX2_init dX2_init k hk⟩
def nX4_init : Nat := 0xb11800b51600bd032a1200b50abc40102a0c00b50b00b7590900bb2a0300b72a
theorem bX4_init : cX4_init.data.toList.map UInt8.toNat = x_un nX4_init 32 := by decide +kernel
def iX4_init : List (Nat × Jvm.ClassFile.Instr × Nat) := [(0, .aload_n 0, 1), (1, .invokespecial 3, 3), (4, .aload_n 0, 1), (5, .new 9, 3), (8, .dup, 1), (9, .invokespecial 11, 3), (12, .putfield 12, 3), (15, .aload_n 0, 1), (16, .bipush 64, 2), (18, .newarray .int, 2), (20, .putfield 18, 3), (23, .aload_n 0, 1), (24, .iconst 0, 1), (25, .anewarray 22, 3), (28, .putfield 24, 3), (31, .return_, 1)]
theorem dX4_init : x_il nX4_init 32 iX4_init = true := by decide +kernel
theorem aX4_init (k : Nat) {pc : Nat} {i : Jvm.ClassFile.Instr} {len : Nat} (hk : iX4_init[k]? = some (pc, i, len)) : x_at xMM 35 pc i len yX4_init 1 none := ⟨cX4_init, rfl, x_il_ok bX4_init dX4_init k hk⟩
def nX7_init : Nat := 0xb11900b50abc032a1600b50abce903112a1300b50abce903112a0f00b50bbce903112a0900b50abce903112a0300b72a
theorem bX7_init : cX7_init.data.toList.map UInt8.toNat = x_un nX7_init 48 := by decide +kernel
def iX7_init : List (Nat × Jvm.ClassFile.Instr × Nat) := [(0, .aload_n 0, 1), (1, .invokespecial 3, 3), (4, .aload_n 0, 1), (5, .sipush 1001, 3), (8, .newarray .int, 2), (10, .putfield 9, 3), (13, .aload_n 0, 1), (14, .sipush 1001, 3), (17, .newarray .long, 2), (19, .putfield 15, 3), (22, .aload_n 0, 1), (23, .sipush 1001, 3), (26, .newarray .int, 2), (28, .putfield 19, 3), (31, .aload_n 0, 1), (32, .sipush 1001, 3), (35, .newarray .int, 2), (37, .putfield 22, 3), (40, .aload_n 0, 1), (41, .iconst 0, 1), (42, .newarray .int, 2), (44, .putfield 25, 3), (47, .return_, 1)]
theorem dX7_init : x_il nX7_init 48 iX7_init = true := by decide +kernel
theorem aX7_init (k : Nat) {pc : Nat} {i : Jvm.ClassFile.Instr} {len : Nat} (hk : iX7_init[k]? = some (pc, i, len)) : x_at xMM 64 pc i len yX7_init 1 none := ⟨cX7_init, rfl, x_il_ok bX7_init dX7_init k hk⟩
def nX0_init : Nat := 0xb10900b50abc5802112a0300b72a
theorem bX0_init : cX0_init.data.toList.map UInt8.toNat = x_un nX0_init 14 := by decide +kernel
def iX0_init : List (Nat × Jvm.ClassFile.Instr × Nat) := [(0, .aload_n 0, 1), (1, .invokespecial 3, 3), (4, .aload_n 0, 1), (5, .sipush 600, 3), (8, .newarray .int, 2), (10, .putfield 9, 3), (13, .return_, 1)]
theorem dX0_init : x_il nX0_init 14 iX0_init = true := by decide +kernel
theorem aX0_init (k : Nat) {pc : Nat} {i : Jvm.ClassFile.Instr} {len : Nat} (hk : iX0_init[k]? = some (pc, i, len)) : x_at xMM 1 pc i len yX0_init 1 none := ⟨cX0_init, rfl, x_il_ok bX0_init dX0_init k hk⟩
def nX12_init : Nat := 0xb1b800b504bc0001112ab500b504bc0001112ab200b50bbc0002112aaf00b50abc0002112aac00b50abc08102aa900b50bbc08102aa600b50abc08102aa300b50abc0001112aa000b50abc0001112a9d00b50abc0001112a9a00b50abc0001112a9700b50abca00f112a9300b504bc0c102a9000b50abc0c102a8d00b50abc0d102a8a00b50abc0c102a8700b50abc0c102a8400b50bbc0c102a8100b50abc0c102a7e00b50abc0c102a7b00b50bbc0c102a7800b50abca00f112a7500b50bbcea03112a7200b50abcea03112a6f00b50abcea03112a6c00b50bbcea03112a6900b50abcea03112a6600b50abc40102a6300b5022a6000b50abc8025112a5d00b50abc10102a5a00b50abc10102a5700b50bbc10102a5400b50abc10102a5100b5042a4e00b50abc052a4b00b50abc10102a4800b50abc10102a4500b50abc10102a4200b50abc052a3f00b50bbc052a3c00b50abc052a3900b50abc052a3600b50abc20102a3300b50abc20102a3000b50abc20102a2d00b50bbc20102a2a00b50abc20102a2700b50abc052a2400b50abc052a2100b50bbc0001112a1e00b50abce803112a1b00b5022a1700b5022a1400b50abc20102a1100b50abc004b112a0d00b50abc0010112a0700b50bbc20102a0100b72a
theorem bX12_init : cX12_init.data.toList.map UInt8.toNat = x_un nX12_init 470 := by decide +kernel
def iX12_init : List (Nat × Jvm.ClassFile.Instr × Nat) := [(0, .aload_n 0, 1), (1, .invokespecial 1, 3), (4, .aload_n 0, 1), (5, .bipush 32, 2), (7, .newarray .long, 2), (9, .putfield 7, 3), (12, .aload_n 0, 1), (13, .sipush 4096, 3), (16, .newarray .int, 2), (18, .putfield 13, 3), (21, .aload_n 0, 1), (22, .sipush 19200, 3), (25, .newarray .int, 2), (27, .putfield 17, 3), (30, .aload_n 0, 1), (31, .bipush 32, 2), (33, .newarray .int, 2), (35, .putfield 20, 3), (38, .aload_n 0, 1), (39, .iconst (-1), 1), (40, .putfield 23, 3), (43, .aload_n 0, 1), (44, .iconst (-1), 1), (45, .putfield 27, 3), (48, .aload_n 0, 1), (49, .sipush 1000, 3), (52, .newarray .int, 2), (54, .putfield 30, 3), (57, .aload_n 0, 1), (58, .sipush 256, 3), (61, .newarray .long, 2), (63, .putfield 33, 3), (66, .aload_n 0, 1), (67, .iconst 2, 1), (68, .newarray .int, 2), (70, .putfield 36, 3), (73, .aload_n 0, 1), (74, .iconst 2, 1), (75, .newarray .int, 2), (77, .putfield 39, 3), (80, .aload_n 0, 1), (81, .bipush 32, 2), (83, .newarray .int, 2), (85, .putfield 42, 3), (88, .aload_n 0, 1), (89, .bipush 32, 2), (91, .newarray .long, 2), (93, .putfield 45, 3), (96, .aload_n 0, 1), (97, .bipush 32, 2), (99, .newarray .int, 2), (101, .putfield 48, 3), (104, .aload_n 0, 1), (105, .bipush 32, 2), (107, .newarray .int, 2), (109, .putfield 51, 3), (112, .aload_n 0, 1), (113, .bipush 32, 2), (115, .newarray .int, 2), (117, .putfield 54, 3), (120, .aload_n 0, 1), (121, .iconst 2, 1), (122, .newarray .int, 2), (124, .putfield 57, 3), (127, .aload_n 0, 1), (128, .iconst 2, 1), (129, .newarray .int, 2), (131, .putfield 60, 3), (134, .aload_n 0, 1), (135, .iconst 2, 1), (136, .newarray .long, 2), (138, .putfield 63, 3), (141, .aload_n 0, 1), (142, .iconst 2, 1), (143, .newarray .int, 2), (145, .putfield 66, 3), (148, .aload_n 0, 1), (149, .bipush 16, 2), (151, .newarray .int, 2), (153, .putfield 69, 3), (156, .aload_n 0, 1), (157, .bipush 16, 2), (159, .newarray .int, 2), (161, .putfield 72, 3), (164, .aload_n 0, 1), (165, .bipush 16, 2), (167, .newarray .int, 2), (169, .putfield 75, 3), (172, .aload_n 0, 1), (173, .iconst 2, 1), (174, .newarray .int, 2), (176, .putfield 78, 3), (179, .aload_n 0, 1), (180, .iconst 1, 1), (181, .putfield 81, 3), (184, .aload_n 0, 1), (185, .bipush 16, 2), (187, .newarray .int, 2), (189, .putfield 84, 3), (192, .aload_n 0, 1), (193, .bipush 16, 2), (195, .newarray .long, 2), (197, .putfield 87, 3), (200, .aload_n 0, 1), (201, .bipush 16, 2), (203, .newarray .int, 2), (205, .putfield 90, 3), (208, .aload_n 0, 1), (209, .bipush 16, 2), (211, .newarray .int, 2), (213, .putfield 93, 3), (216, .aload_n 0, 1), (217, .sipush 9600, 3), (220, .newarray .int, 2), (222, .putfield 96, 3), (225, .aload_n 0, 1), (226, .iconst (-1), 1), (227, .putfield 99, 3), (230, .aload_n 0, 1), (231, .bipush 64, 2), (233, .newarray .int, 2), (235, .putfield 102, 3), (238, .aload_n 0, 1), (239, .sipush 1002, 3), (242, .newarray .int, 2), (244, .putfield 105, 3), (247, .aload_n 0, 1), (248, .sipush 1002, 3), (251, .newarray .long, 2), (253, .putfield 108, 3), (256, .aload_n 0, 1), (257, .sipush 1002, 3), (260, .newarray .int, 2), (262, .putfield 111, 3), (265, .aload_n 0, 1), (266, .sipush 1002, 3), (269, .newarray .int, 2), (271, .putfield 114, 3), (274, .aload_n 0, 1), (275, .sipush 1002, 3), (278, .newarray .long, 2), (280, .putfield 117, 3), (283, .aload_n 0, 1), (284, .sipush 4000, 3), (287, .newarray .int, 2), (289, .putfield 120, 3), (292, .aload_n 0, 1), (293, .bipush 12, 2), (295, .newarray .long, 2), (297, .putfield 123, 3), (300, .aload_n 0, 1), (301, .bipush 12, 2), (303, .newarray .int, 2), (305, .putfield 126, 3), (308, .aload_n 0, 1), (309, .bipush 12, 2), (311, .newarray .int, 2), (313, .putfield 129, 3), (316, .aload_n 0, 1), (317, .bipush 12, 2), (319, .newarray .long, 2), (321, .putfield 132, 3), (324, .aload_n 0, 1), (325, .bipush 12, 2), (327, .newarray .int, 2), (329, .putfield 135, 3), (332, .aload_n 0, 1), (333, .bipush 12, 2), (335, .newarray .int, 2), (337, .putfield 138, 3), (340, .aload_n 0, 1), (341, .bipush 13, 2), (343, .newarray .int, 2), (345, .putfield 141, 3), (348, .aload_n 0, 1), (349, .bipush 12, 2), (351, .newarray .int, 2), (353, .putfield 144, 3), (356, .aload_n 0, 1), (357, .bipush 12, 2), (359, .newarray .boolean, 2), (361, .putfield 147, 3), (364, .aload_n 0, 1), (365, .sipush 4000, 3), (368, .newarray .int, 2), (370, .putfield 151, 3), (373, .aload_n 0, 1), (374, .sipush 256, 3), (377, .newarray .int, 2), (379, .putfield 154, 3), (382, .aload_n 0, 1), (383, .sipush 256, 3), (386, .newarray .int, 2), (388, .putfield 157, 3), (391, .aload_n 0, 1), (392, .sipush 256, 3), (395, .newarray .int, 2), (397, .putfield 160, 3), (400, .aload_n 0, 1), (401, .sipush 256, 3), (404, .newarray .int, 2), (406, .putfield 163, 3), (409, .aload_n 0, 1), (410, .bipush 8, 2), (412, .newarray .int, 2), (414, .putfield 166, 3), (417, .aload_n 0, 1), (418, .bipush 8, 2), (420, .newarray .long, 2), (422, .putfield 169, 3), (425, .aload_n 0, 1), (426, .bipush 8, 2), (428, .newarray .int, 2), (430, .putfield 172, 3), (433, .aload_n 0, 1), (434, .sipush 512, 3), (437, .newarray .int, 2), (439, .putfield 175, 3), (442, .aload_n 0, 1), (443, .sipush 512, 3), (446, .newarray .long, 2), (448, .putfield 178, 3), (451, .aload_n 0, 1), (452, .sipush 256, 3), (455, .newarray .boolean, 2), (457, .putfield 181, 3), (460, .aload_n 0, 1), (461, .sipush 256, 3), (464, .newarray .boolean, 2), (466, .putfield 184, 3), (469, .return_, 1)]
theorem dX12_init : x_il nX12_init 470 iX12_init = true := by decide +kernel
theorem aX12_init (k : Nat) {pc : Nat} {i : Jvm.ClassFile.Instr} {len : Nat} (hk : iX12_init[k]? = some (pc, i, len)) : x_at xMM 152 pc i len yX12_init 1 none := ⟨cX12_init, rfl, x_il_ok bX12_init dX12_init k hk⟩
set_option maxHeartbeats 8000000 in
set_option maxRecDepth 100000 in
theorem ct_desk {sk : xK} {base d : Nat} : hw sk base (d + 4) none 117 0 [(0, .ref (base + 0))] [] (1, 13, hsF, fI [], fZ, fR []) (fun v s => v = none ∧ s = (121, 10702, hsF, fI [(23, 5, ((-1) : Int32)), (23, 4, ((-1) : Int32)), (21, 3, ((-1) : Int32)), (21, 2, ((-1) : Int32)), (21, 1, ((-1) : Int32)), (21, 0, ((-1) : Int32))], fZ, fR [(0, 4, some 119), (119, 0, some 120), (0, 3, some 110), (110, 2, some 118), (110, 1, some 117), (110, 0, some 111), (111, 5, some 116), (111, 3, some 115), (111, 2, some 114), (111, 1, some 113), (111, 0, some 112), (0, 2, some 90), (90, 1, some 48), (90, 0, some 23), (90, 3, some 109), (90, 2, some 91), (92, 15, some 108), (92, 14, some 107), (92, 13, some 106), (92, 12, some 105), (92, 11, some 104), (92, 10, some 103), (92, 9, some 102), (92, 8, some 101), (92, 7, some 100), (92, 6, some 99), (92, 5, some 98), (92, 4, some 97), (92, 3, some 96), (92, 2, some 95), (92, 1, some 94), (92, 0, some 93), (91, 0, some 92), (0, 1, some 48), (48, 1, some 49), (48, 0, some 23), (48, 4, some 72), (73, 15, some 89), (73, 14, some 88), (73, 13, some 87), (73, 12, some 86), (73, 11, some 85), (73, 10, some 84), (73, 9, some 83), (73, 8, some 82), (73, 7, some 81), (73, 6, some 80), (73, 5, some 79), (73, 4, some 78), (73, 3, some 77), (73, 2, some 76), (73, 1, some 75), (73, 0, some 74), (72, 0, some 73), (48, 3, some 71), (48, 2, some 70), (49, 1, none), (49, 0, some 23), (49, 4, some 52), (53, 15, some 69), (53, 14, some 68), (53, 13, some 67), (53, 12, some 66), (53, 11, some 65), (53, 10, some 64), (53, 9, some 63), (53, 8, some 62), (53, 7, some 61), (53, 6, some 60), (53, 5, some 59), (53, 4, some 58), (53, 3, some 57), (53, 2, some 56), (53, 1, some 55), (53, 0, some 54), (52, 0, some 53), (49, 3, some 51), (49, 2, some 50), (0, 0, some 23), (23, 3, some 43), (23, 2, some 26), (23, 1, some 25), (23, 0, some 24), (0, 11, some 22), (0, 8, some 21), (0, 7, some 20), (0, 6, some 19), (0, 5, some 1), (2, 15, some 18), (2, 14, some 17), (2, 13, some 16), (2, 12, some 15), (2, 11, some 14), (2, 10, some 13), (2, 9, some 12), (2, 8, some 11), (2, 7, some 10), (2, 6, some 9), (2, 5, some 8), (2, 4, some 7), (2, 3, some 6), (2, 2, some 5), (2, 1, some 4), (2, 0, some 3), (1, 0, some 2)])) := by
  refine hw_aloadn (aX11_init 0 rfl) rfl ?_
  refine hw_obj (aX11_init 1 rfl) (tin_1 (i := 27) rfl rfl) (tin_1 (i := 28) rfl rfl) (tin_1 (i := 29) rfl rfl) (Nat.le_of_ble_eq_true rfl) ?_
  refine hw_aloadn (aX11_init 2 rfl) rfl ?_
  refine cw_new (t := 8) (n2 := 2) (sl2 := 16) (aX11_init 3 rfl) rfl (tin_1 (i := 30) rfl rfl) (tin_1 (i := 2) rfl rfl) rfl rfl rfl rfl rfl (by decide) (by decide) ?_
  refine xw_dup (aX11_init 4 rfl) rfl ?_
  refine hw_callN (j2 := 78) (Φ2 := fun v s => v = none ∧ s = (19, 128, hsF, fI [], fZ, fR [(2, 15, some 18), (2, 14, some 17), (2, 13, some 16), (2, 12, some 15), (2, 11, some 14), (2, 10, some 13), (2, 9, some 12), (2, 8, some 11), (2, 7, some 10), (2, 6, some 9), (2, 5, some 8), (2, 4, some 7), (2, 3, some 6), (2, 2, some 5), (2, 1, some 4), (2, 0, some 3), (1, 0, some 2)])) (Bs := []) (rest := [.ref (base + 1), .ref (base + 0)]) (aX11_init 5 rfl) wc_RX11_9 (by decide) rfl wi_yX8_init rfl rfl rfl (Nat.le_of_ble_eq_true rfl) (Nat.le_of_ble_eq_true rfl) ?_ (fun v s hv => ?_)
  · refine hw_aloadn (aX8_init 0 rfl) rfl ?_
    refine hw_obj (aX8_init 1 rfl) (tin_1 (i := 35) rfl rfl) (tin_1 (i := 28) rfl rfl) (tin_1 (i := 29) rfl rfl) (Nat.le_of_ble_eq_true rfl) ?_
    refine hw_aloadn (aX8_init 2 rfl) rfl ?_
    refine hw_bp (v := (16 : Int32)) (aX8_init 3 rfl) (by decide) ?_
    refine cw_newq (k := 3) (z := 16) (n2 := 3) (sl2 := 32) (aX8_init 4 rfl) rfl (by decide) (tin_1 (i := 36) rfl rfl) (nin_1 (i := 37) rfl rfl) (by decide) (by decide) (by decide) rfl rfl rfl rfl rfl (by decide) (by decide) ?_
    refine hv_putr (r := some 2) (aX8_init 5 rfl) wf_RX8_13 (by decide : 1 < 3) (rfl : hsF 1 = (8, 0)) (by decide) (by first | exact Or.inl ⟨_, rfl⟩ | exact Or.inr ⟨_, rfl⟩) (Or.inr ⟨rfl, rfl, rfl, wf_RX8_13F⟩) (fun F2 u1 => ?_)
    rw [fR_up] at u1; subst u1
    refine hw_ic (v := (0 : Int32)) (aX8_init 6 rfl) (by decide) ?_
    refine xw_istoren (L2 := [(1, .int (0 : Int32)), (0, .ref (base + 1))]) (aX8_init 7 rfl) (by decide) rfl ?_
    refine xw_iloadn (aX8_init 8 rfl) rfl ?_
    refine hw_aloadn (aX8_init 9 rfl) rfl ?_
    refine hw_get (v := .ref (base + 2)) (aX8_init 10 rfl) wf_RX8_13 (by decide : 1 < 3) (rfl : hsF 1 = (8, 0)) (by decide) rfl ?_
    refine hw_alen (k := 3) (z := 16) (v := (16 : Int32)) (aX8_init 11 rfl) (by decide : 2 < 3) (rfl : hsF 2 = (103, 16)) (by decide) (by decide) ?_
    refine hw_icge (tgt := 43) (aX8_init 12 rfl) (by decide) (by decide : (0 : Int32).toInt = 0) (by decide : (16 : Int32).toInt = 16) (fun cd => ?_) (fun cd => ?_)
    · exfalso; omega
    refine hw_aloadn (aX8_init 13 rfl) rfl ?_
    refine hw_get (v := .ref (base + 2)) (aX8_init 14 rfl) wf_RX8_13 (by decide : 1 < 3) (rfl : hsF 1 = (8, 0)) (by decide) rfl ?_
    refine xw_iloadn (aX8_init 15 rfl) rfl ?_
    refine cw_new (t := 5) (n2 := 4) (sl2 := 38) (aX8_init 16 rfl) rfl (tin_1 (i := 36) rfl rfl) (tin_1 (i := 3) rfl rfl) rfl rfl rfl rfl rfl (by decide) (by decide) ?_
    refine xw_dup (aX8_init 17 rfl) rfl ?_
    refine hw_callN (j2 := 58) (Φ2 := fun v s => v = none ∧ s = (4, 38, hsF, fI [], fZ, fR [(1, 0, some 2)])) (Bs := []) (rest := [.ref (base + 3), .int (0 : Int32), .ref (base + 2)]) (aX8_init 18 rfl) wc_RX8_17 (by decide) rfl wi_yX5_init rfl rfl rfl (Nat.le_of_ble_eq_true rfl) (Nat.le_of_ble_eq_true rfl) ?_ (fun v s hv => ?_)
    · refine hw_aloadn (aX5_init 0 rfl) rfl ?_
      refine hw_obj (aX5_init 1 rfl) (tin_1 (i := 42) rfl rfl) (tin_1 (i := 28) rfl rfl) (tin_1 (i := 29) rfl rfl) (Nat.le_of_ble_eq_true rfl) ?_
      refine xw_vret (aX5_init 2 rfl) rfl ?_
      exact ⟨rfl, rfl⟩
    obtain ⟨rfl, rfl⟩ := hv
    show hw sk base _ _ _ _ _ [.ref (base + 3), .int (0 : Int32), .ref (base + 2)] _ _
    refine hv_aast (k := 3) (i2 := 0) (aX8_init 19 rfl) (by decide : 2 < 4) (rfl : hsF 2 = (103, 16)) rfl (by decide) (by decide : 3 < 4) (rfl : hsF 3 = (5, 0)) rfl (h_in (by decide : (0 : Int32).toInt = 0) (by decide) (by decide)) (by decide) (fun F4 u3 => ?_)
    rw [fR_up] at u3; subst u3
    refine xw_iinc (L2 := [(1, .int (1 : Int32)), (0, .ref (base + 1))]) (aX8_init 20 rfl) rfl (by decide) (by rw [show ((0 : Int32) + Int32.ofInt (1)) = (1 : Int32) from by decide]; rfl) ?_
    refine xw_goto (tgt := 15) (aX8_init 21 rfl) (by decide) ?_
    refine xw_iloadn (aX8_init 8 rfl) rfl ?_
    refine hw_aloadn (aX8_init 9 rfl) rfl ?_
    refine hw_get (v := .ref (base + 2)) (aX8_init 10 rfl) wf_RX8_13 (by decide : 1 < 4) (rfl : hsF 1 = (8, 0)) (by decide) rfl ?_
    refine hw_alen (k := 3) (z := 16) (v := (16 : Int32)) (aX8_init 11 rfl) (by decide : 2 < 4) (rfl : hsF 2 = (103, 16)) (by decide) (by decide) ?_
    refine hw_icge (tgt := 43) (aX8_init 12 rfl) (by decide) (by decide : (1 : Int32).toInt = 1) (by decide : (16 : Int32).toInt = 16) (fun cd => ?_) (fun cd => ?_)
    · exfalso; omega
    refine hw_aloadn (aX8_init 13 rfl) rfl ?_
    refine hw_get (v := .ref (base + 2)) (aX8_init 14 rfl) wf_RX8_13 (by decide : 1 < 4) (rfl : hsF 1 = (8, 0)) (by decide) rfl ?_
    refine xw_iloadn (aX8_init 15 rfl) rfl ?_
    refine cw_new (t := 5) (n2 := 5) (sl2 := 44) (aX8_init 16 rfl) rfl (tin_1 (i := 36) rfl rfl) (tin_1 (i := 3) rfl rfl) rfl rfl rfl rfl rfl (by decide) (by decide) ?_
    refine xw_dup (aX8_init 17 rfl) rfl ?_
    refine hw_callN (j2 := 58) (Φ2 := fun v s => v = none ∧ s = (5, 44, hsF, fI [], fZ, fR [(2, 0, some 3), (1, 0, some 2)])) (Bs := []) (rest := [.ref (base + 4), .int (1 : Int32), .ref (base + 2)]) (aX8_init 18 rfl) wc_RX8_17 (by decide) rfl wi_yX5_init rfl rfl rfl (Nat.le_of_ble_eq_true rfl) (Nat.le_of_ble_eq_true rfl) ?_ (fun v s hv => ?_)
    · refine hw_aloadn (aX5_init 0 rfl) rfl ?_
      refine hw_obj (aX5_init 1 rfl) (tin_1 (i := 42) rfl rfl) (tin_1 (i := 28) rfl rfl) (tin_1 (i := 29) rfl rfl) (Nat.le_of_ble_eq_true rfl) ?_
      refine xw_vret (aX5_init 2 rfl) rfl ?_
      exact ⟨rfl, rfl⟩
    obtain ⟨rfl, rfl⟩ := hv
    show hw sk base _ _ _ _ _ [.ref (base + 4), .int (1 : Int32), .ref (base + 2)] _ _
    refine hv_aast (k := 3) (i2 := 1) (aX8_init 19 rfl) (by decide : 2 < 5) (rfl : hsF 2 = (103, 16)) rfl (by decide) (by decide : 4 < 5) (rfl : hsF 4 = (5, 0)) rfl (h_in (by decide : (1 : Int32).toInt = 1) (by decide) (by decide)) (by decide) (fun F6 u5 => ?_)
    rw [fR_up] at u5; subst u5
    refine xw_iinc (L2 := [(1, .int (2 : Int32)), (0, .ref (base + 1))]) (aX8_init 20 rfl) rfl (by decide) (by rw [show ((1 : Int32) + Int32.ofInt (1)) = (2 : Int32) from by decide]; rfl) ?_
    refine xw_goto (tgt := 15) (aX8_init 21 rfl) (by decide) ?_
    refine xw_iloadn (aX8_init 8 rfl) rfl ?_
    refine hw_aloadn (aX8_init 9 rfl) rfl ?_
    refine hw_get (v := .ref (base + 2)) (aX8_init 10 rfl) wf_RX8_13 (by decide : 1 < 5) (rfl : hsF 1 = (8, 0)) (by decide) rfl ?_
    refine hw_alen (k := 3) (z := 16) (v := (16 : Int32)) (aX8_init 11 rfl) (by decide : 2 < 5) (rfl : hsF 2 = (103, 16)) (by decide) (by decide) ?_
    refine hw_icge (tgt := 43) (aX8_init 12 rfl) (by decide) (by decide : (2 : Int32).toInt = 2) (by decide : (16 : Int32).toInt = 16) (fun cd => ?_) (fun cd => ?_)
    · exfalso; omega
    refine hw_aloadn (aX8_init 13 rfl) rfl ?_
    refine hw_get (v := .ref (base + 2)) (aX8_init 14 rfl) wf_RX8_13 (by decide : 1 < 5) (rfl : hsF 1 = (8, 0)) (by decide) rfl ?_
    refine xw_iloadn (aX8_init 15 rfl) rfl ?_
    refine cw_new (t := 5) (n2 := 6) (sl2 := 50) (aX8_init 16 rfl) rfl (tin_1 (i := 36) rfl rfl) (tin_1 (i := 3) rfl rfl) rfl rfl rfl rfl rfl (by decide) (by decide) ?_
    refine xw_dup (aX8_init 17 rfl) rfl ?_
    refine hw_callN (j2 := 58) (Φ2 := fun v s => v = none ∧ s = (6, 50, hsF, fI [], fZ, fR [(2, 1, some 4), (2, 0, some 3), (1, 0, some 2)])) (Bs := []) (rest := [.ref (base + 5), .int (2 : Int32), .ref (base + 2)]) (aX8_init 18 rfl) wc_RX8_17 (by decide) rfl wi_yX5_init rfl rfl rfl (Nat.le_of_ble_eq_true rfl) (Nat.le_of_ble_eq_true rfl) ?_ (fun v s hv => ?_)
    · refine hw_aloadn (aX5_init 0 rfl) rfl ?_
      refine hw_obj (aX5_init 1 rfl) (tin_1 (i := 42) rfl rfl) (tin_1 (i := 28) rfl rfl) (tin_1 (i := 29) rfl rfl) (Nat.le_of_ble_eq_true rfl) ?_
      refine xw_vret (aX5_init 2 rfl) rfl ?_
      exact ⟨rfl, rfl⟩
    obtain ⟨rfl, rfl⟩ := hv
    show hw sk base _ _ _ _ _ [.ref (base + 5), .int (2 : Int32), .ref (base + 2)] _ _
    refine hv_aast (k := 3) (i2 := 2) (aX8_init 19 rfl) (by decide : 2 < 6) (rfl : hsF 2 = (103, 16)) rfl (by decide) (by decide : 5 < 6) (rfl : hsF 5 = (5, 0)) rfl (h_in (by decide : (2 : Int32).toInt = 2) (by decide) (by decide)) (by decide) (fun F8 u7 => ?_)
    rw [fR_up] at u7; subst u7
    refine xw_iinc (L2 := [(1, .int (3 : Int32)), (0, .ref (base + 1))]) (aX8_init 20 rfl) rfl (by decide) (by rw [show ((2 : Int32) + Int32.ofInt (1)) = (3 : Int32) from by decide]; rfl) ?_
    refine xw_goto (tgt := 15) (aX8_init 21 rfl) (by decide) ?_
    refine xw_iloadn (aX8_init 8 rfl) rfl ?_
    refine hw_aloadn (aX8_init 9 rfl) rfl ?_
    refine hw_get (v := .ref (base + 2)) (aX8_init 10 rfl) wf_RX8_13 (by decide : 1 < 6) (rfl : hsF 1 = (8, 0)) (by decide) rfl ?_
    refine hw_alen (k := 3) (z := 16) (v := (16 : Int32)) (aX8_init 11 rfl) (by decide : 2 < 6) (rfl : hsF 2 = (103, 16)) (by decide) (by decide) ?_
    refine hw_icge (tgt := 43) (aX8_init 12 rfl) (by decide) (by decide : (3 : Int32).toInt = 3) (by decide : (16 : Int32).toInt = 16) (fun cd => ?_) (fun cd => ?_)
    · exfalso; omega
    refine hw_aloadn (aX8_init 13 rfl) rfl ?_
    refine hw_get (v := .ref (base + 2)) (aX8_init 14 rfl) wf_RX8_13 (by decide : 1 < 6) (rfl : hsF 1 = (8, 0)) (by decide) rfl ?_
    refine xw_iloadn (aX8_init 15 rfl) rfl ?_
    refine cw_new (t := 5) (n2 := 7) (sl2 := 56) (aX8_init 16 rfl) rfl (tin_1 (i := 36) rfl rfl) (tin_1 (i := 3) rfl rfl) rfl rfl rfl rfl rfl (by decide) (by decide) ?_
    refine xw_dup (aX8_init 17 rfl) rfl ?_
    refine hw_callN (j2 := 58) (Φ2 := fun v s => v = none ∧ s = (7, 56, hsF, fI [], fZ, fR [(2, 2, some 5), (2, 1, some 4), (2, 0, some 3), (1, 0, some 2)])) (Bs := []) (rest := [.ref (base + 6), .int (3 : Int32), .ref (base + 2)]) (aX8_init 18 rfl) wc_RX8_17 (by decide) rfl wi_yX5_init rfl rfl rfl (Nat.le_of_ble_eq_true rfl) (Nat.le_of_ble_eq_true rfl) ?_ (fun v s hv => ?_)
    · refine hw_aloadn (aX5_init 0 rfl) rfl ?_
      refine hw_obj (aX5_init 1 rfl) (tin_1 (i := 42) rfl rfl) (tin_1 (i := 28) rfl rfl) (tin_1 (i := 29) rfl rfl) (Nat.le_of_ble_eq_true rfl) ?_
      refine xw_vret (aX5_init 2 rfl) rfl ?_
      exact ⟨rfl, rfl⟩
    obtain ⟨rfl, rfl⟩ := hv
    show hw sk base _ _ _ _ _ [.ref (base + 6), .int (3 : Int32), .ref (base + 2)] _ _
    refine hv_aast (k := 3) (i2 := 3) (aX8_init 19 rfl) (by decide : 2 < 7) (rfl : hsF 2 = (103, 16)) rfl (by decide) (by decide : 6 < 7) (rfl : hsF 6 = (5, 0)) rfl (h_in (by decide : (3 : Int32).toInt = 3) (by decide) (by decide)) (by decide) (fun F10 u9 => ?_)
    rw [fR_up] at u9; subst u9
    refine xw_iinc (L2 := [(1, .int (4 : Int32)), (0, .ref (base + 1))]) (aX8_init 20 rfl) rfl (by decide) (by rw [show ((3 : Int32) + Int32.ofInt (1)) = (4 : Int32) from by decide]; rfl) ?_
    refine xw_goto (tgt := 15) (aX8_init 21 rfl) (by decide) ?_
    refine xw_iloadn (aX8_init 8 rfl) rfl ?_
    refine hw_aloadn (aX8_init 9 rfl) rfl ?_
    refine hw_get (v := .ref (base + 2)) (aX8_init 10 rfl) wf_RX8_13 (by decide : 1 < 7) (rfl : hsF 1 = (8, 0)) (by decide) rfl ?_
    refine hw_alen (k := 3) (z := 16) (v := (16 : Int32)) (aX8_init 11 rfl) (by decide : 2 < 7) (rfl : hsF 2 = (103, 16)) (by decide) (by decide) ?_
    refine hw_icge (tgt := 43) (aX8_init 12 rfl) (by decide) (by decide : (4 : Int32).toInt = 4) (by decide : (16 : Int32).toInt = 16) (fun cd => ?_) (fun cd => ?_)
    · exfalso; omega
    refine hw_aloadn (aX8_init 13 rfl) rfl ?_
    refine hw_get (v := .ref (base + 2)) (aX8_init 14 rfl) wf_RX8_13 (by decide : 1 < 7) (rfl : hsF 1 = (8, 0)) (by decide) rfl ?_
    refine xw_iloadn (aX8_init 15 rfl) rfl ?_
    refine cw_new (t := 5) (n2 := 8) (sl2 := 62) (aX8_init 16 rfl) rfl (tin_1 (i := 36) rfl rfl) (tin_1 (i := 3) rfl rfl) rfl rfl rfl rfl rfl (by decide) (by decide) ?_
    refine xw_dup (aX8_init 17 rfl) rfl ?_
    refine hw_callN (j2 := 58) (Φ2 := fun v s => v = none ∧ s = (8, 62, hsF, fI [], fZ, fR [(2, 3, some 6), (2, 2, some 5), (2, 1, some 4), (2, 0, some 3), (1, 0, some 2)])) (Bs := []) (rest := [.ref (base + 7), .int (4 : Int32), .ref (base + 2)]) (aX8_init 18 rfl) wc_RX8_17 (by decide) rfl wi_yX5_init rfl rfl rfl (Nat.le_of_ble_eq_true rfl) (Nat.le_of_ble_eq_true rfl) ?_ (fun v s hv => ?_)
    · refine hw_aloadn (aX5_init 0 rfl) rfl ?_
      refine hw_obj (aX5_init 1 rfl) (tin_1 (i := 42) rfl rfl) (tin_1 (i := 28) rfl rfl) (tin_1 (i := 29) rfl rfl) (Nat.le_of_ble_eq_true rfl) ?_
      refine xw_vret (aX5_init 2 rfl) rfl ?_
      exact ⟨rfl, rfl⟩
    obtain ⟨rfl, rfl⟩ := hv
    show hw sk base _ _ _ _ _ [.ref (base + 7), .int (4 : Int32), .ref (base + 2)] _ _
    refine hv_aast (k := 3) (i2 := 4) (aX8_init 19 rfl) (by decide : 2 < 8) (rfl : hsF 2 = (103, 16)) rfl (by decide) (by decide : 7 < 8) (rfl : hsF 7 = (5, 0)) rfl (h_in (by decide : (4 : Int32).toInt = 4) (by decide) (by decide)) (by decide) (fun F12 u11 => ?_)
    rw [fR_up] at u11; subst u11
    refine xw_iinc (L2 := [(1, .int (5 : Int32)), (0, .ref (base + 1))]) (aX8_init 20 rfl) rfl (by decide) (by rw [show ((4 : Int32) + Int32.ofInt (1)) = (5 : Int32) from by decide]; rfl) ?_
    refine xw_goto (tgt := 15) (aX8_init 21 rfl) (by decide) ?_
    refine xw_iloadn (aX8_init 8 rfl) rfl ?_
    refine hw_aloadn (aX8_init 9 rfl) rfl ?_
    refine hw_get (v := .ref (base + 2)) (aX8_init 10 rfl) wf_RX8_13 (by decide : 1 < 8) (rfl : hsF 1 = (8, 0)) (by decide) rfl ?_
    refine hw_alen (k := 3) (z := 16) (v := (16 : Int32)) (aX8_init 11 rfl) (by decide : 2 < 8) (rfl : hsF 2 = (103, 16)) (by decide) (by decide) ?_
    refine hw_icge (tgt := 43) (aX8_init 12 rfl) (by decide) (by decide : (5 : Int32).toInt = 5) (by decide : (16 : Int32).toInt = 16) (fun cd => ?_) (fun cd => ?_)
    · exfalso; omega
    refine hw_aloadn (aX8_init 13 rfl) rfl ?_
    refine hw_get (v := .ref (base + 2)) (aX8_init 14 rfl) wf_RX8_13 (by decide : 1 < 8) (rfl : hsF 1 = (8, 0)) (by decide) rfl ?_
    refine xw_iloadn (aX8_init 15 rfl) rfl ?_
    refine cw_new (t := 5) (n2 := 9) (sl2 := 68) (aX8_init 16 rfl) rfl (tin_1 (i := 36) rfl rfl) (tin_1 (i := 3) rfl rfl) rfl rfl rfl rfl rfl (by decide) (by decide) ?_
    refine xw_dup (aX8_init 17 rfl) rfl ?_
    refine hw_callN (j2 := 58) (Φ2 := fun v s => v = none ∧ s = (9, 68, hsF, fI [], fZ, fR [(2, 4, some 7), (2, 3, some 6), (2, 2, some 5), (2, 1, some 4), (2, 0, some 3), (1, 0, some 2)])) (Bs := []) (rest := [.ref (base + 8), .int (5 : Int32), .ref (base + 2)]) (aX8_init 18 rfl) wc_RX8_17 (by decide) rfl wi_yX5_init rfl rfl rfl (Nat.le_of_ble_eq_true rfl) (Nat.le_of_ble_eq_true rfl) ?_ (fun v s hv => ?_)
    · refine hw_aloadn (aX5_init 0 rfl) rfl ?_
      refine hw_obj (aX5_init 1 rfl) (tin_1 (i := 42) rfl rfl) (tin_1 (i := 28) rfl rfl) (tin_1 (i := 29) rfl rfl) (Nat.le_of_ble_eq_true rfl) ?_
      refine xw_vret (aX5_init 2 rfl) rfl ?_
      exact ⟨rfl, rfl⟩
    obtain ⟨rfl, rfl⟩ := hv
    show hw sk base _ _ _ _ _ [.ref (base + 8), .int (5 : Int32), .ref (base + 2)] _ _
    refine hv_aast (k := 3) (i2 := 5) (aX8_init 19 rfl) (by decide : 2 < 9) (rfl : hsF 2 = (103, 16)) rfl (by decide) (by decide : 8 < 9) (rfl : hsF 8 = (5, 0)) rfl (h_in (by decide : (5 : Int32).toInt = 5) (by decide) (by decide)) (by decide) (fun F14 u13 => ?_)
    rw [fR_up] at u13; subst u13
    refine xw_iinc (L2 := [(1, .int (6 : Int32)), (0, .ref (base + 1))]) (aX8_init 20 rfl) rfl (by decide) (by rw [show ((5 : Int32) + Int32.ofInt (1)) = (6 : Int32) from by decide]; rfl) ?_
    refine xw_goto (tgt := 15) (aX8_init 21 rfl) (by decide) ?_
    refine xw_iloadn (aX8_init 8 rfl) rfl ?_
    refine hw_aloadn (aX8_init 9 rfl) rfl ?_
    refine hw_get (v := .ref (base + 2)) (aX8_init 10 rfl) wf_RX8_13 (by decide : 1 < 9) (rfl : hsF 1 = (8, 0)) (by decide) rfl ?_
    refine hw_alen (k := 3) (z := 16) (v := (16 : Int32)) (aX8_init 11 rfl) (by decide : 2 < 9) (rfl : hsF 2 = (103, 16)) (by decide) (by decide) ?_
    refine hw_icge (tgt := 43) (aX8_init 12 rfl) (by decide) (by decide : (6 : Int32).toInt = 6) (by decide : (16 : Int32).toInt = 16) (fun cd => ?_) (fun cd => ?_)
    · exfalso; omega
    refine hw_aloadn (aX8_init 13 rfl) rfl ?_
    refine hw_get (v := .ref (base + 2)) (aX8_init 14 rfl) wf_RX8_13 (by decide : 1 < 9) (rfl : hsF 1 = (8, 0)) (by decide) rfl ?_
    refine xw_iloadn (aX8_init 15 rfl) rfl ?_
    refine cw_new (t := 5) (n2 := 10) (sl2 := 74) (aX8_init 16 rfl) rfl (tin_1 (i := 36) rfl rfl) (tin_1 (i := 3) rfl rfl) rfl rfl rfl rfl rfl (by decide) (by decide) ?_
    refine xw_dup (aX8_init 17 rfl) rfl ?_
    refine hw_callN (j2 := 58) (Φ2 := fun v s => v = none ∧ s = (10, 74, hsF, fI [], fZ, fR [(2, 5, some 8), (2, 4, some 7), (2, 3, some 6), (2, 2, some 5), (2, 1, some 4), (2, 0, some 3), (1, 0, some 2)])) (Bs := []) (rest := [.ref (base + 9), .int (6 : Int32), .ref (base + 2)]) (aX8_init 18 rfl) wc_RX8_17 (by decide) rfl wi_yX5_init rfl rfl rfl (Nat.le_of_ble_eq_true rfl) (Nat.le_of_ble_eq_true rfl) ?_ (fun v s hv => ?_)
    · refine hw_aloadn (aX5_init 0 rfl) rfl ?_
      refine hw_obj (aX5_init 1 rfl) (tin_1 (i := 42) rfl rfl) (tin_1 (i := 28) rfl rfl) (tin_1 (i := 29) rfl rfl) (Nat.le_of_ble_eq_true rfl) ?_
      refine xw_vret (aX5_init 2 rfl) rfl ?_
      exact ⟨rfl, rfl⟩
    obtain ⟨rfl, rfl⟩ := hv
    show hw sk base _ _ _ _ _ [.ref (base + 9), .int (6 : Int32), .ref (base + 2)] _ _
    refine hv_aast (k := 3) (i2 := 6) (aX8_init 19 rfl) (by decide : 2 < 10) (rfl : hsF 2 = (103, 16)) rfl (by decide) (by decide : 9 < 10) (rfl : hsF 9 = (5, 0)) rfl (h_in (by decide : (6 : Int32).toInt = 6) (by decide) (by decide)) (by decide) (fun F16 u15 => ?_)
    rw [fR_up] at u15; subst u15
    refine xw_iinc (L2 := [(1, .int (7 : Int32)), (0, .ref (base + 1))]) (aX8_init 20 rfl) rfl (by decide) (by rw [show ((6 : Int32) + Int32.ofInt (1)) = (7 : Int32) from by decide]; rfl) ?_
    refine xw_goto (tgt := 15) (aX8_init 21 rfl) (by decide) ?_
    refine xw_iloadn (aX8_init 8 rfl) rfl ?_
    refine hw_aloadn (aX8_init 9 rfl) rfl ?_
    refine hw_get (v := .ref (base + 2)) (aX8_init 10 rfl) wf_RX8_13 (by decide : 1 < 10) (rfl : hsF 1 = (8, 0)) (by decide) rfl ?_
    refine hw_alen (k := 3) (z := 16) (v := (16 : Int32)) (aX8_init 11 rfl) (by decide : 2 < 10) (rfl : hsF 2 = (103, 16)) (by decide) (by decide) ?_
    refine hw_icge (tgt := 43) (aX8_init 12 rfl) (by decide) (by decide : (7 : Int32).toInt = 7) (by decide : (16 : Int32).toInt = 16) (fun cd => ?_) (fun cd => ?_)
    · exfalso; omega
    refine hw_aloadn (aX8_init 13 rfl) rfl ?_
    refine hw_get (v := .ref (base + 2)) (aX8_init 14 rfl) wf_RX8_13 (by decide : 1 < 10) (rfl : hsF 1 = (8, 0)) (by decide) rfl ?_
    refine xw_iloadn (aX8_init 15 rfl) rfl ?_
    refine cw_new (t := 5) (n2 := 11) (sl2 := 80) (aX8_init 16 rfl) rfl (tin_1 (i := 36) rfl rfl) (tin_1 (i := 3) rfl rfl) rfl rfl rfl rfl rfl (by decide) (by decide) ?_
    refine xw_dup (aX8_init 17 rfl) rfl ?_
    refine hw_callN (j2 := 58) (Φ2 := fun v s => v = none ∧ s = (11, 80, hsF, fI [], fZ, fR [(2, 6, some 9), (2, 5, some 8), (2, 4, some 7), (2, 3, some 6), (2, 2, some 5), (2, 1, some 4), (2, 0, some 3), (1, 0, some 2)])) (Bs := []) (rest := [.ref (base + 10), .int (7 : Int32), .ref (base + 2)]) (aX8_init 18 rfl) wc_RX8_17 (by decide) rfl wi_yX5_init rfl rfl rfl (Nat.le_of_ble_eq_true rfl) (Nat.le_of_ble_eq_true rfl) ?_ (fun v s hv => ?_)
    · refine hw_aloadn (aX5_init 0 rfl) rfl ?_
      refine hw_obj (aX5_init 1 rfl) (tin_1 (i := 42) rfl rfl) (tin_1 (i := 28) rfl rfl) (tin_1 (i := 29) rfl rfl) (Nat.le_of_ble_eq_true rfl) ?_
      refine xw_vret (aX5_init 2 rfl) rfl ?_
      exact ⟨rfl, rfl⟩
    obtain ⟨rfl, rfl⟩ := hv
    show hw sk base _ _ _ _ _ [.ref (base + 10), .int (7 : Int32), .ref (base + 2)] _ _
    refine hv_aast (k := 3) (i2 := 7) (aX8_init 19 rfl) (by decide : 2 < 11) (rfl : hsF 2 = (103, 16)) rfl (by decide) (by decide : 10 < 11) (rfl : hsF 10 = (5, 0)) rfl (h_in (by decide : (7 : Int32).toInt = 7) (by decide) (by decide)) (by decide) (fun F18 u17 => ?_)
    rw [fR_up] at u17; subst u17
    refine xw_iinc (L2 := [(1, .int (8 : Int32)), (0, .ref (base + 1))]) (aX8_init 20 rfl) rfl (by decide) (by rw [show ((7 : Int32) + Int32.ofInt (1)) = (8 : Int32) from by decide]; rfl) ?_
    refine xw_goto (tgt := 15) (aX8_init 21 rfl) (by decide) ?_
    refine xw_iloadn (aX8_init 8 rfl) rfl ?_
    refine hw_aloadn (aX8_init 9 rfl) rfl ?_
    refine hw_get (v := .ref (base + 2)) (aX8_init 10 rfl) wf_RX8_13 (by decide : 1 < 11) (rfl : hsF 1 = (8, 0)) (by decide) rfl ?_
    refine hw_alen (k := 3) (z := 16) (v := (16 : Int32)) (aX8_init 11 rfl) (by decide : 2 < 11) (rfl : hsF 2 = (103, 16)) (by decide) (by decide) ?_
    refine hw_icge (tgt := 43) (aX8_init 12 rfl) (by decide) (by decide : (8 : Int32).toInt = 8) (by decide : (16 : Int32).toInt = 16) (fun cd => ?_) (fun cd => ?_)
    · exfalso; omega
    refine hw_aloadn (aX8_init 13 rfl) rfl ?_
    refine hw_get (v := .ref (base + 2)) (aX8_init 14 rfl) wf_RX8_13 (by decide : 1 < 11) (rfl : hsF 1 = (8, 0)) (by decide) rfl ?_
    refine xw_iloadn (aX8_init 15 rfl) rfl ?_
    refine cw_new (t := 5) (n2 := 12) (sl2 := 86) (aX8_init 16 rfl) rfl (tin_1 (i := 36) rfl rfl) (tin_1 (i := 3) rfl rfl) rfl rfl rfl rfl rfl (by decide) (by decide) ?_
    refine xw_dup (aX8_init 17 rfl) rfl ?_
    refine hw_callN (j2 := 58) (Φ2 := fun v s => v = none ∧ s = (12, 86, hsF, fI [], fZ, fR [(2, 7, some 10), (2, 6, some 9), (2, 5, some 8), (2, 4, some 7), (2, 3, some 6), (2, 2, some 5), (2, 1, some 4), (2, 0, some 3), (1, 0, some 2)])) (Bs := []) (rest := [.ref (base + 11), .int (8 : Int32), .ref (base + 2)]) (aX8_init 18 rfl) wc_RX8_17 (by decide) rfl wi_yX5_init rfl rfl rfl (Nat.le_of_ble_eq_true rfl) (Nat.le_of_ble_eq_true rfl) ?_ (fun v s hv => ?_)
    · refine hw_aloadn (aX5_init 0 rfl) rfl ?_
      refine hw_obj (aX5_init 1 rfl) (tin_1 (i := 42) rfl rfl) (tin_1 (i := 28) rfl rfl) (tin_1 (i := 29) rfl rfl) (Nat.le_of_ble_eq_true rfl) ?_
      refine xw_vret (aX5_init 2 rfl) rfl ?_
      exact ⟨rfl, rfl⟩
    obtain ⟨rfl, rfl⟩ := hv
    show hw sk base _ _ _ _ _ [.ref (base + 11), .int (8 : Int32), .ref (base + 2)] _ _
    refine hv_aast (k := 3) (i2 := 8) (aX8_init 19 rfl) (by decide : 2 < 12) (rfl : hsF 2 = (103, 16)) rfl (by decide) (by decide : 11 < 12) (rfl : hsF 11 = (5, 0)) rfl (h_in (by decide : (8 : Int32).toInt = 8) (by decide) (by decide)) (by decide) (fun F20 u19 => ?_)
    rw [fR_up] at u19; subst u19
    refine xw_iinc (L2 := [(1, .int (9 : Int32)), (0, .ref (base + 1))]) (aX8_init 20 rfl) rfl (by decide) (by rw [show ((8 : Int32) + Int32.ofInt (1)) = (9 : Int32) from by decide]; rfl) ?_
    refine xw_goto (tgt := 15) (aX8_init 21 rfl) (by decide) ?_
    refine xw_iloadn (aX8_init 8 rfl) rfl ?_
    refine hw_aloadn (aX8_init 9 rfl) rfl ?_
    refine hw_get (v := .ref (base + 2)) (aX8_init 10 rfl) wf_RX8_13 (by decide : 1 < 12) (rfl : hsF 1 = (8, 0)) (by decide) rfl ?_
    refine hw_alen (k := 3) (z := 16) (v := (16 : Int32)) (aX8_init 11 rfl) (by decide : 2 < 12) (rfl : hsF 2 = (103, 16)) (by decide) (by decide) ?_
    refine hw_icge (tgt := 43) (aX8_init 12 rfl) (by decide) (by decide : (9 : Int32).toInt = 9) (by decide : (16 : Int32).toInt = 16) (fun cd => ?_) (fun cd => ?_)
    · exfalso; omega
    refine hw_aloadn (aX8_init 13 rfl) rfl ?_
    refine hw_get (v := .ref (base + 2)) (aX8_init 14 rfl) wf_RX8_13 (by decide : 1 < 12) (rfl : hsF 1 = (8, 0)) (by decide) rfl ?_
    refine xw_iloadn (aX8_init 15 rfl) rfl ?_
    refine cw_new (t := 5) (n2 := 13) (sl2 := 92) (aX8_init 16 rfl) rfl (tin_1 (i := 36) rfl rfl) (tin_1 (i := 3) rfl rfl) rfl rfl rfl rfl rfl (by decide) (by decide) ?_
    refine xw_dup (aX8_init 17 rfl) rfl ?_
    refine hw_callN (j2 := 58) (Φ2 := fun v s => v = none ∧ s = (13, 92, hsF, fI [], fZ, fR [(2, 8, some 11), (2, 7, some 10), (2, 6, some 9), (2, 5, some 8), (2, 4, some 7), (2, 3, some 6), (2, 2, some 5), (2, 1, some 4), (2, 0, some 3), (1, 0, some 2)])) (Bs := []) (rest := [.ref (base + 12), .int (9 : Int32), .ref (base + 2)]) (aX8_init 18 rfl) wc_RX8_17 (by decide) rfl wi_yX5_init rfl rfl rfl (Nat.le_of_ble_eq_true rfl) (Nat.le_of_ble_eq_true rfl) ?_ (fun v s hv => ?_)
    · refine hw_aloadn (aX5_init 0 rfl) rfl ?_
      refine hw_obj (aX5_init 1 rfl) (tin_1 (i := 42) rfl rfl) (tin_1 (i := 28) rfl rfl) (tin_1 (i := 29) rfl rfl) (Nat.le_of_ble_eq_true rfl) ?_
      refine xw_vret (aX5_init 2 rfl) rfl ?_
      exact ⟨rfl, rfl⟩
    obtain ⟨rfl, rfl⟩ := hv
    show hw sk base _ _ _ _ _ [.ref (base + 12), .int (9 : Int32), .ref (base + 2)] _ _
    refine hv_aast (k := 3) (i2 := 9) (aX8_init 19 rfl) (by decide : 2 < 13) (rfl : hsF 2 = (103, 16)) rfl (by decide) (by decide : 12 < 13) (rfl : hsF 12 = (5, 0)) rfl (h_in (by decide : (9 : Int32).toInt = 9) (by decide) (by decide)) (by decide) (fun F22 u21 => ?_)
    rw [fR_up] at u21; subst u21
    refine xw_iinc (L2 := [(1, .int (10 : Int32)), (0, .ref (base + 1))]) (aX8_init 20 rfl) rfl (by decide) (by rw [show ((9 : Int32) + Int32.ofInt (1)) = (10 : Int32) from by decide]; rfl) ?_
    refine xw_goto (tgt := 15) (aX8_init 21 rfl) (by decide) ?_
    refine xw_iloadn (aX8_init 8 rfl) rfl ?_
    refine hw_aloadn (aX8_init 9 rfl) rfl ?_
    refine hw_get (v := .ref (base + 2)) (aX8_init 10 rfl) wf_RX8_13 (by decide : 1 < 13) (rfl : hsF 1 = (8, 0)) (by decide) rfl ?_
    refine hw_alen (k := 3) (z := 16) (v := (16 : Int32)) (aX8_init 11 rfl) (by decide : 2 < 13) (rfl : hsF 2 = (103, 16)) (by decide) (by decide) ?_
    refine hw_icge (tgt := 43) (aX8_init 12 rfl) (by decide) (by decide : (10 : Int32).toInt = 10) (by decide : (16 : Int32).toInt = 16) (fun cd => ?_) (fun cd => ?_)
    · exfalso; omega
    refine hw_aloadn (aX8_init 13 rfl) rfl ?_
    refine hw_get (v := .ref (base + 2)) (aX8_init 14 rfl) wf_RX8_13 (by decide : 1 < 13) (rfl : hsF 1 = (8, 0)) (by decide) rfl ?_
    refine xw_iloadn (aX8_init 15 rfl) rfl ?_
    refine cw_new (t := 5) (n2 := 14) (sl2 := 98) (aX8_init 16 rfl) rfl (tin_1 (i := 36) rfl rfl) (tin_1 (i := 3) rfl rfl) rfl rfl rfl rfl rfl (by decide) (by decide) ?_
    refine xw_dup (aX8_init 17 rfl) rfl ?_
    refine hw_callN (j2 := 58) (Φ2 := fun v s => v = none ∧ s = (14, 98, hsF, fI [], fZ, fR [(2, 9, some 12), (2, 8, some 11), (2, 7, some 10), (2, 6, some 9), (2, 5, some 8), (2, 4, some 7), (2, 3, some 6), (2, 2, some 5), (2, 1, some 4), (2, 0, some 3), (1, 0, some 2)])) (Bs := []) (rest := [.ref (base + 13), .int (10 : Int32), .ref (base + 2)]) (aX8_init 18 rfl) wc_RX8_17 (by decide) rfl wi_yX5_init rfl rfl rfl (Nat.le_of_ble_eq_true rfl) (Nat.le_of_ble_eq_true rfl) ?_ (fun v s hv => ?_)
    · refine hw_aloadn (aX5_init 0 rfl) rfl ?_
      refine hw_obj (aX5_init 1 rfl) (tin_1 (i := 42) rfl rfl) (tin_1 (i := 28) rfl rfl) (tin_1 (i := 29) rfl rfl) (Nat.le_of_ble_eq_true rfl) ?_
      refine xw_vret (aX5_init 2 rfl) rfl ?_
      exact ⟨rfl, rfl⟩
    obtain ⟨rfl, rfl⟩ := hv
    show hw sk base _ _ _ _ _ [.ref (base + 13), .int (10 : Int32), .ref (base + 2)] _ _
    refine hv_aast (k := 3) (i2 := 10) (aX8_init 19 rfl) (by decide : 2 < 14) (rfl : hsF 2 = (103, 16)) rfl (by decide) (by decide : 13 < 14) (rfl : hsF 13 = (5, 0)) rfl (h_in (by decide : (10 : Int32).toInt = 10) (by decide) (by decide)) (by decide) (fun F24 u23 => ?_)
    rw [fR_up] at u23; subst u23
    refine xw_iinc (L2 := [(1, .int (11 : Int32)), (0, .ref (base + 1))]) (aX8_init 20 rfl) rfl (by decide) (by rw [show ((10 : Int32) + Int32.ofInt (1)) = (11 : Int32) from by decide]; rfl) ?_
    refine xw_goto (tgt := 15) (aX8_init 21 rfl) (by decide) ?_
    refine xw_iloadn (aX8_init 8 rfl) rfl ?_
    refine hw_aloadn (aX8_init 9 rfl) rfl ?_
    refine hw_get (v := .ref (base + 2)) (aX8_init 10 rfl) wf_RX8_13 (by decide : 1 < 14) (rfl : hsF 1 = (8, 0)) (by decide) rfl ?_
    refine hw_alen (k := 3) (z := 16) (v := (16 : Int32)) (aX8_init 11 rfl) (by decide : 2 < 14) (rfl : hsF 2 = (103, 16)) (by decide) (by decide) ?_
    refine hw_icge (tgt := 43) (aX8_init 12 rfl) (by decide) (by decide : (11 : Int32).toInt = 11) (by decide : (16 : Int32).toInt = 16) (fun cd => ?_) (fun cd => ?_)
    · exfalso; omega
    refine hw_aloadn (aX8_init 13 rfl) rfl ?_
    refine hw_get (v := .ref (base + 2)) (aX8_init 14 rfl) wf_RX8_13 (by decide : 1 < 14) (rfl : hsF 1 = (8, 0)) (by decide) rfl ?_
    refine xw_iloadn (aX8_init 15 rfl) rfl ?_
    refine cw_new (t := 5) (n2 := 15) (sl2 := 104) (aX8_init 16 rfl) rfl (tin_1 (i := 36) rfl rfl) (tin_1 (i := 3) rfl rfl) rfl rfl rfl rfl rfl (by decide) (by decide) ?_
    refine xw_dup (aX8_init 17 rfl) rfl ?_
    refine hw_callN (j2 := 58) (Φ2 := fun v s => v = none ∧ s = (15, 104, hsF, fI [], fZ, fR [(2, 10, some 13), (2, 9, some 12), (2, 8, some 11), (2, 7, some 10), (2, 6, some 9), (2, 5, some 8), (2, 4, some 7), (2, 3, some 6), (2, 2, some 5), (2, 1, some 4), (2, 0, some 3), (1, 0, some 2)])) (Bs := []) (rest := [.ref (base + 14), .int (11 : Int32), .ref (base + 2)]) (aX8_init 18 rfl) wc_RX8_17 (by decide) rfl wi_yX5_init rfl rfl rfl (Nat.le_of_ble_eq_true rfl) (Nat.le_of_ble_eq_true rfl) ?_ (fun v s hv => ?_)
    · refine hw_aloadn (aX5_init 0 rfl) rfl ?_
      refine hw_obj (aX5_init 1 rfl) (tin_1 (i := 42) rfl rfl) (tin_1 (i := 28) rfl rfl) (tin_1 (i := 29) rfl rfl) (Nat.le_of_ble_eq_true rfl) ?_
      refine xw_vret (aX5_init 2 rfl) rfl ?_
      exact ⟨rfl, rfl⟩
    obtain ⟨rfl, rfl⟩ := hv
    show hw sk base _ _ _ _ _ [.ref (base + 14), .int (11 : Int32), .ref (base + 2)] _ _
    refine hv_aast (k := 3) (i2 := 11) (aX8_init 19 rfl) (by decide : 2 < 15) (rfl : hsF 2 = (103, 16)) rfl (by decide) (by decide : 14 < 15) (rfl : hsF 14 = (5, 0)) rfl (h_in (by decide : (11 : Int32).toInt = 11) (by decide) (by decide)) (by decide) (fun F26 u25 => ?_)
    rw [fR_up] at u25; subst u25
    refine xw_iinc (L2 := [(1, .int (12 : Int32)), (0, .ref (base + 1))]) (aX8_init 20 rfl) rfl (by decide) (by rw [show ((11 : Int32) + Int32.ofInt (1)) = (12 : Int32) from by decide]; rfl) ?_
    refine xw_goto (tgt := 15) (aX8_init 21 rfl) (by decide) ?_
    refine xw_iloadn (aX8_init 8 rfl) rfl ?_
    refine hw_aloadn (aX8_init 9 rfl) rfl ?_
    refine hw_get (v := .ref (base + 2)) (aX8_init 10 rfl) wf_RX8_13 (by decide : 1 < 15) (rfl : hsF 1 = (8, 0)) (by decide) rfl ?_
    refine hw_alen (k := 3) (z := 16) (v := (16 : Int32)) (aX8_init 11 rfl) (by decide : 2 < 15) (rfl : hsF 2 = (103, 16)) (by decide) (by decide) ?_
    refine hw_icge (tgt := 43) (aX8_init 12 rfl) (by decide) (by decide : (12 : Int32).toInt = 12) (by decide : (16 : Int32).toInt = 16) (fun cd => ?_) (fun cd => ?_)
    · exfalso; omega
    refine hw_aloadn (aX8_init 13 rfl) rfl ?_
    refine hw_get (v := .ref (base + 2)) (aX8_init 14 rfl) wf_RX8_13 (by decide : 1 < 15) (rfl : hsF 1 = (8, 0)) (by decide) rfl ?_
    refine xw_iloadn (aX8_init 15 rfl) rfl ?_
    refine cw_new (t := 5) (n2 := 16) (sl2 := 110) (aX8_init 16 rfl) rfl (tin_1 (i := 36) rfl rfl) (tin_1 (i := 3) rfl rfl) rfl rfl rfl rfl rfl (by decide) (by decide) ?_
    refine xw_dup (aX8_init 17 rfl) rfl ?_
    refine hw_callN (j2 := 58) (Φ2 := fun v s => v = none ∧ s = (16, 110, hsF, fI [], fZ, fR [(2, 11, some 14), (2, 10, some 13), (2, 9, some 12), (2, 8, some 11), (2, 7, some 10), (2, 6, some 9), (2, 5, some 8), (2, 4, some 7), (2, 3, some 6), (2, 2, some 5), (2, 1, some 4), (2, 0, some 3), (1, 0, some 2)])) (Bs := []) (rest := [.ref (base + 15), .int (12 : Int32), .ref (base + 2)]) (aX8_init 18 rfl) wc_RX8_17 (by decide) rfl wi_yX5_init rfl rfl rfl (Nat.le_of_ble_eq_true rfl) (Nat.le_of_ble_eq_true rfl) ?_ (fun v s hv => ?_)
    · refine hw_aloadn (aX5_init 0 rfl) rfl ?_
      refine hw_obj (aX5_init 1 rfl) (tin_1 (i := 42) rfl rfl) (tin_1 (i := 28) rfl rfl) (tin_1 (i := 29) rfl rfl) (Nat.le_of_ble_eq_true rfl) ?_
      refine xw_vret (aX5_init 2 rfl) rfl ?_
      exact ⟨rfl, rfl⟩
    obtain ⟨rfl, rfl⟩ := hv
    show hw sk base _ _ _ _ _ [.ref (base + 15), .int (12 : Int32), .ref (base + 2)] _ _
    refine hv_aast (k := 3) (i2 := 12) (aX8_init 19 rfl) (by decide : 2 < 16) (rfl : hsF 2 = (103, 16)) rfl (by decide) (by decide : 15 < 16) (rfl : hsF 15 = (5, 0)) rfl (h_in (by decide : (12 : Int32).toInt = 12) (by decide) (by decide)) (by decide) (fun F28 u27 => ?_)
    rw [fR_up] at u27; subst u27
    refine xw_iinc (L2 := [(1, .int (13 : Int32)), (0, .ref (base + 1))]) (aX8_init 20 rfl) rfl (by decide) (by rw [show ((12 : Int32) + Int32.ofInt (1)) = (13 : Int32) from by decide]; rfl) ?_
    refine xw_goto (tgt := 15) (aX8_init 21 rfl) (by decide) ?_
    refine xw_iloadn (aX8_init 8 rfl) rfl ?_
    refine hw_aloadn (aX8_init 9 rfl) rfl ?_
    refine hw_get (v := .ref (base + 2)) (aX8_init 10 rfl) wf_RX8_13 (by decide : 1 < 16) (rfl : hsF 1 = (8, 0)) (by decide) rfl ?_
    refine hw_alen (k := 3) (z := 16) (v := (16 : Int32)) (aX8_init 11 rfl) (by decide : 2 < 16) (rfl : hsF 2 = (103, 16)) (by decide) (by decide) ?_
    refine hw_icge (tgt := 43) (aX8_init 12 rfl) (by decide) (by decide : (13 : Int32).toInt = 13) (by decide : (16 : Int32).toInt = 16) (fun cd => ?_) (fun cd => ?_)
    · exfalso; omega
    refine hw_aloadn (aX8_init 13 rfl) rfl ?_
    refine hw_get (v := .ref (base + 2)) (aX8_init 14 rfl) wf_RX8_13 (by decide : 1 < 16) (rfl : hsF 1 = (8, 0)) (by decide) rfl ?_
    refine xw_iloadn (aX8_init 15 rfl) rfl ?_
    refine cw_new (t := 5) (n2 := 17) (sl2 := 116) (aX8_init 16 rfl) rfl (tin_1 (i := 36) rfl rfl) (tin_1 (i := 3) rfl rfl) rfl rfl rfl rfl rfl (by decide) (by decide) ?_
    refine xw_dup (aX8_init 17 rfl) rfl ?_
    refine hw_callN (j2 := 58) (Φ2 := fun v s => v = none ∧ s = (17, 116, hsF, fI [], fZ, fR [(2, 12, some 15), (2, 11, some 14), (2, 10, some 13), (2, 9, some 12), (2, 8, some 11), (2, 7, some 10), (2, 6, some 9), (2, 5, some 8), (2, 4, some 7), (2, 3, some 6), (2, 2, some 5), (2, 1, some 4), (2, 0, some 3), (1, 0, some 2)])) (Bs := []) (rest := [.ref (base + 16), .int (13 : Int32), .ref (base + 2)]) (aX8_init 18 rfl) wc_RX8_17 (by decide) rfl wi_yX5_init rfl rfl rfl (Nat.le_of_ble_eq_true rfl) (Nat.le_of_ble_eq_true rfl) ?_ (fun v s hv => ?_)
    · refine hw_aloadn (aX5_init 0 rfl) rfl ?_
      refine hw_obj (aX5_init 1 rfl) (tin_1 (i := 42) rfl rfl) (tin_1 (i := 28) rfl rfl) (tin_1 (i := 29) rfl rfl) (Nat.le_of_ble_eq_true rfl) ?_
      refine xw_vret (aX5_init 2 rfl) rfl ?_
      exact ⟨rfl, rfl⟩
    obtain ⟨rfl, rfl⟩ := hv
    show hw sk base _ _ _ _ _ [.ref (base + 16), .int (13 : Int32), .ref (base + 2)] _ _
    refine hv_aast (k := 3) (i2 := 13) (aX8_init 19 rfl) (by decide : 2 < 17) (rfl : hsF 2 = (103, 16)) rfl (by decide) (by decide : 16 < 17) (rfl : hsF 16 = (5, 0)) rfl (h_in (by decide : (13 : Int32).toInt = 13) (by decide) (by decide)) (by decide) (fun F30 u29 => ?_)
    rw [fR_up] at u29; subst u29
    refine xw_iinc (L2 := [(1, .int (14 : Int32)), (0, .ref (base + 1))]) (aX8_init 20 rfl) rfl (by decide) (by rw [show ((13 : Int32) + Int32.ofInt (1)) = (14 : Int32) from by decide]; rfl) ?_
    refine xw_goto (tgt := 15) (aX8_init 21 rfl) (by decide) ?_
    refine xw_iloadn (aX8_init 8 rfl) rfl ?_
    refine hw_aloadn (aX8_init 9 rfl) rfl ?_
    refine hw_get (v := .ref (base + 2)) (aX8_init 10 rfl) wf_RX8_13 (by decide : 1 < 17) (rfl : hsF 1 = (8, 0)) (by decide) rfl ?_
    refine hw_alen (k := 3) (z := 16) (v := (16 : Int32)) (aX8_init 11 rfl) (by decide : 2 < 17) (rfl : hsF 2 = (103, 16)) (by decide) (by decide) ?_
    refine hw_icge (tgt := 43) (aX8_init 12 rfl) (by decide) (by decide : (14 : Int32).toInt = 14) (by decide : (16 : Int32).toInt = 16) (fun cd => ?_) (fun cd => ?_)
    · exfalso; omega
    refine hw_aloadn (aX8_init 13 rfl) rfl ?_
    refine hw_get (v := .ref (base + 2)) (aX8_init 14 rfl) wf_RX8_13 (by decide : 1 < 17) (rfl : hsF 1 = (8, 0)) (by decide) rfl ?_
    refine xw_iloadn (aX8_init 15 rfl) rfl ?_
    refine cw_new (t := 5) (n2 := 18) (sl2 := 122) (aX8_init 16 rfl) rfl (tin_1 (i := 36) rfl rfl) (tin_1 (i := 3) rfl rfl) rfl rfl rfl rfl rfl (by decide) (by decide) ?_
    refine xw_dup (aX8_init 17 rfl) rfl ?_
    refine hw_callN (j2 := 58) (Φ2 := fun v s => v = none ∧ s = (18, 122, hsF, fI [], fZ, fR [(2, 13, some 16), (2, 12, some 15), (2, 11, some 14), (2, 10, some 13), (2, 9, some 12), (2, 8, some 11), (2, 7, some 10), (2, 6, some 9), (2, 5, some 8), (2, 4, some 7), (2, 3, some 6), (2, 2, some 5), (2, 1, some 4), (2, 0, some 3), (1, 0, some 2)])) (Bs := []) (rest := [.ref (base + 17), .int (14 : Int32), .ref (base + 2)]) (aX8_init 18 rfl) wc_RX8_17 (by decide) rfl wi_yX5_init rfl rfl rfl (Nat.le_of_ble_eq_true rfl) (Nat.le_of_ble_eq_true rfl) ?_ (fun v s hv => ?_)
    · refine hw_aloadn (aX5_init 0 rfl) rfl ?_
      refine hw_obj (aX5_init 1 rfl) (tin_1 (i := 42) rfl rfl) (tin_1 (i := 28) rfl rfl) (tin_1 (i := 29) rfl rfl) (Nat.le_of_ble_eq_true rfl) ?_
      refine xw_vret (aX5_init 2 rfl) rfl ?_
      exact ⟨rfl, rfl⟩
    obtain ⟨rfl, rfl⟩ := hv
    show hw sk base _ _ _ _ _ [.ref (base + 17), .int (14 : Int32), .ref (base + 2)] _ _
    refine hv_aast (k := 3) (i2 := 14) (aX8_init 19 rfl) (by decide : 2 < 18) (rfl : hsF 2 = (103, 16)) rfl (by decide) (by decide : 17 < 18) (rfl : hsF 17 = (5, 0)) rfl (h_in (by decide : (14 : Int32).toInt = 14) (by decide) (by decide)) (by decide) (fun F32 u31 => ?_)
    rw [fR_up] at u31; subst u31
    refine xw_iinc (L2 := [(1, .int (15 : Int32)), (0, .ref (base + 1))]) (aX8_init 20 rfl) rfl (by decide) (by rw [show ((14 : Int32) + Int32.ofInt (1)) = (15 : Int32) from by decide]; rfl) ?_
    refine xw_goto (tgt := 15) (aX8_init 21 rfl) (by decide) ?_
    refine xw_iloadn (aX8_init 8 rfl) rfl ?_
    refine hw_aloadn (aX8_init 9 rfl) rfl ?_
    refine hw_get (v := .ref (base + 2)) (aX8_init 10 rfl) wf_RX8_13 (by decide : 1 < 18) (rfl : hsF 1 = (8, 0)) (by decide) rfl ?_
    refine hw_alen (k := 3) (z := 16) (v := (16 : Int32)) (aX8_init 11 rfl) (by decide : 2 < 18) (rfl : hsF 2 = (103, 16)) (by decide) (by decide) ?_
    refine hw_icge (tgt := 43) (aX8_init 12 rfl) (by decide) (by decide : (15 : Int32).toInt = 15) (by decide : (16 : Int32).toInt = 16) (fun cd => ?_) (fun cd => ?_)
    · exfalso; omega
    refine hw_aloadn (aX8_init 13 rfl) rfl ?_
    refine hw_get (v := .ref (base + 2)) (aX8_init 14 rfl) wf_RX8_13 (by decide : 1 < 18) (rfl : hsF 1 = (8, 0)) (by decide) rfl ?_
    refine xw_iloadn (aX8_init 15 rfl) rfl ?_
    refine cw_new (t := 5) (n2 := 19) (sl2 := 128) (aX8_init 16 rfl) rfl (tin_1 (i := 36) rfl rfl) (tin_1 (i := 3) rfl rfl) rfl rfl rfl rfl rfl (by decide) (by decide) ?_
    refine xw_dup (aX8_init 17 rfl) rfl ?_
    refine hw_callN (j2 := 58) (Φ2 := fun v s => v = none ∧ s = (19, 128, hsF, fI [], fZ, fR [(2, 14, some 17), (2, 13, some 16), (2, 12, some 15), (2, 11, some 14), (2, 10, some 13), (2, 9, some 12), (2, 8, some 11), (2, 7, some 10), (2, 6, some 9), (2, 5, some 8), (2, 4, some 7), (2, 3, some 6), (2, 2, some 5), (2, 1, some 4), (2, 0, some 3), (1, 0, some 2)])) (Bs := []) (rest := [.ref (base + 18), .int (15 : Int32), .ref (base + 2)]) (aX8_init 18 rfl) wc_RX8_17 (by decide) rfl wi_yX5_init rfl rfl rfl (Nat.le_of_ble_eq_true rfl) (Nat.le_of_ble_eq_true rfl) ?_ (fun v s hv => ?_)
    · refine hw_aloadn (aX5_init 0 rfl) rfl ?_
      refine hw_obj (aX5_init 1 rfl) (tin_1 (i := 42) rfl rfl) (tin_1 (i := 28) rfl rfl) (tin_1 (i := 29) rfl rfl) (Nat.le_of_ble_eq_true rfl) ?_
      refine xw_vret (aX5_init 2 rfl) rfl ?_
      exact ⟨rfl, rfl⟩
    obtain ⟨rfl, rfl⟩ := hv
    show hw sk base _ _ _ _ _ [.ref (base + 18), .int (15 : Int32), .ref (base + 2)] _ _
    refine hv_aast (k := 3) (i2 := 15) (aX8_init 19 rfl) (by decide : 2 < 19) (rfl : hsF 2 = (103, 16)) rfl (by decide) (by decide : 18 < 19) (rfl : hsF 18 = (5, 0)) rfl (h_in (by decide : (15 : Int32).toInt = 15) (by decide) (by decide)) (by decide) (fun F34 u33 => ?_)
    rw [fR_up] at u33; subst u33
    refine xw_iinc (L2 := [(1, .int (16 : Int32)), (0, .ref (base + 1))]) (aX8_init 20 rfl) rfl (by decide) (by rw [show ((15 : Int32) + Int32.ofInt (1)) = (16 : Int32) from by decide]; rfl) ?_
    refine xw_goto (tgt := 15) (aX8_init 21 rfl) (by decide) ?_
    refine xw_iloadn (aX8_init 8 rfl) rfl ?_
    refine hw_aloadn (aX8_init 9 rfl) rfl ?_
    refine hw_get (v := .ref (base + 2)) (aX8_init 10 rfl) wf_RX8_13 (by decide : 1 < 19) (rfl : hsF 1 = (8, 0)) (by decide) rfl ?_
    refine hw_alen (k := 3) (z := 16) (v := (16 : Int32)) (aX8_init 11 rfl) (by decide : 2 < 19) (rfl : hsF 2 = (103, 16)) (by decide) (by decide) ?_
    refine hw_icge (tgt := 43) (aX8_init 12 rfl) (by decide) (by decide : (16 : Int32).toInt = 16) (by decide : (16 : Int32).toInt = 16) (fun cd => ?_) (fun cd => ?_)
    rotate_left; { exfalso; omega }
    refine xw_vret (aX8_init 22 rfl) rfl ?_
    exact ⟨rfl, rfl⟩
  obtain ⟨rfl, rfl⟩ := hv
  show hw sk base _ _ _ _ _ [.ref (base + 1), .ref (base + 0)] _ _
  refine hv_putr (r := some 1) (aX11_init 6 rfl) wf_RX11_10 (by decide : 0 < 19) (rfl : hsF 0 = (11, 0)) (by decide) (by first | exact Or.inl ⟨_, rfl⟩ | exact Or.inr ⟨_, rfl⟩) (Or.inr ⟨rfl, rfl, rfl, wf_RX11_10F⟩) (fun F36 u35 => ?_)
  rw [fR_up] at u35; subst u35
  refine hw_aloadn (aX11_init 7 rfl) rfl ?_
  refine hw_sp (v := (1000 : Int32)) (aX11_init 8 rfl) (by decide) ?_
  refine cw_newa (k := 0) (z := 1000) (n2 := 20) (sl2 := 1128) (aX11_init 9 rfl) rfl (by decide) (tin_1 (i := 149) rfl rfl) (by decide) (by decide) (by decide) rfl rfl rfl rfl rfl (by decide) (by decide) ?_
  refine hv_putr (r := some 19) (aX11_init 10 rfl) wf_RX11_16 (by decide : 0 < 20) (rfl : hsF 0 = (11, 0)) (by decide) (by first | exact Or.inl ⟨_, rfl⟩ | exact Or.inr ⟨_, rfl⟩) (Or.inr ⟨rfl, rfl, rfl, wf_RX11_16F⟩) (fun F38 u37 => ?_)
  rw [fR_up] at u37; subst u37
  refine hw_aloadn (aX11_init 11 rfl) rfl ?_
  refine hw_bp (v := (64 : Int32)) (aX11_init 12 rfl) (by decide) ?_
  refine cw_newa (k := 0) (z := 64) (n2 := 21) (sl2 := 1192) (aX11_init 13 rfl) rfl (by decide) (tin_1 (i := 149) rfl rfl) (by decide) (by decide) (by decide) rfl rfl rfl rfl rfl (by decide) (by decide) ?_
  refine hv_putr (r := some 20) (aX11_init 14 rfl) wf_RX11_20 (by decide : 0 < 21) (rfl : hsF 0 = (11, 0)) (by decide) (by first | exact Or.inl ⟨_, rfl⟩ | exact Or.inr ⟨_, rfl⟩) (Or.inr ⟨rfl, rfl, rfl, wf_RX11_20F⟩) (fun F40 u39 => ?_)
  rw [fR_up] at u39; subst u39
  refine hw_aloadn (aX11_init 15 rfl) rfl ?_
  refine hw_ic (v := (4 : Int32)) (aX11_init 16 rfl) (by decide) ?_
  refine cw_newa (k := 0) (z := 4) (n2 := 22) (sl2 := 1196) (aX11_init 17 rfl) rfl (by decide) (tin_1 (i := 149) rfl rfl) (by decide) (by decide) (by decide) rfl rfl rfl rfl rfl (by decide) (by decide) ?_
  refine xw_dup (aX11_init 18 rfl) rfl ?_
  refine hw_ic (v := (0 : Int32)) (aX11_init 19 rfl) (by decide) ?_
  refine hw_ic (v := (-1 : Int32)) (aX11_init 20 rfl) (by decide) ?_
  refine hv_iast (k := 0) (aX11_init 21 rfl) (by decide : 21 < 22) (rfl : hsF 21 = (100, 4)) (h_in (by decide : (0 : Int32).toInt = 0) (by decide) (by decide)) (by decide) (fun F42 u41 => ?_)
  rw [fI_up] at u41; subst u41
  refine xw_dup (aX11_init 22 rfl) rfl ?_
  refine hw_ic (v := (1 : Int32)) (aX11_init 23 rfl) (by decide) ?_
  refine hw_ic (v := (-1 : Int32)) (aX11_init 24 rfl) (by decide) ?_
  refine hv_iast (k := 1) (aX11_init 25 rfl) (by decide : 21 < 22) (rfl : hsF 21 = (100, 4)) (h_in (by decide : (1 : Int32).toInt = 1) (by decide) (by decide)) (by decide) (fun F44 u43 => ?_)
  rw [fI_up] at u43; subst u43
  refine xw_dup (aX11_init 26 rfl) rfl ?_
  refine hw_ic (v := (2 : Int32)) (aX11_init 27 rfl) (by decide) ?_
  refine hw_ic (v := (-1 : Int32)) (aX11_init 28 rfl) (by decide) ?_
  refine hv_iast (k := 2) (aX11_init 29 rfl) (by decide : 21 < 22) (rfl : hsF 21 = (100, 4)) (h_in (by decide : (2 : Int32).toInt = 2) (by decide) (by decide)) (by decide) (fun F46 u45 => ?_)
  rw [fI_up] at u45; subst u45
  refine xw_dup (aX11_init 30 rfl) rfl ?_
  refine hw_ic (v := (3 : Int32)) (aX11_init 31 rfl) (by decide) ?_
  refine hw_ic (v := (-1 : Int32)) (aX11_init 32 rfl) (by decide) ?_
  refine hv_iast (k := 3) (aX11_init 33 rfl) (by decide : 21 < 22) (rfl : hsF 21 = (100, 4)) (h_in (by decide : (3 : Int32).toInt = 3) (by decide) (by decide)) (by decide) (fun F48 u47 => ?_)
  rw [fI_up] at u47; subst u47
  refine hv_putr (r := some 21) (aX11_init 34 rfl) wf_RX11_23 (by decide : 0 < 22) (rfl : hsF 0 = (11, 0)) (by decide) (by first | exact Or.inl ⟨_, rfl⟩ | exact Or.inr ⟨_, rfl⟩) (Or.inr ⟨rfl, rfl, rfl, wf_RX11_23F⟩) (fun F50 u49 => ?_)
  rw [fR_up] at u49; subst u49
  refine hw_aloadn (aX11_init 35 rfl) rfl ?_
  refine hw_ic (v := (0 : Int32)) (aX11_init 36 rfl) (by decide) ?_
  refine cw_newq (k := 4) (z := 0) (n2 := 23) (sl2 := 1196) (aX11_init 37 rfl) rfl (by decide) (tin_1 (i := 86) rfl rfl) (nin_1 (i := 87) rfl rfl) (by decide) (by decide) (by decide) rfl rfl rfl rfl rfl (by decide) (by decide) ?_
  refine hv_putr (r := some 22) (aX11_init 38 rfl) wf_RX11_28 (by decide : 0 < 23) (rfl : hsF 0 = (11, 0)) (by decide) (by first | exact Or.inl ⟨_, rfl⟩ | exact Or.inr ⟨_, rfl⟩) (Or.inl rfl) (fun F52 u51 => ?_)
  rw [fR_up] at u51; subst u51
  refine hw_aloadn (aX11_init 39 rfl) rfl ?_
  refine cw_new (t := 1) (n2 := 24) (sl2 := 1207) (aX11_init 40 rfl) rfl (tin_1 (i := 88) rfl rfl) (tin_1 (i := 4) rfl rfl) rfl rfl rfl rfl rfl (by decide) (by decide) ?_
  refine xw_dup (aX11_init 41 rfl) rfl ?_
  refine hw_callN (j2 := 19) (Φ2 := fun v s => v = none ∧ s = (48, 5355, hsF, fI [(23, 5, ((-1) : Int32)), (23, 4, ((-1) : Int32)), (21, 3, ((-1) : Int32)), (21, 2, ((-1) : Int32)), (21, 1, ((-1) : Int32)), (21, 0, ((-1) : Int32))], fZ, fR [(23, 3, some 43), (23, 2, some 26), (23, 1, some 25), (23, 0, some 24), (0, 11, some 22), (0, 8, some 21), (0, 7, some 20), (0, 6, some 19), (0, 5, some 1), (2, 15, some 18), (2, 14, some 17), (2, 13, some 16), (2, 12, some 15), (2, 11, some 14), (2, 10, some 13), (2, 9, some 12), (2, 8, some 11), (2, 7, some 10), (2, 6, some 9), (2, 5, some 8), (2, 4, some 7), (2, 3, some 6), (2, 2, some 5), (2, 1, some 4), (2, 0, some 3), (1, 0, some 2)])) (Bs := []) (rest := [.ref (base + 23), .ref (base + 0)]) (aX11_init 42 rfl) wc_RX11_34 (by decide) rfl wi_yX1_init rfl rfl rfl (Nat.le_of_ble_eq_true rfl) (Nat.le_of_ble_eq_true rfl) ?_ (fun v s hv => ?_)
  · refine hw_aloadn (aX1_init 0 rfl) rfl ?_
    refine hw_obj (aX1_init 1 rfl) (tin_1 (i := 93) rfl rfl) (tin_1 (i := 28) rfl rfl) (tin_1 (i := 29) rfl rfl) (Nat.le_of_ble_eq_true rfl) ?_
    refine hw_aloadn (aX1_init 2 rfl) rfl ?_
    refine hw_bp (v := (32 : Int32)) (aX1_init 3 rfl) (by decide) ?_
    refine cw_newa (k := 1) (z := 32) (n2 := 25) (sl2 := 1239) (aX1_init 4 rfl) rfl (by decide) (tin_1 (i := 150) rfl rfl) (by decide) (by decide) (by decide) rfl rfl rfl rfl rfl (by decide) (by decide) ?_
    refine hv_putr (r := some 24) (aX1_init 5 rfl) wf_RX1_11 (by decide : 23 < 25) (rfl : hsF 23 = (1, 0)) (by decide) (by first | exact Or.inl ⟨_, rfl⟩ | exact Or.inr ⟨_, rfl⟩) (Or.inr ⟨rfl, rfl, rfl, wf_RX1_11F⟩) (fun F54 u53 => ?_)
    rw [fR_up] at u53; subst u53
    refine hw_aloadn (aX1_init 6 rfl) rfl ?_
    refine hw_sp (v := (4096 : Int32)) (aX1_init 7 rfl) (by decide) ?_
    refine cw_newa (k := 0) (z := 4096) (n2 := 26) (sl2 := 5335) (aX1_init 8 rfl) rfl (by decide) (tin_1 (i := 149) rfl rfl) (by decide) (by decide) (by decide) rfl rfl rfl rfl rfl (by decide) (by decide) ?_
    refine hv_putr (r := some 25) (aX1_init 9 rfl) wf_RX1_15 (by decide : 23 < 26) (rfl : hsF 23 = (1, 0)) (by decide) (by first | exact Or.inl ⟨_, rfl⟩ | exact Or.inr ⟨_, rfl⟩) (Or.inr ⟨rfl, rfl, rfl, wf_RX1_15F⟩) (fun F56 u55 => ?_)
    rw [fR_up] at u55; subst u55
    refine hw_aloadn (aX1_init 10 rfl) rfl ?_
    refine hw_bp (v := (16 : Int32)) (aX1_init 11 rfl) (by decide) ?_
    refine hw_ic (v := (0 : Int32)) (aX1_init 12 rfl) (by decide) ?_
    refine cw_mna (N := 16) (K := 0) (n2 := 43) (sl2 := 5351) aX1_init_25 (tin_1 (i := 94) rfl rfl) (nin_1 (i := 95) rfl rfl) (tin_1 (i := 149) rfl rfl) (by decide) (by decide) (by decide) (by decide) (by decide) (by decide) rfl (by decide +kernel) rfl rfl (by decide +kernel) (by decide +kernel) (fun k => by unfold fB; simp) (by decide +kernel) ?_
    refine hv_putr (r := some 26) (aX1_init 13 rfl) wf_RX1_21 (by decide : 23 < 43) (rfl : hsF 23 = (1, 0)) (by decide) (by first | exact Or.inl ⟨_, rfl⟩ | exact Or.inr ⟨_, rfl⟩) (Or.inr ⟨rfl, rfl, rfl, wf_RX1_21F⟩) (fun F58 u57 => ?_)
    rw [fR_up] at u57; subst u57
    refine hw_aloadn (aX1_init 14 rfl) rfl ?_
    refine hw_ic (v := (4 : Int32)) (aX1_init 15 rfl) (by decide) ?_
    refine hw_ic (v := (0 : Int32)) (aX1_init 16 rfl) (by decide) ?_
    refine cw_mna (N := 4) (K := 0) (n2 := 48) (sl2 := 5355) aX1_init_35 (tin_1 (i := 94) rfl rfl) (nin_1 (i := 95) rfl rfl) (tin_1 (i := 149) rfl rfl) (by decide) (by decide) (by decide) (by decide) (by decide) (by decide) rfl (by decide +kernel) rfl rfl (by decide +kernel) (by decide +kernel) (fun k => by unfold fB; simp) (by decide +kernel) ?_
    refine hv_putr (r := some 43) (aX1_init 17 rfl) wf_RX1_24 (by decide : 23 < 48) (rfl : hsF 23 = (1, 0)) (by decide) (by first | exact Or.inl ⟨_, rfl⟩ | exact Or.inr ⟨_, rfl⟩) (Or.inr ⟨rfl, rfl, rfl, wf_RX1_24F⟩) (fun F60 u59 => ?_)
    rw [fR_up] at u59; subst u59
    refine hw_aloadn (aX1_init 18 rfl) rfl ?_
    refine hw_ic (v := (-1 : Int32)) (aX1_init 19 rfl) (by decide) ?_
    refine hv_puti (aX1_init 20 rfl) wf_RX1_27 (by decide : 23 < 48) (rfl : hsF 23 = (1, 0)) (by decide) rfl rfl (fun F62 u61 => ?_)
    rw [fI_up] at u61; subst u61
    refine hw_aloadn (aX1_init 21 rfl) rfl ?_
    refine hw_ic (v := (-1 : Int32)) (aX1_init 22 rfl) (by decide) ?_
    refine hv_puti (aX1_init 23 rfl) wf_RX1_31 (by decide : 23 < 48) (rfl : hsF 23 = (1, 0)) (by decide) rfl rfl (fun F64 u63 => ?_)
    rw [fI_up] at u63; subst u63
    refine xw_vret (aX1_init 24 rfl) rfl ?_
    exact ⟨rfl, rfl⟩
  obtain ⟨rfl, rfl⟩ := hv
  show hw sk base _ _ _ _ _ [.ref (base + 23), .ref (base + 0)] _ _
  refine hv_putr (r := some 23) (aX11_init 43 rfl) wf_RX11_35 (by decide : 0 < 48) (rfl : hsF 0 = (11, 0)) (by decide) (by first | exact Or.inl ⟨_, rfl⟩ | exact Or.inr ⟨_, rfl⟩) (Or.inr ⟨rfl, rfl, rfl, wf_RX11_35F⟩) (fun F66 u65 => ?_)
  rw [fR_up] at u65; subst u65
  refine hw_aloadn (aX11_init 44 rfl) rfl ?_
  refine cw_new (t := 9) (n2 := 49) (sl2 := 5371) (aX11_init 45 rfl) rfl (tin_1 (i := 151) rfl rfl) (tin_1 (i := 5) rfl rfl) rfl rfl rfl rfl rfl (by decide) (by decide) ?_
  refine xw_dup (aX11_init 46 rfl) rfl ?_
  refine hw_aloadn (aX11_init 47 rfl) rfl ?_
  refine hw_get (v := .ref (base + 23)) (aX11_init 48 rfl) wf_RX11_35 (by decide : 0 < 49) (rfl : hsF 0 = (11, 0)) (by decide) rfl ?_
  refine cw_new (t := 9) (n2 := 50) (sl2 := 5387) (aX11_init 49 rfl) rfl (tin_1 (i := 151) rfl rfl) (tin_1 (i := 5) rfl rfl) rfl rfl rfl rfl rfl (by decide) (by decide) ?_
  refine xw_dup (aX11_init 50 rfl) rfl ?_
  refine hw_aloadn (aX11_init 51 rfl) rfl ?_
  refine hw_get (v := .ref (base + 23)) (aX11_init 52 rfl) wf_RX11_35 (by decide : 0 < 50) (rfl : hsF 0 = (11, 0)) (by decide) rfl ?_
  refine xw_null (aX11_init 53 rfl) ?_
  refine hw_callN (j2 := 84) (Φ2 := fun v s => v = none ∧ s = (70, 5636, hsF, fI [(23, 5, ((-1) : Int32)), (23, 4, ((-1) : Int32)), (21, 3, ((-1) : Int32)), (21, 2, ((-1) : Int32)), (21, 1, ((-1) : Int32)), (21, 0, ((-1) : Int32))], fZ, fR [(49, 1, none), (49, 0, some 23), (49, 4, some 52), (53, 15, some 69), (53, 14, some 68), (53, 13, some 67), (53, 12, some 66), (53, 11, some 65), (53, 10, some 64), (53, 9, some 63), (53, 8, some 62), (53, 7, some 61), (53, 6, some 60), (53, 5, some 59), (53, 4, some 58), (53, 3, some 57), (53, 2, some 56), (53, 1, some 55), (53, 0, some 54), (52, 0, some 53), (49, 3, some 51), (49, 2, some 50), (0, 0, some 23), (23, 3, some 43), (23, 2, some 26), (23, 1, some 25), (23, 0, some 24), (0, 11, some 22), (0, 8, some 21), (0, 7, some 20), (0, 6, some 19), (0, 5, some 1), (2, 15, some 18), (2, 14, some 17), (2, 13, some 16), (2, 12, some 15), (2, 11, some 14), (2, 10, some 13), (2, 9, some 12), (2, 8, some 11), (2, 7, some 10), (2, 6, some 9), (2, 5, some 8), (2, 4, some 7), (2, 3, some 6), (2, 2, some 5), (2, 1, some 4), (2, 0, some 3), (1, 0, some 2)])) (Bs := [.ref (base + 23), .null]) (rest := [.ref (base + 49), .ref (base + 23), .ref (base + 48), .ref (base + 48), .ref (base + 0)]) (aX11_init 54 rfl) wc_RX11_41 (by decide) rfl wi_yX9_init rfl rfl rfl (Nat.le_of_ble_eq_true rfl) (Nat.le_of_ble_eq_true rfl) ?_ (fun v s hv => ?_)
  · refine hw_aloadn (aX9_init 0 rfl) rfl ?_
    refine hw_obj (aX9_init 1 rfl) (tin_1 (i := 156) rfl rfl) (tin_1 (i := 28) rfl rfl) (tin_1 (i := 29) rfl rfl) (Nat.le_of_ble_eq_true rfl) ?_
    refine hw_aloadn (aX9_init 2 rfl) rfl ?_
    refine hw_sp (v := (128 : Int32)) (aX9_init 3 rfl) (by decide) ?_
    refine cw_newa (k := 1) (z := 128) (n2 := 51) (sl2 := 5515) (aX9_init 4 rfl) rfl (by decide) (tin_1 (i := 150) rfl rfl) (by decide) (by decide) (by decide) rfl rfl rfl rfl rfl (by decide) (by decide) ?_
    refine hv_putr (r := some 50) (aX9_init 5 rfl) wf_RX9_11 (by decide : 49 < 51) (rfl : hsF 49 = (9, 0)) (by decide) (by first | exact Or.inl ⟨_, rfl⟩ | exact Or.inr ⟨_, rfl⟩) (Or.inr ⟨rfl, rfl, rfl, wf_RX9_11F⟩) (fun F68 u67 => ?_)
    rw [fR_up] at u67; subst u67
    refine hw_aloadn (aX9_init 6 rfl) rfl ?_
    refine cw_new (t := 5) (n2 := 52) (sl2 := 5521) (aX9_init 7 rfl) rfl (tin_1 (i := 157) rfl rfl) (tin_1 (i := 3) rfl rfl) rfl rfl rfl rfl rfl (by decide) (by decide) ?_
    refine xw_dup (aX9_init 8 rfl) rfl ?_
    refine hw_callN (j2 := 58) (Φ2 := fun v s => v = none ∧ s = (52, 5521, hsF, fI [(23, 5, ((-1) : Int32)), (23, 4, ((-1) : Int32)), (21, 3, ((-1) : Int32)), (21, 2, ((-1) : Int32)), (21, 1, ((-1) : Int32)), (21, 0, ((-1) : Int32))], fZ, fR [(49, 2, some 50), (0, 0, some 23), (23, 3, some 43), (23, 2, some 26), (23, 1, some 25), (23, 0, some 24), (0, 11, some 22), (0, 8, some 21), (0, 7, some 20), (0, 6, some 19), (0, 5, some 1), (2, 15, some 18), (2, 14, some 17), (2, 13, some 16), (2, 12, some 15), (2, 11, some 14), (2, 10, some 13), (2, 9, some 12), (2, 8, some 11), (2, 7, some 10), (2, 6, some 9), (2, 5, some 8), (2, 4, some 7), (2, 3, some 6), (2, 2, some 5), (2, 1, some 4), (2, 0, some 3), (1, 0, some 2)])) (Bs := []) (rest := [.ref (base + 51), .ref (base + 49)]) (aX9_init 9 rfl) wc_RX9_17 (by decide) rfl wi_yX5_init rfl rfl rfl (Nat.le_of_ble_eq_true rfl) (Nat.le_of_ble_eq_true rfl) ?_ (fun v s hv => ?_)
    · refine hw_aloadn (aX5_init 0 rfl) rfl ?_
      refine hw_obj (aX5_init 1 rfl) (tin_1 (i := 42) rfl rfl) (tin_1 (i := 28) rfl rfl) (tin_1 (i := 29) rfl rfl) (Nat.le_of_ble_eq_true rfl) ?_
      refine xw_vret (aX5_init 2 rfl) rfl ?_
      exact ⟨rfl, rfl⟩
    obtain ⟨rfl, rfl⟩ := hv
    show hw sk base _ _ _ _ _ [.ref (base + 51), .ref (base + 49)] _ _
    refine hv_putr (r := some 51) (aX9_init 10 rfl) wf_RX9_18 (by decide : 49 < 52) (rfl : hsF 49 = (9, 0)) (by decide) (by first | exact Or.inl ⟨_, rfl⟩ | exact Or.inr ⟨_, rfl⟩) (Or.inr ⟨rfl, rfl, rfl, wf_RX9_18F⟩) (fun F70 u69 => ?_)
    rw [fR_up] at u69; subst u69
    refine hw_aloadn (aX9_init 11 rfl) rfl ?_
    refine cw_new (t := 8) (n2 := 53) (sl2 := 5524) (aX9_init 12 rfl) rfl (tin_1 (i := 159) rfl rfl) (tin_1 (i := 2) rfl rfl) rfl rfl rfl rfl rfl (by decide) (by decide) ?_
    refine xw_dup (aX9_init 13 rfl) rfl ?_
    refine hw_callN (j2 := 78) (Φ2 := fun v s => v = none ∧ s = (70, 5636, hsF, fI [(23, 5, ((-1) : Int32)), (23, 4, ((-1) : Int32)), (21, 3, ((-1) : Int32)), (21, 2, ((-1) : Int32)), (21, 1, ((-1) : Int32)), (21, 0, ((-1) : Int32))], fZ, fR [(53, 15, some 69), (53, 14, some 68), (53, 13, some 67), (53, 12, some 66), (53, 11, some 65), (53, 10, some 64), (53, 9, some 63), (53, 8, some 62), (53, 7, some 61), (53, 6, some 60), (53, 5, some 59), (53, 4, some 58), (53, 3, some 57), (53, 2, some 56), (53, 1, some 55), (53, 0, some 54), (52, 0, some 53), (49, 3, some 51), (49, 2, some 50), (0, 0, some 23), (23, 3, some 43), (23, 2, some 26), (23, 1, some 25), (23, 0, some 24), (0, 11, some 22), (0, 8, some 21), (0, 7, some 20), (0, 6, some 19), (0, 5, some 1), (2, 15, some 18), (2, 14, some 17), (2, 13, some 16), (2, 12, some 15), (2, 11, some 14), (2, 10, some 13), (2, 9, some 12), (2, 8, some 11), (2, 7, some 10), (2, 6, some 9), (2, 5, some 8), (2, 4, some 7), (2, 3, some 6), (2, 2, some 5), (2, 1, some 4), (2, 0, some 3), (1, 0, some 2)])) (Bs := []) (rest := [.ref (base + 52), .ref (base + 49)]) (aX9_init 14 rfl) wc_RX9_24 (by decide) rfl wi_yX8_init rfl rfl rfl (Nat.le_of_ble_eq_true rfl) (Nat.le_of_ble_eq_true rfl) ?_ (fun v s hv => ?_)
    · refine hw_aloadn (aX8_init 0 rfl) rfl ?_
      refine hw_obj (aX8_init 1 rfl) (tin_1 (i := 35) rfl rfl) (tin_1 (i := 28) rfl rfl) (tin_1 (i := 29) rfl rfl) (Nat.le_of_ble_eq_true rfl) ?_
      refine hw_aloadn (aX8_init 2 rfl) rfl ?_
      refine hw_bp (v := (16 : Int32)) (aX8_init 3 rfl) (by decide) ?_
      refine cw_newq (k := 3) (z := 16) (n2 := 54) (sl2 := 5540) (aX8_init 4 rfl) rfl (by decide) (tin_1 (i := 36) rfl rfl) (nin_1 (i := 37) rfl rfl) (by decide) (by decide) (by decide) rfl rfl rfl rfl rfl (by decide) (by decide) ?_
      refine hv_putr (r := some 53) (aX8_init 5 rfl) wf_RX8_13 (by decide : 52 < 54) (rfl : hsF 52 = (8, 0)) (by decide) (by first | exact Or.inl ⟨_, rfl⟩ | exact Or.inr ⟨_, rfl⟩) (Or.inr ⟨rfl, rfl, rfl, wf_RX8_13F⟩) (fun F72 u71 => ?_)
      rw [fR_up] at u71; subst u71
      refine hw_ic (v := (0 : Int32)) (aX8_init 6 rfl) (by decide) ?_
      refine xw_istoren (L2 := [(1, .int (0 : Int32)), (0, .ref (base + 52))]) (aX8_init 7 rfl) (by decide) rfl ?_
      refine xw_iloadn (aX8_init 8 rfl) rfl ?_
      refine hw_aloadn (aX8_init 9 rfl) rfl ?_
      refine hw_get (v := .ref (base + 53)) (aX8_init 10 rfl) wf_RX8_13 (by decide : 52 < 54) (rfl : hsF 52 = (8, 0)) (by decide) rfl ?_
      refine hw_alen (k := 3) (z := 16) (v := (16 : Int32)) (aX8_init 11 rfl) (by decide : 53 < 54) (rfl : hsF 53 = (103, 16)) (by decide) (by decide) ?_
      refine hw_icge (tgt := 43) (aX8_init 12 rfl) (by decide) (by decide : (0 : Int32).toInt = 0) (by decide : (16 : Int32).toInt = 16) (fun cd => ?_) (fun cd => ?_)
      · exfalso; omega
      refine hw_aloadn (aX8_init 13 rfl) rfl ?_
      refine hw_get (v := .ref (base + 53)) (aX8_init 14 rfl) wf_RX8_13 (by decide : 52 < 54) (rfl : hsF 52 = (8, 0)) (by decide) rfl ?_
      refine xw_iloadn (aX8_init 15 rfl) rfl ?_
      refine cw_new (t := 5) (n2 := 55) (sl2 := 5546) (aX8_init 16 rfl) rfl (tin_1 (i := 36) rfl rfl) (tin_1 (i := 3) rfl rfl) rfl rfl rfl rfl rfl (by decide) (by decide) ?_
      refine xw_dup (aX8_init 17 rfl) rfl ?_
      refine hw_callN (j2 := 58) (Φ2 := fun v s => v = none ∧ s = (55, 5546, hsF, fI [(23, 5, ((-1) : Int32)), (23, 4, ((-1) : Int32)), (21, 3, ((-1) : Int32)), (21, 2, ((-1) : Int32)), (21, 1, ((-1) : Int32)), (21, 0, ((-1) : Int32))], fZ, fR [(52, 0, some 53), (49, 3, some 51), (49, 2, some 50), (0, 0, some 23), (23, 3, some 43), (23, 2, some 26), (23, 1, some 25), (23, 0, some 24), (0, 11, some 22), (0, 8, some 21), (0, 7, some 20), (0, 6, some 19), (0, 5, some 1), (2, 15, some 18), (2, 14, some 17), (2, 13, some 16), (2, 12, some 15), (2, 11, some 14), (2, 10, some 13), (2, 9, some 12), (2, 8, some 11), (2, 7, some 10), (2, 6, some 9), (2, 5, some 8), (2, 4, some 7), (2, 3, some 6), (2, 2, some 5), (2, 1, some 4), (2, 0, some 3), (1, 0, some 2)])) (Bs := []) (rest := [.ref (base + 54), .int (0 : Int32), .ref (base + 53)]) (aX8_init 18 rfl) wc_RX8_17 (by decide) rfl wi_yX5_init rfl rfl rfl (Nat.le_of_ble_eq_true rfl) (Nat.le_of_ble_eq_true rfl) ?_ (fun v s hv => ?_)
      · refine hw_aloadn (aX5_init 0 rfl) rfl ?_
        refine hw_obj (aX5_init 1 rfl) (tin_1 (i := 42) rfl rfl) (tin_1 (i := 28) rfl rfl) (tin_1 (i := 29) rfl rfl) (Nat.le_of_ble_eq_true rfl) ?_
        refine xw_vret (aX5_init 2 rfl) rfl ?_
        exact ⟨rfl, rfl⟩
      obtain ⟨rfl, rfl⟩ := hv
      show hw sk base _ _ _ _ _ [.ref (base + 54), .int (0 : Int32), .ref (base + 53)] _ _
      refine hv_aast (k := 3) (i2 := 0) (aX8_init 19 rfl) (by decide : 53 < 55) (rfl : hsF 53 = (103, 16)) rfl (by decide) (by decide : 54 < 55) (rfl : hsF 54 = (5, 0)) rfl (h_in (by decide : (0 : Int32).toInt = 0) (by decide) (by decide)) (by decide) (fun F74 u73 => ?_)
      rw [fR_up] at u73; subst u73
      refine xw_iinc (L2 := [(1, .int (1 : Int32)), (0, .ref (base + 52))]) (aX8_init 20 rfl) rfl (by decide) (by rw [show ((0 : Int32) + Int32.ofInt (1)) = (1 : Int32) from by decide]; rfl) ?_
      refine xw_goto (tgt := 15) (aX8_init 21 rfl) (by decide) ?_
      refine xw_iloadn (aX8_init 8 rfl) rfl ?_
      refine hw_aloadn (aX8_init 9 rfl) rfl ?_
      refine hw_get (v := .ref (base + 53)) (aX8_init 10 rfl) wf_RX8_13 (by decide : 52 < 55) (rfl : hsF 52 = (8, 0)) (by decide) rfl ?_
      refine hw_alen (k := 3) (z := 16) (v := (16 : Int32)) (aX8_init 11 rfl) (by decide : 53 < 55) (rfl : hsF 53 = (103, 16)) (by decide) (by decide) ?_
      refine hw_icge (tgt := 43) (aX8_init 12 rfl) (by decide) (by decide : (1 : Int32).toInt = 1) (by decide : (16 : Int32).toInt = 16) (fun cd => ?_) (fun cd => ?_)
      · exfalso; omega
      refine hw_aloadn (aX8_init 13 rfl) rfl ?_
      refine hw_get (v := .ref (base + 53)) (aX8_init 14 rfl) wf_RX8_13 (by decide : 52 < 55) (rfl : hsF 52 = (8, 0)) (by decide) rfl ?_
      refine xw_iloadn (aX8_init 15 rfl) rfl ?_
      refine cw_new (t := 5) (n2 := 56) (sl2 := 5552) (aX8_init 16 rfl) rfl (tin_1 (i := 36) rfl rfl) (tin_1 (i := 3) rfl rfl) rfl rfl rfl rfl rfl (by decide) (by decide) ?_
      refine xw_dup (aX8_init 17 rfl) rfl ?_
      refine hw_callN (j2 := 58) (Φ2 := fun v s => v = none ∧ s = (56, 5552, hsF, fI [(23, 5, ((-1) : Int32)), (23, 4, ((-1) : Int32)), (21, 3, ((-1) : Int32)), (21, 2, ((-1) : Int32)), (21, 1, ((-1) : Int32)), (21, 0, ((-1) : Int32))], fZ, fR [(53, 0, some 54), (52, 0, some 53), (49, 3, some 51), (49, 2, some 50), (0, 0, some 23), (23, 3, some 43), (23, 2, some 26), (23, 1, some 25), (23, 0, some 24), (0, 11, some 22), (0, 8, some 21), (0, 7, some 20), (0, 6, some 19), (0, 5, some 1), (2, 15, some 18), (2, 14, some 17), (2, 13, some 16), (2, 12, some 15), (2, 11, some 14), (2, 10, some 13), (2, 9, some 12), (2, 8, some 11), (2, 7, some 10), (2, 6, some 9), (2, 5, some 8), (2, 4, some 7), (2, 3, some 6), (2, 2, some 5), (2, 1, some 4), (2, 0, some 3), (1, 0, some 2)])) (Bs := []) (rest := [.ref (base + 55), .int (1 : Int32), .ref (base + 53)]) (aX8_init 18 rfl) wc_RX8_17 (by decide) rfl wi_yX5_init rfl rfl rfl (Nat.le_of_ble_eq_true rfl) (Nat.le_of_ble_eq_true rfl) ?_ (fun v s hv => ?_)
      · refine hw_aloadn (aX5_init 0 rfl) rfl ?_
        refine hw_obj (aX5_init 1 rfl) (tin_1 (i := 42) rfl rfl) (tin_1 (i := 28) rfl rfl) (tin_1 (i := 29) rfl rfl) (Nat.le_of_ble_eq_true rfl) ?_
        refine xw_vret (aX5_init 2 rfl) rfl ?_
        exact ⟨rfl, rfl⟩
      obtain ⟨rfl, rfl⟩ := hv
      show hw sk base _ _ _ _ _ [.ref (base + 55), .int (1 : Int32), .ref (base + 53)] _ _
      refine hv_aast (k := 3) (i2 := 1) (aX8_init 19 rfl) (by decide : 53 < 56) (rfl : hsF 53 = (103, 16)) rfl (by decide) (by decide : 55 < 56) (rfl : hsF 55 = (5, 0)) rfl (h_in (by decide : (1 : Int32).toInt = 1) (by decide) (by decide)) (by decide) (fun F76 u75 => ?_)
      rw [fR_up] at u75; subst u75
      refine xw_iinc (L2 := [(1, .int (2 : Int32)), (0, .ref (base + 52))]) (aX8_init 20 rfl) rfl (by decide) (by rw [show ((1 : Int32) + Int32.ofInt (1)) = (2 : Int32) from by decide]; rfl) ?_
      refine xw_goto (tgt := 15) (aX8_init 21 rfl) (by decide) ?_
      refine xw_iloadn (aX8_init 8 rfl) rfl ?_
      refine hw_aloadn (aX8_init 9 rfl) rfl ?_
      refine hw_get (v := .ref (base + 53)) (aX8_init 10 rfl) wf_RX8_13 (by decide : 52 < 56) (rfl : hsF 52 = (8, 0)) (by decide) rfl ?_
      refine hw_alen (k := 3) (z := 16) (v := (16 : Int32)) (aX8_init 11 rfl) (by decide : 53 < 56) (rfl : hsF 53 = (103, 16)) (by decide) (by decide) ?_
      refine hw_icge (tgt := 43) (aX8_init 12 rfl) (by decide) (by decide : (2 : Int32).toInt = 2) (by decide : (16 : Int32).toInt = 16) (fun cd => ?_) (fun cd => ?_)
      · exfalso; omega
      refine hw_aloadn (aX8_init 13 rfl) rfl ?_
      refine hw_get (v := .ref (base + 53)) (aX8_init 14 rfl) wf_RX8_13 (by decide : 52 < 56) (rfl : hsF 52 = (8, 0)) (by decide) rfl ?_
      refine xw_iloadn (aX8_init 15 rfl) rfl ?_
      refine cw_new (t := 5) (n2 := 57) (sl2 := 5558) (aX8_init 16 rfl) rfl (tin_1 (i := 36) rfl rfl) (tin_1 (i := 3) rfl rfl) rfl rfl rfl rfl rfl (by decide) (by decide) ?_
      refine xw_dup (aX8_init 17 rfl) rfl ?_
      refine hw_callN (j2 := 58) (Φ2 := fun v s => v = none ∧ s = (57, 5558, hsF, fI [(23, 5, ((-1) : Int32)), (23, 4, ((-1) : Int32)), (21, 3, ((-1) : Int32)), (21, 2, ((-1) : Int32)), (21, 1, ((-1) : Int32)), (21, 0, ((-1) : Int32))], fZ, fR [(53, 1, some 55), (53, 0, some 54), (52, 0, some 53), (49, 3, some 51), (49, 2, some 50), (0, 0, some 23), (23, 3, some 43), (23, 2, some 26), (23, 1, some 25), (23, 0, some 24), (0, 11, some 22), (0, 8, some 21), (0, 7, some 20), (0, 6, some 19), (0, 5, some 1), (2, 15, some 18), (2, 14, some 17), (2, 13, some 16), (2, 12, some 15), (2, 11, some 14), (2, 10, some 13), (2, 9, some 12), (2, 8, some 11), (2, 7, some 10), (2, 6, some 9), (2, 5, some 8), (2, 4, some 7), (2, 3, some 6), (2, 2, some 5), (2, 1, some 4), (2, 0, some 3), (1, 0, some 2)])) (Bs := []) (rest := [.ref (base + 56), .int (2 : Int32), .ref (base + 53)]) (aX8_init 18 rfl) wc_RX8_17 (by decide) rfl wi_yX5_init rfl rfl rfl (Nat.le_of_ble_eq_true rfl) (Nat.le_of_ble_eq_true rfl) ?_ (fun v s hv => ?_)
      · refine hw_aloadn (aX5_init 0 rfl) rfl ?_
        refine hw_obj (aX5_init 1 rfl) (tin_1 (i := 42) rfl rfl) (tin_1 (i := 28) rfl rfl) (tin_1 (i := 29) rfl rfl) (Nat.le_of_ble_eq_true rfl) ?_
        refine xw_vret (aX5_init 2 rfl) rfl ?_
        exact ⟨rfl, rfl⟩
      obtain ⟨rfl, rfl⟩ := hv
      show hw sk base _ _ _ _ _ [.ref (base + 56), .int (2 : Int32), .ref (base + 53)] _ _
      refine hv_aast (k := 3) (i2 := 2) (aX8_init 19 rfl) (by decide : 53 < 57) (rfl : hsF 53 = (103, 16)) rfl (by decide) (by decide : 56 < 57) (rfl : hsF 56 = (5, 0)) rfl (h_in (by decide : (2 : Int32).toInt = 2) (by decide) (by decide)) (by decide) (fun F78 u77 => ?_)
      rw [fR_up] at u77; subst u77
      refine xw_iinc (L2 := [(1, .int (3 : Int32)), (0, .ref (base + 52))]) (aX8_init 20 rfl) rfl (by decide) (by rw [show ((2 : Int32) + Int32.ofInt (1)) = (3 : Int32) from by decide]; rfl) ?_
      refine xw_goto (tgt := 15) (aX8_init 21 rfl) (by decide) ?_
      refine xw_iloadn (aX8_init 8 rfl) rfl ?_
      refine hw_aloadn (aX8_init 9 rfl) rfl ?_
      refine hw_get (v := .ref (base + 53)) (aX8_init 10 rfl) wf_RX8_13 (by decide : 52 < 57) (rfl : hsF 52 = (8, 0)) (by decide) rfl ?_
      refine hw_alen (k := 3) (z := 16) (v := (16 : Int32)) (aX8_init 11 rfl) (by decide : 53 < 57) (rfl : hsF 53 = (103, 16)) (by decide) (by decide) ?_
      refine hw_icge (tgt := 43) (aX8_init 12 rfl) (by decide) (by decide : (3 : Int32).toInt = 3) (by decide : (16 : Int32).toInt = 16) (fun cd => ?_) (fun cd => ?_)
      · exfalso; omega
      refine hw_aloadn (aX8_init 13 rfl) rfl ?_
      refine hw_get (v := .ref (base + 53)) (aX8_init 14 rfl) wf_RX8_13 (by decide : 52 < 57) (rfl : hsF 52 = (8, 0)) (by decide) rfl ?_
      refine xw_iloadn (aX8_init 15 rfl) rfl ?_
      refine cw_new (t := 5) (n2 := 58) (sl2 := 5564) (aX8_init 16 rfl) rfl (tin_1 (i := 36) rfl rfl) (tin_1 (i := 3) rfl rfl) rfl rfl rfl rfl rfl (by decide) (by decide) ?_
      refine xw_dup (aX8_init 17 rfl) rfl ?_
      refine hw_callN (j2 := 58) (Φ2 := fun v s => v = none ∧ s = (58, 5564, hsF, fI [(23, 5, ((-1) : Int32)), (23, 4, ((-1) : Int32)), (21, 3, ((-1) : Int32)), (21, 2, ((-1) : Int32)), (21, 1, ((-1) : Int32)), (21, 0, ((-1) : Int32))], fZ, fR [(53, 2, some 56), (53, 1, some 55), (53, 0, some 54), (52, 0, some 53), (49, 3, some 51), (49, 2, some 50), (0, 0, some 23), (23, 3, some 43), (23, 2, some 26), (23, 1, some 25), (23, 0, some 24), (0, 11, some 22), (0, 8, some 21), (0, 7, some 20), (0, 6, some 19), (0, 5, some 1), (2, 15, some 18), (2, 14, some 17), (2, 13, some 16), (2, 12, some 15), (2, 11, some 14), (2, 10, some 13), (2, 9, some 12), (2, 8, some 11), (2, 7, some 10), (2, 6, some 9), (2, 5, some 8), (2, 4, some 7), (2, 3, some 6), (2, 2, some 5), (2, 1, some 4), (2, 0, some 3), (1, 0, some 2)])) (Bs := []) (rest := [.ref (base + 57), .int (3 : Int32), .ref (base + 53)]) (aX8_init 18 rfl) wc_RX8_17 (by decide) rfl wi_yX5_init rfl rfl rfl (Nat.le_of_ble_eq_true rfl) (Nat.le_of_ble_eq_true rfl) ?_ (fun v s hv => ?_)
      · refine hw_aloadn (aX5_init 0 rfl) rfl ?_
        refine hw_obj (aX5_init 1 rfl) (tin_1 (i := 42) rfl rfl) (tin_1 (i := 28) rfl rfl) (tin_1 (i := 29) rfl rfl) (Nat.le_of_ble_eq_true rfl) ?_
        refine xw_vret (aX5_init 2 rfl) rfl ?_
        exact ⟨rfl, rfl⟩
      obtain ⟨rfl, rfl⟩ := hv
      show hw sk base _ _ _ _ _ [.ref (base + 57), .int (3 : Int32), .ref (base + 53)] _ _
      refine hv_aast (k := 3) (i2 := 3) (aX8_init 19 rfl) (by decide : 53 < 58) (rfl : hsF 53 = (103, 16)) rfl (by decide) (by decide : 57 < 58) (rfl : hsF 57 = (5, 0)) rfl (h_in (by decide : (3 : Int32).toInt = 3) (by decide) (by decide)) (by decide) (fun F80 u79 => ?_)
      rw [fR_up] at u79; subst u79
      refine xw_iinc (L2 := [(1, .int (4 : Int32)), (0, .ref (base + 52))]) (aX8_init 20 rfl) rfl (by decide) (by rw [show ((3 : Int32) + Int32.ofInt (1)) = (4 : Int32) from by decide]; rfl) ?_
      refine xw_goto (tgt := 15) (aX8_init 21 rfl) (by decide) ?_
      refine xw_iloadn (aX8_init 8 rfl) rfl ?_
      refine hw_aloadn (aX8_init 9 rfl) rfl ?_
      refine hw_get (v := .ref (base + 53)) (aX8_init 10 rfl) wf_RX8_13 (by decide : 52 < 58) (rfl : hsF 52 = (8, 0)) (by decide) rfl ?_
      refine hw_alen (k := 3) (z := 16) (v := (16 : Int32)) (aX8_init 11 rfl) (by decide : 53 < 58) (rfl : hsF 53 = (103, 16)) (by decide) (by decide) ?_
      refine hw_icge (tgt := 43) (aX8_init 12 rfl) (by decide) (by decide : (4 : Int32).toInt = 4) (by decide : (16 : Int32).toInt = 16) (fun cd => ?_) (fun cd => ?_)
      · exfalso; omega
      refine hw_aloadn (aX8_init 13 rfl) rfl ?_
      refine hw_get (v := .ref (base + 53)) (aX8_init 14 rfl) wf_RX8_13 (by decide : 52 < 58) (rfl : hsF 52 = (8, 0)) (by decide) rfl ?_
      refine xw_iloadn (aX8_init 15 rfl) rfl ?_
      refine cw_new (t := 5) (n2 := 59) (sl2 := 5570) (aX8_init 16 rfl) rfl (tin_1 (i := 36) rfl rfl) (tin_1 (i := 3) rfl rfl) rfl rfl rfl rfl rfl (by decide) (by decide) ?_
      refine xw_dup (aX8_init 17 rfl) rfl ?_
      refine hw_callN (j2 := 58) (Φ2 := fun v s => v = none ∧ s = (59, 5570, hsF, fI [(23, 5, ((-1) : Int32)), (23, 4, ((-1) : Int32)), (21, 3, ((-1) : Int32)), (21, 2, ((-1) : Int32)), (21, 1, ((-1) : Int32)), (21, 0, ((-1) : Int32))], fZ, fR [(53, 3, some 57), (53, 2, some 56), (53, 1, some 55), (53, 0, some 54), (52, 0, some 53), (49, 3, some 51), (49, 2, some 50), (0, 0, some 23), (23, 3, some 43), (23, 2, some 26), (23, 1, some 25), (23, 0, some 24), (0, 11, some 22), (0, 8, some 21), (0, 7, some 20), (0, 6, some 19), (0, 5, some 1), (2, 15, some 18), (2, 14, some 17), (2, 13, some 16), (2, 12, some 15), (2, 11, some 14), (2, 10, some 13), (2, 9, some 12), (2, 8, some 11), (2, 7, some 10), (2, 6, some 9), (2, 5, some 8), (2, 4, some 7), (2, 3, some 6), (2, 2, some 5), (2, 1, some 4), (2, 0, some 3), (1, 0, some 2)])) (Bs := []) (rest := [.ref (base + 58), .int (4 : Int32), .ref (base + 53)]) (aX8_init 18 rfl) wc_RX8_17 (by decide) rfl wi_yX5_init rfl rfl rfl (Nat.le_of_ble_eq_true rfl) (Nat.le_of_ble_eq_true rfl) ?_ (fun v s hv => ?_)
      · refine hw_aloadn (aX5_init 0 rfl) rfl ?_
        refine hw_obj (aX5_init 1 rfl) (tin_1 (i := 42) rfl rfl) (tin_1 (i := 28) rfl rfl) (tin_1 (i := 29) rfl rfl) (Nat.le_of_ble_eq_true rfl) ?_
        refine xw_vret (aX5_init 2 rfl) rfl ?_
        exact ⟨rfl, rfl⟩
      obtain ⟨rfl, rfl⟩ := hv
      show hw sk base _ _ _ _ _ [.ref (base + 58), .int (4 : Int32), .ref (base + 53)] _ _
      refine hv_aast (k := 3) (i2 := 4) (aX8_init 19 rfl) (by decide : 53 < 59) (rfl : hsF 53 = (103, 16)) rfl (by decide) (by decide : 58 < 59) (rfl : hsF 58 = (5, 0)) rfl (h_in (by decide : (4 : Int32).toInt = 4) (by decide) (by decide)) (by decide) (fun F82 u81 => ?_)
      rw [fR_up] at u81; subst u81
      refine xw_iinc (L2 := [(1, .int (5 : Int32)), (0, .ref (base + 52))]) (aX8_init 20 rfl) rfl (by decide) (by rw [show ((4 : Int32) + Int32.ofInt (1)) = (5 : Int32) from by decide]; rfl) ?_
      refine xw_goto (tgt := 15) (aX8_init 21 rfl) (by decide) ?_
      refine xw_iloadn (aX8_init 8 rfl) rfl ?_
      refine hw_aloadn (aX8_init 9 rfl) rfl ?_
      refine hw_get (v := .ref (base + 53)) (aX8_init 10 rfl) wf_RX8_13 (by decide : 52 < 59) (rfl : hsF 52 = (8, 0)) (by decide) rfl ?_
      refine hw_alen (k := 3) (z := 16) (v := (16 : Int32)) (aX8_init 11 rfl) (by decide : 53 < 59) (rfl : hsF 53 = (103, 16)) (by decide) (by decide) ?_
      refine hw_icge (tgt := 43) (aX8_init 12 rfl) (by decide) (by decide : (5 : Int32).toInt = 5) (by decide : (16 : Int32).toInt = 16) (fun cd => ?_) (fun cd => ?_)
      · exfalso; omega
      refine hw_aloadn (aX8_init 13 rfl) rfl ?_
      refine hw_get (v := .ref (base + 53)) (aX8_init 14 rfl) wf_RX8_13 (by decide : 52 < 59) (rfl : hsF 52 = (8, 0)) (by decide) rfl ?_
      refine xw_iloadn (aX8_init 15 rfl) rfl ?_
      refine cw_new (t := 5) (n2 := 60) (sl2 := 5576) (aX8_init 16 rfl) rfl (tin_1 (i := 36) rfl rfl) (tin_1 (i := 3) rfl rfl) rfl rfl rfl rfl rfl (by decide) (by decide) ?_
      refine xw_dup (aX8_init 17 rfl) rfl ?_
      refine hw_callN (j2 := 58) (Φ2 := fun v s => v = none ∧ s = (60, 5576, hsF, fI [(23, 5, ((-1) : Int32)), (23, 4, ((-1) : Int32)), (21, 3, ((-1) : Int32)), (21, 2, ((-1) : Int32)), (21, 1, ((-1) : Int32)), (21, 0, ((-1) : Int32))], fZ, fR [(53, 4, some 58), (53, 3, some 57), (53, 2, some 56), (53, 1, some 55), (53, 0, some 54), (52, 0, some 53), (49, 3, some 51), (49, 2, some 50), (0, 0, some 23), (23, 3, some 43), (23, 2, some 26), (23, 1, some 25), (23, 0, some 24), (0, 11, some 22), (0, 8, some 21), (0, 7, some 20), (0, 6, some 19), (0, 5, some 1), (2, 15, some 18), (2, 14, some 17), (2, 13, some 16), (2, 12, some 15), (2, 11, some 14), (2, 10, some 13), (2, 9, some 12), (2, 8, some 11), (2, 7, some 10), (2, 6, some 9), (2, 5, some 8), (2, 4, some 7), (2, 3, some 6), (2, 2, some 5), (2, 1, some 4), (2, 0, some 3), (1, 0, some 2)])) (Bs := []) (rest := [.ref (base + 59), .int (5 : Int32), .ref (base + 53)]) (aX8_init 18 rfl) wc_RX8_17 (by decide) rfl wi_yX5_init rfl rfl rfl (Nat.le_of_ble_eq_true rfl) (Nat.le_of_ble_eq_true rfl) ?_ (fun v s hv => ?_)
      · refine hw_aloadn (aX5_init 0 rfl) rfl ?_
        refine hw_obj (aX5_init 1 rfl) (tin_1 (i := 42) rfl rfl) (tin_1 (i := 28) rfl rfl) (tin_1 (i := 29) rfl rfl) (Nat.le_of_ble_eq_true rfl) ?_
        refine xw_vret (aX5_init 2 rfl) rfl ?_
        exact ⟨rfl, rfl⟩
      obtain ⟨rfl, rfl⟩ := hv
      show hw sk base _ _ _ _ _ [.ref (base + 59), .int (5 : Int32), .ref (base + 53)] _ _
      refine hv_aast (k := 3) (i2 := 5) (aX8_init 19 rfl) (by decide : 53 < 60) (rfl : hsF 53 = (103, 16)) rfl (by decide) (by decide : 59 < 60) (rfl : hsF 59 = (5, 0)) rfl (h_in (by decide : (5 : Int32).toInt = 5) (by decide) (by decide)) (by decide) (fun F84 u83 => ?_)
      rw [fR_up] at u83; subst u83
      refine xw_iinc (L2 := [(1, .int (6 : Int32)), (0, .ref (base + 52))]) (aX8_init 20 rfl) rfl (by decide) (by rw [show ((5 : Int32) + Int32.ofInt (1)) = (6 : Int32) from by decide]; rfl) ?_
      refine xw_goto (tgt := 15) (aX8_init 21 rfl) (by decide) ?_
      refine xw_iloadn (aX8_init 8 rfl) rfl ?_
      refine hw_aloadn (aX8_init 9 rfl) rfl ?_
      refine hw_get (v := .ref (base + 53)) (aX8_init 10 rfl) wf_RX8_13 (by decide : 52 < 60) (rfl : hsF 52 = (8, 0)) (by decide) rfl ?_
      refine hw_alen (k := 3) (z := 16) (v := (16 : Int32)) (aX8_init 11 rfl) (by decide : 53 < 60) (rfl : hsF 53 = (103, 16)) (by decide) (by decide) ?_
      refine hw_icge (tgt := 43) (aX8_init 12 rfl) (by decide) (by decide : (6 : Int32).toInt = 6) (by decide : (16 : Int32).toInt = 16) (fun cd => ?_) (fun cd => ?_)
      · exfalso; omega
      refine hw_aloadn (aX8_init 13 rfl) rfl ?_
      refine hw_get (v := .ref (base + 53)) (aX8_init 14 rfl) wf_RX8_13 (by decide : 52 < 60) (rfl : hsF 52 = (8, 0)) (by decide) rfl ?_
      refine xw_iloadn (aX8_init 15 rfl) rfl ?_
      refine cw_new (t := 5) (n2 := 61) (sl2 := 5582) (aX8_init 16 rfl) rfl (tin_1 (i := 36) rfl rfl) (tin_1 (i := 3) rfl rfl) rfl rfl rfl rfl rfl (by decide) (by decide) ?_
      refine xw_dup (aX8_init 17 rfl) rfl ?_
      refine hw_callN (j2 := 58) (Φ2 := fun v s => v = none ∧ s = (61, 5582, hsF, fI [(23, 5, ((-1) : Int32)), (23, 4, ((-1) : Int32)), (21, 3, ((-1) : Int32)), (21, 2, ((-1) : Int32)), (21, 1, ((-1) : Int32)), (21, 0, ((-1) : Int32))], fZ, fR [(53, 5, some 59), (53, 4, some 58), (53, 3, some 57), (53, 2, some 56), (53, 1, some 55), (53, 0, some 54), (52, 0, some 53), (49, 3, some 51), (49, 2, some 50), (0, 0, some 23), (23, 3, some 43), (23, 2, some 26), (23, 1, some 25), (23, 0, some 24), (0, 11, some 22), (0, 8, some 21), (0, 7, some 20), (0, 6, some 19), (0, 5, some 1), (2, 15, some 18), (2, 14, some 17), (2, 13, some 16), (2, 12, some 15), (2, 11, some 14), (2, 10, some 13), (2, 9, some 12), (2, 8, some 11), (2, 7, some 10), (2, 6, some 9), (2, 5, some 8), (2, 4, some 7), (2, 3, some 6), (2, 2, some 5), (2, 1, some 4), (2, 0, some 3), (1, 0, some 2)])) (Bs := []) (rest := [.ref (base + 60), .int (6 : Int32), .ref (base + 53)]) (aX8_init 18 rfl) wc_RX8_17 (by decide) rfl wi_yX5_init rfl rfl rfl (Nat.le_of_ble_eq_true rfl) (Nat.le_of_ble_eq_true rfl) ?_ (fun v s hv => ?_)
      · refine hw_aloadn (aX5_init 0 rfl) rfl ?_
        refine hw_obj (aX5_init 1 rfl) (tin_1 (i := 42) rfl rfl) (tin_1 (i := 28) rfl rfl) (tin_1 (i := 29) rfl rfl) (Nat.le_of_ble_eq_true rfl) ?_
        refine xw_vret (aX5_init 2 rfl) rfl ?_
        exact ⟨rfl, rfl⟩
      obtain ⟨rfl, rfl⟩ := hv
      show hw sk base _ _ _ _ _ [.ref (base + 60), .int (6 : Int32), .ref (base + 53)] _ _
      refine hv_aast (k := 3) (i2 := 6) (aX8_init 19 rfl) (by decide : 53 < 61) (rfl : hsF 53 = (103, 16)) rfl (by decide) (by decide : 60 < 61) (rfl : hsF 60 = (5, 0)) rfl (h_in (by decide : (6 : Int32).toInt = 6) (by decide) (by decide)) (by decide) (fun F86 u85 => ?_)
      rw [fR_up] at u85; subst u85
      refine xw_iinc (L2 := [(1, .int (7 : Int32)), (0, .ref (base + 52))]) (aX8_init 20 rfl) rfl (by decide) (by rw [show ((6 : Int32) + Int32.ofInt (1)) = (7 : Int32) from by decide]; rfl) ?_
      refine xw_goto (tgt := 15) (aX8_init 21 rfl) (by decide) ?_
      refine xw_iloadn (aX8_init 8 rfl) rfl ?_
      refine hw_aloadn (aX8_init 9 rfl) rfl ?_
      refine hw_get (v := .ref (base + 53)) (aX8_init 10 rfl) wf_RX8_13 (by decide : 52 < 61) (rfl : hsF 52 = (8, 0)) (by decide) rfl ?_
      refine hw_alen (k := 3) (z := 16) (v := (16 : Int32)) (aX8_init 11 rfl) (by decide : 53 < 61) (rfl : hsF 53 = (103, 16)) (by decide) (by decide) ?_
      refine hw_icge (tgt := 43) (aX8_init 12 rfl) (by decide) (by decide : (7 : Int32).toInt = 7) (by decide : (16 : Int32).toInt = 16) (fun cd => ?_) (fun cd => ?_)
      · exfalso; omega
      refine hw_aloadn (aX8_init 13 rfl) rfl ?_
      refine hw_get (v := .ref (base + 53)) (aX8_init 14 rfl) wf_RX8_13 (by decide : 52 < 61) (rfl : hsF 52 = (8, 0)) (by decide) rfl ?_
      refine xw_iloadn (aX8_init 15 rfl) rfl ?_
      refine cw_new (t := 5) (n2 := 62) (sl2 := 5588) (aX8_init 16 rfl) rfl (tin_1 (i := 36) rfl rfl) (tin_1 (i := 3) rfl rfl) rfl rfl rfl rfl rfl (by decide) (by decide) ?_
      refine xw_dup (aX8_init 17 rfl) rfl ?_
      refine hw_callN (j2 := 58) (Φ2 := fun v s => v = none ∧ s = (62, 5588, hsF, fI [(23, 5, ((-1) : Int32)), (23, 4, ((-1) : Int32)), (21, 3, ((-1) : Int32)), (21, 2, ((-1) : Int32)), (21, 1, ((-1) : Int32)), (21, 0, ((-1) : Int32))], fZ, fR [(53, 6, some 60), (53, 5, some 59), (53, 4, some 58), (53, 3, some 57), (53, 2, some 56), (53, 1, some 55), (53, 0, some 54), (52, 0, some 53), (49, 3, some 51), (49, 2, some 50), (0, 0, some 23), (23, 3, some 43), (23, 2, some 26), (23, 1, some 25), (23, 0, some 24), (0, 11, some 22), (0, 8, some 21), (0, 7, some 20), (0, 6, some 19), (0, 5, some 1), (2, 15, some 18), (2, 14, some 17), (2, 13, some 16), (2, 12, some 15), (2, 11, some 14), (2, 10, some 13), (2, 9, some 12), (2, 8, some 11), (2, 7, some 10), (2, 6, some 9), (2, 5, some 8), (2, 4, some 7), (2, 3, some 6), (2, 2, some 5), (2, 1, some 4), (2, 0, some 3), (1, 0, some 2)])) (Bs := []) (rest := [.ref (base + 61), .int (7 : Int32), .ref (base + 53)]) (aX8_init 18 rfl) wc_RX8_17 (by decide) rfl wi_yX5_init rfl rfl rfl (Nat.le_of_ble_eq_true rfl) (Nat.le_of_ble_eq_true rfl) ?_ (fun v s hv => ?_)
      · refine hw_aloadn (aX5_init 0 rfl) rfl ?_
        refine hw_obj (aX5_init 1 rfl) (tin_1 (i := 42) rfl rfl) (tin_1 (i := 28) rfl rfl) (tin_1 (i := 29) rfl rfl) (Nat.le_of_ble_eq_true rfl) ?_
        refine xw_vret (aX5_init 2 rfl) rfl ?_
        exact ⟨rfl, rfl⟩
      obtain ⟨rfl, rfl⟩ := hv
      show hw sk base _ _ _ _ _ [.ref (base + 61), .int (7 : Int32), .ref (base + 53)] _ _
      refine hv_aast (k := 3) (i2 := 7) (aX8_init 19 rfl) (by decide : 53 < 62) (rfl : hsF 53 = (103, 16)) rfl (by decide) (by decide : 61 < 62) (rfl : hsF 61 = (5, 0)) rfl (h_in (by decide : (7 : Int32).toInt = 7) (by decide) (by decide)) (by decide) (fun F88 u87 => ?_)
      rw [fR_up] at u87; subst u87
      refine xw_iinc (L2 := [(1, .int (8 : Int32)), (0, .ref (base + 52))]) (aX8_init 20 rfl) rfl (by decide) (by rw [show ((7 : Int32) + Int32.ofInt (1)) = (8 : Int32) from by decide]; rfl) ?_
      refine xw_goto (tgt := 15) (aX8_init 21 rfl) (by decide) ?_
      refine xw_iloadn (aX8_init 8 rfl) rfl ?_
      refine hw_aloadn (aX8_init 9 rfl) rfl ?_
      refine hw_get (v := .ref (base + 53)) (aX8_init 10 rfl) wf_RX8_13 (by decide : 52 < 62) (rfl : hsF 52 = (8, 0)) (by decide) rfl ?_
      refine hw_alen (k := 3) (z := 16) (v := (16 : Int32)) (aX8_init 11 rfl) (by decide : 53 < 62) (rfl : hsF 53 = (103, 16)) (by decide) (by decide) ?_
      refine hw_icge (tgt := 43) (aX8_init 12 rfl) (by decide) (by decide : (8 : Int32).toInt = 8) (by decide : (16 : Int32).toInt = 16) (fun cd => ?_) (fun cd => ?_)
      · exfalso; omega
      refine hw_aloadn (aX8_init 13 rfl) rfl ?_
      refine hw_get (v := .ref (base + 53)) (aX8_init 14 rfl) wf_RX8_13 (by decide : 52 < 62) (rfl : hsF 52 = (8, 0)) (by decide) rfl ?_
      refine xw_iloadn (aX8_init 15 rfl) rfl ?_
      refine cw_new (t := 5) (n2 := 63) (sl2 := 5594) (aX8_init 16 rfl) rfl (tin_1 (i := 36) rfl rfl) (tin_1 (i := 3) rfl rfl) rfl rfl rfl rfl rfl (by decide) (by decide) ?_
      refine xw_dup (aX8_init 17 rfl) rfl ?_
      refine hw_callN (j2 := 58) (Φ2 := fun v s => v = none ∧ s = (63, 5594, hsF, fI [(23, 5, ((-1) : Int32)), (23, 4, ((-1) : Int32)), (21, 3, ((-1) : Int32)), (21, 2, ((-1) : Int32)), (21, 1, ((-1) : Int32)), (21, 0, ((-1) : Int32))], fZ, fR [(53, 7, some 61), (53, 6, some 60), (53, 5, some 59), (53, 4, some 58), (53, 3, some 57), (53, 2, some 56), (53, 1, some 55), (53, 0, some 54), (52, 0, some 53), (49, 3, some 51), (49, 2, some 50), (0, 0, some 23), (23, 3, some 43), (23, 2, some 26), (23, 1, some 25), (23, 0, some 24), (0, 11, some 22), (0, 8, some 21), (0, 7, some 20), (0, 6, some 19), (0, 5, some 1), (2, 15, some 18), (2, 14, some 17), (2, 13, some 16), (2, 12, some 15), (2, 11, some 14), (2, 10, some 13), (2, 9, some 12), (2, 8, some 11), (2, 7, some 10), (2, 6, some 9), (2, 5, some 8), (2, 4, some 7), (2, 3, some 6), (2, 2, some 5), (2, 1, some 4), (2, 0, some 3), (1, 0, some 2)])) (Bs := []) (rest := [.ref (base + 62), .int (8 : Int32), .ref (base + 53)]) (aX8_init 18 rfl) wc_RX8_17 (by decide) rfl wi_yX5_init rfl rfl rfl (Nat.le_of_ble_eq_true rfl) (Nat.le_of_ble_eq_true rfl) ?_ (fun v s hv => ?_)
      · refine hw_aloadn (aX5_init 0 rfl) rfl ?_
        refine hw_obj (aX5_init 1 rfl) (tin_1 (i := 42) rfl rfl) (tin_1 (i := 28) rfl rfl) (tin_1 (i := 29) rfl rfl) (Nat.le_of_ble_eq_true rfl) ?_
        refine xw_vret (aX5_init 2 rfl) rfl ?_
        exact ⟨rfl, rfl⟩
      obtain ⟨rfl, rfl⟩ := hv
      show hw sk base _ _ _ _ _ [.ref (base + 62), .int (8 : Int32), .ref (base + 53)] _ _
      refine hv_aast (k := 3) (i2 := 8) (aX8_init 19 rfl) (by decide : 53 < 63) (rfl : hsF 53 = (103, 16)) rfl (by decide) (by decide : 62 < 63) (rfl : hsF 62 = (5, 0)) rfl (h_in (by decide : (8 : Int32).toInt = 8) (by decide) (by decide)) (by decide) (fun F90 u89 => ?_)
      rw [fR_up] at u89; subst u89
      refine xw_iinc (L2 := [(1, .int (9 : Int32)), (0, .ref (base + 52))]) (aX8_init 20 rfl) rfl (by decide) (by rw [show ((8 : Int32) + Int32.ofInt (1)) = (9 : Int32) from by decide]; rfl) ?_
      refine xw_goto (tgt := 15) (aX8_init 21 rfl) (by decide) ?_
      refine xw_iloadn (aX8_init 8 rfl) rfl ?_
      refine hw_aloadn (aX8_init 9 rfl) rfl ?_
      refine hw_get (v := .ref (base + 53)) (aX8_init 10 rfl) wf_RX8_13 (by decide : 52 < 63) (rfl : hsF 52 = (8, 0)) (by decide) rfl ?_
      refine hw_alen (k := 3) (z := 16) (v := (16 : Int32)) (aX8_init 11 rfl) (by decide : 53 < 63) (rfl : hsF 53 = (103, 16)) (by decide) (by decide) ?_
      refine hw_icge (tgt := 43) (aX8_init 12 rfl) (by decide) (by decide : (9 : Int32).toInt = 9) (by decide : (16 : Int32).toInt = 16) (fun cd => ?_) (fun cd => ?_)
      · exfalso; omega
      refine hw_aloadn (aX8_init 13 rfl) rfl ?_
      refine hw_get (v := .ref (base + 53)) (aX8_init 14 rfl) wf_RX8_13 (by decide : 52 < 63) (rfl : hsF 52 = (8, 0)) (by decide) rfl ?_
      refine xw_iloadn (aX8_init 15 rfl) rfl ?_
      refine cw_new (t := 5) (n2 := 64) (sl2 := 5600) (aX8_init 16 rfl) rfl (tin_1 (i := 36) rfl rfl) (tin_1 (i := 3) rfl rfl) rfl rfl rfl rfl rfl (by decide) (by decide) ?_
      refine xw_dup (aX8_init 17 rfl) rfl ?_
      refine hw_callN (j2 := 58) (Φ2 := fun v s => v = none ∧ s = (64, 5600, hsF, fI [(23, 5, ((-1) : Int32)), (23, 4, ((-1) : Int32)), (21, 3, ((-1) : Int32)), (21, 2, ((-1) : Int32)), (21, 1, ((-1) : Int32)), (21, 0, ((-1) : Int32))], fZ, fR [(53, 8, some 62), (53, 7, some 61), (53, 6, some 60), (53, 5, some 59), (53, 4, some 58), (53, 3, some 57), (53, 2, some 56), (53, 1, some 55), (53, 0, some 54), (52, 0, some 53), (49, 3, some 51), (49, 2, some 50), (0, 0, some 23), (23, 3, some 43), (23, 2, some 26), (23, 1, some 25), (23, 0, some 24), (0, 11, some 22), (0, 8, some 21), (0, 7, some 20), (0, 6, some 19), (0, 5, some 1), (2, 15, some 18), (2, 14, some 17), (2, 13, some 16), (2, 12, some 15), (2, 11, some 14), (2, 10, some 13), (2, 9, some 12), (2, 8, some 11), (2, 7, some 10), (2, 6, some 9), (2, 5, some 8), (2, 4, some 7), (2, 3, some 6), (2, 2, some 5), (2, 1, some 4), (2, 0, some 3), (1, 0, some 2)])) (Bs := []) (rest := [.ref (base + 63), .int (9 : Int32), .ref (base + 53)]) (aX8_init 18 rfl) wc_RX8_17 (by decide) rfl wi_yX5_init rfl rfl rfl (Nat.le_of_ble_eq_true rfl) (Nat.le_of_ble_eq_true rfl) ?_ (fun v s hv => ?_)
      · refine hw_aloadn (aX5_init 0 rfl) rfl ?_
        refine hw_obj (aX5_init 1 rfl) (tin_1 (i := 42) rfl rfl) (tin_1 (i := 28) rfl rfl) (tin_1 (i := 29) rfl rfl) (Nat.le_of_ble_eq_true rfl) ?_
        refine xw_vret (aX5_init 2 rfl) rfl ?_
        exact ⟨rfl, rfl⟩
      obtain ⟨rfl, rfl⟩ := hv
      show hw sk base _ _ _ _ _ [.ref (base + 63), .int (9 : Int32), .ref (base + 53)] _ _
      refine hv_aast (k := 3) (i2 := 9) (aX8_init 19 rfl) (by decide : 53 < 64) (rfl : hsF 53 = (103, 16)) rfl (by decide) (by decide : 63 < 64) (rfl : hsF 63 = (5, 0)) rfl (h_in (by decide : (9 : Int32).toInt = 9) (by decide) (by decide)) (by decide) (fun F92 u91 => ?_)
      rw [fR_up] at u91; subst u91
      refine xw_iinc (L2 := [(1, .int (10 : Int32)), (0, .ref (base + 52))]) (aX8_init 20 rfl) rfl (by decide) (by rw [show ((9 : Int32) + Int32.ofInt (1)) = (10 : Int32) from by decide]; rfl) ?_
      refine xw_goto (tgt := 15) (aX8_init 21 rfl) (by decide) ?_
      refine xw_iloadn (aX8_init 8 rfl) rfl ?_
      refine hw_aloadn (aX8_init 9 rfl) rfl ?_
      refine hw_get (v := .ref (base + 53)) (aX8_init 10 rfl) wf_RX8_13 (by decide : 52 < 64) (rfl : hsF 52 = (8, 0)) (by decide) rfl ?_
      refine hw_alen (k := 3) (z := 16) (v := (16 : Int32)) (aX8_init 11 rfl) (by decide : 53 < 64) (rfl : hsF 53 = (103, 16)) (by decide) (by decide) ?_
      refine hw_icge (tgt := 43) (aX8_init 12 rfl) (by decide) (by decide : (10 : Int32).toInt = 10) (by decide : (16 : Int32).toInt = 16) (fun cd => ?_) (fun cd => ?_)
      · exfalso; omega
      refine hw_aloadn (aX8_init 13 rfl) rfl ?_
      refine hw_get (v := .ref (base + 53)) (aX8_init 14 rfl) wf_RX8_13 (by decide : 52 < 64) (rfl : hsF 52 = (8, 0)) (by decide) rfl ?_
      refine xw_iloadn (aX8_init 15 rfl) rfl ?_
      refine cw_new (t := 5) (n2 := 65) (sl2 := 5606) (aX8_init 16 rfl) rfl (tin_1 (i := 36) rfl rfl) (tin_1 (i := 3) rfl rfl) rfl rfl rfl rfl rfl (by decide) (by decide) ?_
      refine xw_dup (aX8_init 17 rfl) rfl ?_
      refine hw_callN (j2 := 58) (Φ2 := fun v s => v = none ∧ s = (65, 5606, hsF, fI [(23, 5, ((-1) : Int32)), (23, 4, ((-1) : Int32)), (21, 3, ((-1) : Int32)), (21, 2, ((-1) : Int32)), (21, 1, ((-1) : Int32)), (21, 0, ((-1) : Int32))], fZ, fR [(53, 9, some 63), (53, 8, some 62), (53, 7, some 61), (53, 6, some 60), (53, 5, some 59), (53, 4, some 58), (53, 3, some 57), (53, 2, some 56), (53, 1, some 55), (53, 0, some 54), (52, 0, some 53), (49, 3, some 51), (49, 2, some 50), (0, 0, some 23), (23, 3, some 43), (23, 2, some 26), (23, 1, some 25), (23, 0, some 24), (0, 11, some 22), (0, 8, some 21), (0, 7, some 20), (0, 6, some 19), (0, 5, some 1), (2, 15, some 18), (2, 14, some 17), (2, 13, some 16), (2, 12, some 15), (2, 11, some 14), (2, 10, some 13), (2, 9, some 12), (2, 8, some 11), (2, 7, some 10), (2, 6, some 9), (2, 5, some 8), (2, 4, some 7), (2, 3, some 6), (2, 2, some 5), (2, 1, some 4), (2, 0, some 3), (1, 0, some 2)])) (Bs := []) (rest := [.ref (base + 64), .int (10 : Int32), .ref (base + 53)]) (aX8_init 18 rfl) wc_RX8_17 (by decide) rfl wi_yX5_init rfl rfl rfl (Nat.le_of_ble_eq_true rfl) (Nat.le_of_ble_eq_true rfl) ?_ (fun v s hv => ?_)
      · refine hw_aloadn (aX5_init 0 rfl) rfl ?_
        refine hw_obj (aX5_init 1 rfl) (tin_1 (i := 42) rfl rfl) (tin_1 (i := 28) rfl rfl) (tin_1 (i := 29) rfl rfl) (Nat.le_of_ble_eq_true rfl) ?_
        refine xw_vret (aX5_init 2 rfl) rfl ?_
        exact ⟨rfl, rfl⟩
      obtain ⟨rfl, rfl⟩ := hv
      show hw sk base _ _ _ _ _ [.ref (base + 64), .int (10 : Int32), .ref (base + 53)] _ _
      refine hv_aast (k := 3) (i2 := 10) (aX8_init 19 rfl) (by decide : 53 < 65) (rfl : hsF 53 = (103, 16)) rfl (by decide) (by decide : 64 < 65) (rfl : hsF 64 = (5, 0)) rfl (h_in (by decide : (10 : Int32).toInt = 10) (by decide) (by decide)) (by decide) (fun F94 u93 => ?_)
      rw [fR_up] at u93; subst u93
      refine xw_iinc (L2 := [(1, .int (11 : Int32)), (0, .ref (base + 52))]) (aX8_init 20 rfl) rfl (by decide) (by rw [show ((10 : Int32) + Int32.ofInt (1)) = (11 : Int32) from by decide]; rfl) ?_
      refine xw_goto (tgt := 15) (aX8_init 21 rfl) (by decide) ?_
      refine xw_iloadn (aX8_init 8 rfl) rfl ?_
      refine hw_aloadn (aX8_init 9 rfl) rfl ?_
      refine hw_get (v := .ref (base + 53)) (aX8_init 10 rfl) wf_RX8_13 (by decide : 52 < 65) (rfl : hsF 52 = (8, 0)) (by decide) rfl ?_
      refine hw_alen (k := 3) (z := 16) (v := (16 : Int32)) (aX8_init 11 rfl) (by decide : 53 < 65) (rfl : hsF 53 = (103, 16)) (by decide) (by decide) ?_
      refine hw_icge (tgt := 43) (aX8_init 12 rfl) (by decide) (by decide : (11 : Int32).toInt = 11) (by decide : (16 : Int32).toInt = 16) (fun cd => ?_) (fun cd => ?_)
      · exfalso; omega
      refine hw_aloadn (aX8_init 13 rfl) rfl ?_
      refine hw_get (v := .ref (base + 53)) (aX8_init 14 rfl) wf_RX8_13 (by decide : 52 < 65) (rfl : hsF 52 = (8, 0)) (by decide) rfl ?_
      refine xw_iloadn (aX8_init 15 rfl) rfl ?_
      refine cw_new (t := 5) (n2 := 66) (sl2 := 5612) (aX8_init 16 rfl) rfl (tin_1 (i := 36) rfl rfl) (tin_1 (i := 3) rfl rfl) rfl rfl rfl rfl rfl (by decide) (by decide) ?_
      refine xw_dup (aX8_init 17 rfl) rfl ?_
      refine hw_callN (j2 := 58) (Φ2 := fun v s => v = none ∧ s = (66, 5612, hsF, fI [(23, 5, ((-1) : Int32)), (23, 4, ((-1) : Int32)), (21, 3, ((-1) : Int32)), (21, 2, ((-1) : Int32)), (21, 1, ((-1) : Int32)), (21, 0, ((-1) : Int32))], fZ, fR [(53, 10, some 64), (53, 9, some 63), (53, 8, some 62), (53, 7, some 61), (53, 6, some 60), (53, 5, some 59), (53, 4, some 58), (53, 3, some 57), (53, 2, some 56), (53, 1, some 55), (53, 0, some 54), (52, 0, some 53), (49, 3, some 51), (49, 2, some 50), (0, 0, some 23), (23, 3, some 43), (23, 2, some 26), (23, 1, some 25), (23, 0, some 24), (0, 11, some 22), (0, 8, some 21), (0, 7, some 20), (0, 6, some 19), (0, 5, some 1), (2, 15, some 18), (2, 14, some 17), (2, 13, some 16), (2, 12, some 15), (2, 11, some 14), (2, 10, some 13), (2, 9, some 12), (2, 8, some 11), (2, 7, some 10), (2, 6, some 9), (2, 5, some 8), (2, 4, some 7), (2, 3, some 6), (2, 2, some 5), (2, 1, some 4), (2, 0, some 3), (1, 0, some 2)])) (Bs := []) (rest := [.ref (base + 65), .int (11 : Int32), .ref (base + 53)]) (aX8_init 18 rfl) wc_RX8_17 (by decide) rfl wi_yX5_init rfl rfl rfl (Nat.le_of_ble_eq_true rfl) (Nat.le_of_ble_eq_true rfl) ?_ (fun v s hv => ?_)
      · refine hw_aloadn (aX5_init 0 rfl) rfl ?_
        refine hw_obj (aX5_init 1 rfl) (tin_1 (i := 42) rfl rfl) (tin_1 (i := 28) rfl rfl) (tin_1 (i := 29) rfl rfl) (Nat.le_of_ble_eq_true rfl) ?_
        refine xw_vret (aX5_init 2 rfl) rfl ?_
        exact ⟨rfl, rfl⟩
      obtain ⟨rfl, rfl⟩ := hv
      show hw sk base _ _ _ _ _ [.ref (base + 65), .int (11 : Int32), .ref (base + 53)] _ _
      refine hv_aast (k := 3) (i2 := 11) (aX8_init 19 rfl) (by decide : 53 < 66) (rfl : hsF 53 = (103, 16)) rfl (by decide) (by decide : 65 < 66) (rfl : hsF 65 = (5, 0)) rfl (h_in (by decide : (11 : Int32).toInt = 11) (by decide) (by decide)) (by decide) (fun F96 u95 => ?_)
      rw [fR_up] at u95; subst u95
      refine xw_iinc (L2 := [(1, .int (12 : Int32)), (0, .ref (base + 52))]) (aX8_init 20 rfl) rfl (by decide) (by rw [show ((11 : Int32) + Int32.ofInt (1)) = (12 : Int32) from by decide]; rfl) ?_
      refine xw_goto (tgt := 15) (aX8_init 21 rfl) (by decide) ?_
      refine xw_iloadn (aX8_init 8 rfl) rfl ?_
      refine hw_aloadn (aX8_init 9 rfl) rfl ?_
      refine hw_get (v := .ref (base + 53)) (aX8_init 10 rfl) wf_RX8_13 (by decide : 52 < 66) (rfl : hsF 52 = (8, 0)) (by decide) rfl ?_
      refine hw_alen (k := 3) (z := 16) (v := (16 : Int32)) (aX8_init 11 rfl) (by decide : 53 < 66) (rfl : hsF 53 = (103, 16)) (by decide) (by decide) ?_
      refine hw_icge (tgt := 43) (aX8_init 12 rfl) (by decide) (by decide : (12 : Int32).toInt = 12) (by decide : (16 : Int32).toInt = 16) (fun cd => ?_) (fun cd => ?_)
      · exfalso; omega
      refine hw_aloadn (aX8_init 13 rfl) rfl ?_
      refine hw_get (v := .ref (base + 53)) (aX8_init 14 rfl) wf_RX8_13 (by decide : 52 < 66) (rfl : hsF 52 = (8, 0)) (by decide) rfl ?_
      refine xw_iloadn (aX8_init 15 rfl) rfl ?_
      refine cw_new (t := 5) (n2 := 67) (sl2 := 5618) (aX8_init 16 rfl) rfl (tin_1 (i := 36) rfl rfl) (tin_1 (i := 3) rfl rfl) rfl rfl rfl rfl rfl (by decide) (by decide) ?_
      refine xw_dup (aX8_init 17 rfl) rfl ?_
      refine hw_callN (j2 := 58) (Φ2 := fun v s => v = none ∧ s = (67, 5618, hsF, fI [(23, 5, ((-1) : Int32)), (23, 4, ((-1) : Int32)), (21, 3, ((-1) : Int32)), (21, 2, ((-1) : Int32)), (21, 1, ((-1) : Int32)), (21, 0, ((-1) : Int32))], fZ, fR [(53, 11, some 65), (53, 10, some 64), (53, 9, some 63), (53, 8, some 62), (53, 7, some 61), (53, 6, some 60), (53, 5, some 59), (53, 4, some 58), (53, 3, some 57), (53, 2, some 56), (53, 1, some 55), (53, 0, some 54), (52, 0, some 53), (49, 3, some 51), (49, 2, some 50), (0, 0, some 23), (23, 3, some 43), (23, 2, some 26), (23, 1, some 25), (23, 0, some 24), (0, 11, some 22), (0, 8, some 21), (0, 7, some 20), (0, 6, some 19), (0, 5, some 1), (2, 15, some 18), (2, 14, some 17), (2, 13, some 16), (2, 12, some 15), (2, 11, some 14), (2, 10, some 13), (2, 9, some 12), (2, 8, some 11), (2, 7, some 10), (2, 6, some 9), (2, 5, some 8), (2, 4, some 7), (2, 3, some 6), (2, 2, some 5), (2, 1, some 4), (2, 0, some 3), (1, 0, some 2)])) (Bs := []) (rest := [.ref (base + 66), .int (12 : Int32), .ref (base + 53)]) (aX8_init 18 rfl) wc_RX8_17 (by decide) rfl wi_yX5_init rfl rfl rfl (Nat.le_of_ble_eq_true rfl) (Nat.le_of_ble_eq_true rfl) ?_ (fun v s hv => ?_)
      · refine hw_aloadn (aX5_init 0 rfl) rfl ?_
        refine hw_obj (aX5_init 1 rfl) (tin_1 (i := 42) rfl rfl) (tin_1 (i := 28) rfl rfl) (tin_1 (i := 29) rfl rfl) (Nat.le_of_ble_eq_true rfl) ?_
        refine xw_vret (aX5_init 2 rfl) rfl ?_
        exact ⟨rfl, rfl⟩
      obtain ⟨rfl, rfl⟩ := hv
      show hw sk base _ _ _ _ _ [.ref (base + 66), .int (12 : Int32), .ref (base + 53)] _ _
      refine hv_aast (k := 3) (i2 := 12) (aX8_init 19 rfl) (by decide : 53 < 67) (rfl : hsF 53 = (103, 16)) rfl (by decide) (by decide : 66 < 67) (rfl : hsF 66 = (5, 0)) rfl (h_in (by decide : (12 : Int32).toInt = 12) (by decide) (by decide)) (by decide) (fun F98 u97 => ?_)
      rw [fR_up] at u97; subst u97
      refine xw_iinc (L2 := [(1, .int (13 : Int32)), (0, .ref (base + 52))]) (aX8_init 20 rfl) rfl (by decide) (by rw [show ((12 : Int32) + Int32.ofInt (1)) = (13 : Int32) from by decide]; rfl) ?_
      refine xw_goto (tgt := 15) (aX8_init 21 rfl) (by decide) ?_
      refine xw_iloadn (aX8_init 8 rfl) rfl ?_
      refine hw_aloadn (aX8_init 9 rfl) rfl ?_
      refine hw_get (v := .ref (base + 53)) (aX8_init 10 rfl) wf_RX8_13 (by decide : 52 < 67) (rfl : hsF 52 = (8, 0)) (by decide) rfl ?_
      refine hw_alen (k := 3) (z := 16) (v := (16 : Int32)) (aX8_init 11 rfl) (by decide : 53 < 67) (rfl : hsF 53 = (103, 16)) (by decide) (by decide) ?_
      refine hw_icge (tgt := 43) (aX8_init 12 rfl) (by decide) (by decide : (13 : Int32).toInt = 13) (by decide : (16 : Int32).toInt = 16) (fun cd => ?_) (fun cd => ?_)
      · exfalso; omega
      refine hw_aloadn (aX8_init 13 rfl) rfl ?_
      refine hw_get (v := .ref (base + 53)) (aX8_init 14 rfl) wf_RX8_13 (by decide : 52 < 67) (rfl : hsF 52 = (8, 0)) (by decide) rfl ?_
      refine xw_iloadn (aX8_init 15 rfl) rfl ?_
      refine cw_new (t := 5) (n2 := 68) (sl2 := 5624) (aX8_init 16 rfl) rfl (tin_1 (i := 36) rfl rfl) (tin_1 (i := 3) rfl rfl) rfl rfl rfl rfl rfl (by decide) (by decide) ?_
      refine xw_dup (aX8_init 17 rfl) rfl ?_
      refine hw_callN (j2 := 58) (Φ2 := fun v s => v = none ∧ s = (68, 5624, hsF, fI [(23, 5, ((-1) : Int32)), (23, 4, ((-1) : Int32)), (21, 3, ((-1) : Int32)), (21, 2, ((-1) : Int32)), (21, 1, ((-1) : Int32)), (21, 0, ((-1) : Int32))], fZ, fR [(53, 12, some 66), (53, 11, some 65), (53, 10, some 64), (53, 9, some 63), (53, 8, some 62), (53, 7, some 61), (53, 6, some 60), (53, 5, some 59), (53, 4, some 58), (53, 3, some 57), (53, 2, some 56), (53, 1, some 55), (53, 0, some 54), (52, 0, some 53), (49, 3, some 51), (49, 2, some 50), (0, 0, some 23), (23, 3, some 43), (23, 2, some 26), (23, 1, some 25), (23, 0, some 24), (0, 11, some 22), (0, 8, some 21), (0, 7, some 20), (0, 6, some 19), (0, 5, some 1), (2, 15, some 18), (2, 14, some 17), (2, 13, some 16), (2, 12, some 15), (2, 11, some 14), (2, 10, some 13), (2, 9, some 12), (2, 8, some 11), (2, 7, some 10), (2, 6, some 9), (2, 5, some 8), (2, 4, some 7), (2, 3, some 6), (2, 2, some 5), (2, 1, some 4), (2, 0, some 3), (1, 0, some 2)])) (Bs := []) (rest := [.ref (base + 67), .int (13 : Int32), .ref (base + 53)]) (aX8_init 18 rfl) wc_RX8_17 (by decide) rfl wi_yX5_init rfl rfl rfl (Nat.le_of_ble_eq_true rfl) (Nat.le_of_ble_eq_true rfl) ?_ (fun v s hv => ?_)
      · refine hw_aloadn (aX5_init 0 rfl) rfl ?_
        refine hw_obj (aX5_init 1 rfl) (tin_1 (i := 42) rfl rfl) (tin_1 (i := 28) rfl rfl) (tin_1 (i := 29) rfl rfl) (Nat.le_of_ble_eq_true rfl) ?_
        refine xw_vret (aX5_init 2 rfl) rfl ?_
        exact ⟨rfl, rfl⟩
      obtain ⟨rfl, rfl⟩ := hv
      show hw sk base _ _ _ _ _ [.ref (base + 67), .int (13 : Int32), .ref (base + 53)] _ _
      refine hv_aast (k := 3) (i2 := 13) (aX8_init 19 rfl) (by decide : 53 < 68) (rfl : hsF 53 = (103, 16)) rfl (by decide) (by decide : 67 < 68) (rfl : hsF 67 = (5, 0)) rfl (h_in (by decide : (13 : Int32).toInt = 13) (by decide) (by decide)) (by decide) (fun F100 u99 => ?_)
      rw [fR_up] at u99; subst u99
      refine xw_iinc (L2 := [(1, .int (14 : Int32)), (0, .ref (base + 52))]) (aX8_init 20 rfl) rfl (by decide) (by rw [show ((13 : Int32) + Int32.ofInt (1)) = (14 : Int32) from by decide]; rfl) ?_
      refine xw_goto (tgt := 15) (aX8_init 21 rfl) (by decide) ?_
      refine xw_iloadn (aX8_init 8 rfl) rfl ?_
      refine hw_aloadn (aX8_init 9 rfl) rfl ?_
      refine hw_get (v := .ref (base + 53)) (aX8_init 10 rfl) wf_RX8_13 (by decide : 52 < 68) (rfl : hsF 52 = (8, 0)) (by decide) rfl ?_
      refine hw_alen (k := 3) (z := 16) (v := (16 : Int32)) (aX8_init 11 rfl) (by decide : 53 < 68) (rfl : hsF 53 = (103, 16)) (by decide) (by decide) ?_
      refine hw_icge (tgt := 43) (aX8_init 12 rfl) (by decide) (by decide : (14 : Int32).toInt = 14) (by decide : (16 : Int32).toInt = 16) (fun cd => ?_) (fun cd => ?_)
      · exfalso; omega
      refine hw_aloadn (aX8_init 13 rfl) rfl ?_
      refine hw_get (v := .ref (base + 53)) (aX8_init 14 rfl) wf_RX8_13 (by decide : 52 < 68) (rfl : hsF 52 = (8, 0)) (by decide) rfl ?_
      refine xw_iloadn (aX8_init 15 rfl) rfl ?_
      refine cw_new (t := 5) (n2 := 69) (sl2 := 5630) (aX8_init 16 rfl) rfl (tin_1 (i := 36) rfl rfl) (tin_1 (i := 3) rfl rfl) rfl rfl rfl rfl rfl (by decide) (by decide) ?_
      refine xw_dup (aX8_init 17 rfl) rfl ?_
      refine hw_callN (j2 := 58) (Φ2 := fun v s => v = none ∧ s = (69, 5630, hsF, fI [(23, 5, ((-1) : Int32)), (23, 4, ((-1) : Int32)), (21, 3, ((-1) : Int32)), (21, 2, ((-1) : Int32)), (21, 1, ((-1) : Int32)), (21, 0, ((-1) : Int32))], fZ, fR [(53, 13, some 67), (53, 12, some 66), (53, 11, some 65), (53, 10, some 64), (53, 9, some 63), (53, 8, some 62), (53, 7, some 61), (53, 6, some 60), (53, 5, some 59), (53, 4, some 58), (53, 3, some 57), (53, 2, some 56), (53, 1, some 55), (53, 0, some 54), (52, 0, some 53), (49, 3, some 51), (49, 2, some 50), (0, 0, some 23), (23, 3, some 43), (23, 2, some 26), (23, 1, some 25), (23, 0, some 24), (0, 11, some 22), (0, 8, some 21), (0, 7, some 20), (0, 6, some 19), (0, 5, some 1), (2, 15, some 18), (2, 14, some 17), (2, 13, some 16), (2, 12, some 15), (2, 11, some 14), (2, 10, some 13), (2, 9, some 12), (2, 8, some 11), (2, 7, some 10), (2, 6, some 9), (2, 5, some 8), (2, 4, some 7), (2, 3, some 6), (2, 2, some 5), (2, 1, some 4), (2, 0, some 3), (1, 0, some 2)])) (Bs := []) (rest := [.ref (base + 68), .int (14 : Int32), .ref (base + 53)]) (aX8_init 18 rfl) wc_RX8_17 (by decide) rfl wi_yX5_init rfl rfl rfl (Nat.le_of_ble_eq_true rfl) (Nat.le_of_ble_eq_true rfl) ?_ (fun v s hv => ?_)
      · refine hw_aloadn (aX5_init 0 rfl) rfl ?_
        refine hw_obj (aX5_init 1 rfl) (tin_1 (i := 42) rfl rfl) (tin_1 (i := 28) rfl rfl) (tin_1 (i := 29) rfl rfl) (Nat.le_of_ble_eq_true rfl) ?_
        refine xw_vret (aX5_init 2 rfl) rfl ?_
        exact ⟨rfl, rfl⟩
      obtain ⟨rfl, rfl⟩ := hv
      show hw sk base _ _ _ _ _ [.ref (base + 68), .int (14 : Int32), .ref (base + 53)] _ _
      refine hv_aast (k := 3) (i2 := 14) (aX8_init 19 rfl) (by decide : 53 < 69) (rfl : hsF 53 = (103, 16)) rfl (by decide) (by decide : 68 < 69) (rfl : hsF 68 = (5, 0)) rfl (h_in (by decide : (14 : Int32).toInt = 14) (by decide) (by decide)) (by decide) (fun F102 u101 => ?_)
      rw [fR_up] at u101; subst u101
      refine xw_iinc (L2 := [(1, .int (15 : Int32)), (0, .ref (base + 52))]) (aX8_init 20 rfl) rfl (by decide) (by rw [show ((14 : Int32) + Int32.ofInt (1)) = (15 : Int32) from by decide]; rfl) ?_
      refine xw_goto (tgt := 15) (aX8_init 21 rfl) (by decide) ?_
      refine xw_iloadn (aX8_init 8 rfl) rfl ?_
      refine hw_aloadn (aX8_init 9 rfl) rfl ?_
      refine hw_get (v := .ref (base + 53)) (aX8_init 10 rfl) wf_RX8_13 (by decide : 52 < 69) (rfl : hsF 52 = (8, 0)) (by decide) rfl ?_
      refine hw_alen (k := 3) (z := 16) (v := (16 : Int32)) (aX8_init 11 rfl) (by decide : 53 < 69) (rfl : hsF 53 = (103, 16)) (by decide) (by decide) ?_
      refine hw_icge (tgt := 43) (aX8_init 12 rfl) (by decide) (by decide : (15 : Int32).toInt = 15) (by decide : (16 : Int32).toInt = 16) (fun cd => ?_) (fun cd => ?_)
      · exfalso; omega
      refine hw_aloadn (aX8_init 13 rfl) rfl ?_
      refine hw_get (v := .ref (base + 53)) (aX8_init 14 rfl) wf_RX8_13 (by decide : 52 < 69) (rfl : hsF 52 = (8, 0)) (by decide) rfl ?_
      refine xw_iloadn (aX8_init 15 rfl) rfl ?_
      refine cw_new (t := 5) (n2 := 70) (sl2 := 5636) (aX8_init 16 rfl) rfl (tin_1 (i := 36) rfl rfl) (tin_1 (i := 3) rfl rfl) rfl rfl rfl rfl rfl (by decide) (by decide) ?_
      refine xw_dup (aX8_init 17 rfl) rfl ?_
      refine hw_callN (j2 := 58) (Φ2 := fun v s => v = none ∧ s = (70, 5636, hsF, fI [(23, 5, ((-1) : Int32)), (23, 4, ((-1) : Int32)), (21, 3, ((-1) : Int32)), (21, 2, ((-1) : Int32)), (21, 1, ((-1) : Int32)), (21, 0, ((-1) : Int32))], fZ, fR [(53, 14, some 68), (53, 13, some 67), (53, 12, some 66), (53, 11, some 65), (53, 10, some 64), (53, 9, some 63), (53, 8, some 62), (53, 7, some 61), (53, 6, some 60), (53, 5, some 59), (53, 4, some 58), (53, 3, some 57), (53, 2, some 56), (53, 1, some 55), (53, 0, some 54), (52, 0, some 53), (49, 3, some 51), (49, 2, some 50), (0, 0, some 23), (23, 3, some 43), (23, 2, some 26), (23, 1, some 25), (23, 0, some 24), (0, 11, some 22), (0, 8, some 21), (0, 7, some 20), (0, 6, some 19), (0, 5, some 1), (2, 15, some 18), (2, 14, some 17), (2, 13, some 16), (2, 12, some 15), (2, 11, some 14), (2, 10, some 13), (2, 9, some 12), (2, 8, some 11), (2, 7, some 10), (2, 6, some 9), (2, 5, some 8), (2, 4, some 7), (2, 3, some 6), (2, 2, some 5), (2, 1, some 4), (2, 0, some 3), (1, 0, some 2)])) (Bs := []) (rest := [.ref (base + 69), .int (15 : Int32), .ref (base + 53)]) (aX8_init 18 rfl) wc_RX8_17 (by decide) rfl wi_yX5_init rfl rfl rfl (Nat.le_of_ble_eq_true rfl) (Nat.le_of_ble_eq_true rfl) ?_ (fun v s hv => ?_)
      · refine hw_aloadn (aX5_init 0 rfl) rfl ?_
        refine hw_obj (aX5_init 1 rfl) (tin_1 (i := 42) rfl rfl) (tin_1 (i := 28) rfl rfl) (tin_1 (i := 29) rfl rfl) (Nat.le_of_ble_eq_true rfl) ?_
        refine xw_vret (aX5_init 2 rfl) rfl ?_
        exact ⟨rfl, rfl⟩
      obtain ⟨rfl, rfl⟩ := hv
      show hw sk base _ _ _ _ _ [.ref (base + 69), .int (15 : Int32), .ref (base + 53)] _ _
      refine hv_aast (k := 3) (i2 := 15) (aX8_init 19 rfl) (by decide : 53 < 70) (rfl : hsF 53 = (103, 16)) rfl (by decide) (by decide : 69 < 70) (rfl : hsF 69 = (5, 0)) rfl (h_in (by decide : (15 : Int32).toInt = 15) (by decide) (by decide)) (by decide) (fun F104 u103 => ?_)
      rw [fR_up] at u103; subst u103
      refine xw_iinc (L2 := [(1, .int (16 : Int32)), (0, .ref (base + 52))]) (aX8_init 20 rfl) rfl (by decide) (by rw [show ((15 : Int32) + Int32.ofInt (1)) = (16 : Int32) from by decide]; rfl) ?_
      refine xw_goto (tgt := 15) (aX8_init 21 rfl) (by decide) ?_
      refine xw_iloadn (aX8_init 8 rfl) rfl ?_
      refine hw_aloadn (aX8_init 9 rfl) rfl ?_
      refine hw_get (v := .ref (base + 53)) (aX8_init 10 rfl) wf_RX8_13 (by decide : 52 < 70) (rfl : hsF 52 = (8, 0)) (by decide) rfl ?_
      refine hw_alen (k := 3) (z := 16) (v := (16 : Int32)) (aX8_init 11 rfl) (by decide : 53 < 70) (rfl : hsF 53 = (103, 16)) (by decide) (by decide) ?_
      refine hw_icge (tgt := 43) (aX8_init 12 rfl) (by decide) (by decide : (16 : Int32).toInt = 16) (by decide : (16 : Int32).toInt = 16) (fun cd => ?_) (fun cd => ?_)
      rotate_left; { exfalso; omega }
      refine xw_vret (aX8_init 22 rfl) rfl ?_
      exact ⟨rfl, rfl⟩
    obtain ⟨rfl, rfl⟩ := hv
    show hw sk base _ _ _ _ _ [.ref (base + 52), .ref (base + 49)] _ _
    refine hv_putr (r := some 52) (aX9_init 15 rfl) wf_RX9_25 (by decide : 49 < 70) (rfl : hsF 49 = (9, 0)) (by decide) (by first | exact Or.inl ⟨_, rfl⟩ | exact Or.inr ⟨_, rfl⟩) (Or.inr ⟨rfl, rfl, rfl, wf_RX9_25F⟩) (fun F106 u105 => ?_)
    rw [fR_up] at u105; subst u105
    refine hw_aloadn (aX9_init 16 rfl) rfl ?_
    refine hw_aloadn (aX9_init 17 rfl) rfl ?_
    refine hv_putr (r := some 23) (aX9_init 18 rfl) wf_RX9_29 (by decide : 49 < 70) (rfl : hsF 49 = (9, 0)) (by decide) (by first | exact Or.inl ⟨_, rfl⟩ | exact Or.inr ⟨_, rfl⟩) (Or.inr ⟨rfl, rfl, rfl, wf_RX9_29F⟩) (fun F108 u107 => ?_)
    rw [fR_up] at u107; subst u107
    refine hw_aloadn (aX9_init 19 rfl) rfl ?_
    refine xw_aloadn (x := none) (aX9_init 20 rfl) rfl ?_
    refine hv_putr (r := none) (aX9_init 21 rfl) wf_RX9_33 (by decide : 49 < 70) (rfl : hsF 49 = (9, 0)) (by decide) (by first | exact Or.inl ⟨_, rfl⟩ | exact Or.inr ⟨_, rfl⟩) (Or.inr ⟨rfl, rfl, rfl, wf_RX9_33F⟩) (fun F110 u109 => ?_)
    rw [fR_up] at u109; subst u109
    refine xw_vret (aX9_init 22 rfl) rfl ?_
    exact ⟨rfl, rfl⟩
  obtain ⟨rfl, rfl⟩ := hv
  show hw sk base _ _ _ _ _ [.ref (base + 49), .ref (base + 23), .ref (base + 48), .ref (base + 48), .ref (base + 0)] _ _
  refine hw_callN (j2 := 84) (Φ2 := fun v s => v = none ∧ s = (90, 5885, hsF, fI [(23, 5, ((-1) : Int32)), (23, 4, ((-1) : Int32)), (21, 3, ((-1) : Int32)), (21, 2, ((-1) : Int32)), (21, 1, ((-1) : Int32)), (21, 0, ((-1) : Int32))], fZ, fR [(48, 1, some 49), (48, 0, some 23), (48, 4, some 72), (73, 15, some 89), (73, 14, some 88), (73, 13, some 87), (73, 12, some 86), (73, 11, some 85), (73, 10, some 84), (73, 9, some 83), (73, 8, some 82), (73, 7, some 81), (73, 6, some 80), (73, 5, some 79), (73, 4, some 78), (73, 3, some 77), (73, 2, some 76), (73, 1, some 75), (73, 0, some 74), (72, 0, some 73), (48, 3, some 71), (48, 2, some 70), (49, 1, none), (49, 0, some 23), (49, 4, some 52), (53, 15, some 69), (53, 14, some 68), (53, 13, some 67), (53, 12, some 66), (53, 11, some 65), (53, 10, some 64), (53, 9, some 63), (53, 8, some 62), (53, 7, some 61), (53, 6, some 60), (53, 5, some 59), (53, 4, some 58), (53, 3, some 57), (53, 2, some 56), (53, 1, some 55), (53, 0, some 54), (52, 0, some 53), (49, 3, some 51), (49, 2, some 50), (0, 0, some 23), (23, 3, some 43), (23, 2, some 26), (23, 1, some 25), (23, 0, some 24), (0, 11, some 22), (0, 8, some 21), (0, 7, some 20), (0, 6, some 19), (0, 5, some 1), (2, 15, some 18), (2, 14, some 17), (2, 13, some 16), (2, 12, some 15), (2, 11, some 14), (2, 10, some 13), (2, 9, some 12), (2, 8, some 11), (2, 7, some 10), (2, 6, some 9), (2, 5, some 8), (2, 4, some 7), (2, 3, some 6), (2, 2, some 5), (2, 1, some 4), (2, 0, some 3), (1, 0, some 2)])) (Bs := [.ref (base + 23), .ref (base + 49)]) (rest := [.ref (base + 48), .ref (base + 0)]) (aX11_init 55 rfl) wc_RX11_41 (by decide) rfl wi_yX9_init rfl rfl rfl (Nat.le_of_ble_eq_true rfl) (Nat.le_of_ble_eq_true rfl) ?_ (fun v s hv => ?_)
  · refine hw_aloadn (aX9_init 0 rfl) rfl ?_
    refine hw_obj (aX9_init 1 rfl) (tin_1 (i := 156) rfl rfl) (tin_1 (i := 28) rfl rfl) (tin_1 (i := 29) rfl rfl) (Nat.le_of_ble_eq_true rfl) ?_
    refine hw_aloadn (aX9_init 2 rfl) rfl ?_
    refine hw_sp (v := (128 : Int32)) (aX9_init 3 rfl) (by decide) ?_
    refine cw_newa (k := 1) (z := 128) (n2 := 71) (sl2 := 5764) (aX9_init 4 rfl) rfl (by decide) (tin_1 (i := 150) rfl rfl) (by decide) (by decide) (by decide) rfl rfl rfl rfl rfl (by decide) (by decide) ?_
    refine hv_putr (r := some 70) (aX9_init 5 rfl) wf_RX9_11 (by decide : 48 < 71) (rfl : hsF 48 = (9, 0)) (by decide) (by first | exact Or.inl ⟨_, rfl⟩ | exact Or.inr ⟨_, rfl⟩) (Or.inr ⟨rfl, rfl, rfl, wf_RX9_11F⟩) (fun F112 u111 => ?_)
    rw [fR_up] at u111; subst u111
    refine hw_aloadn (aX9_init 6 rfl) rfl ?_
    refine cw_new (t := 5) (n2 := 72) (sl2 := 5770) (aX9_init 7 rfl) rfl (tin_1 (i := 157) rfl rfl) (tin_1 (i := 3) rfl rfl) rfl rfl rfl rfl rfl (by decide) (by decide) ?_
    refine xw_dup (aX9_init 8 rfl) rfl ?_
    refine hw_callN (j2 := 58) (Φ2 := fun v s => v = none ∧ s = (72, 5770, hsF, fI [(23, 5, ((-1) : Int32)), (23, 4, ((-1) : Int32)), (21, 3, ((-1) : Int32)), (21, 2, ((-1) : Int32)), (21, 1, ((-1) : Int32)), (21, 0, ((-1) : Int32))], fZ, fR [(48, 2, some 70), (49, 1, none), (49, 0, some 23), (49, 4, some 52), (53, 15, some 69), (53, 14, some 68), (53, 13, some 67), (53, 12, some 66), (53, 11, some 65), (53, 10, some 64), (53, 9, some 63), (53, 8, some 62), (53, 7, some 61), (53, 6, some 60), (53, 5, some 59), (53, 4, some 58), (53, 3, some 57), (53, 2, some 56), (53, 1, some 55), (53, 0, some 54), (52, 0, some 53), (49, 3, some 51), (49, 2, some 50), (0, 0, some 23), (23, 3, some 43), (23, 2, some 26), (23, 1, some 25), (23, 0, some 24), (0, 11, some 22), (0, 8, some 21), (0, 7, some 20), (0, 6, some 19), (0, 5, some 1), (2, 15, some 18), (2, 14, some 17), (2, 13, some 16), (2, 12, some 15), (2, 11, some 14), (2, 10, some 13), (2, 9, some 12), (2, 8, some 11), (2, 7, some 10), (2, 6, some 9), (2, 5, some 8), (2, 4, some 7), (2, 3, some 6), (2, 2, some 5), (2, 1, some 4), (2, 0, some 3), (1, 0, some 2)])) (Bs := []) (rest := [.ref (base + 71), .ref (base + 48)]) (aX9_init 9 rfl) wc_RX9_17 (by decide) rfl wi_yX5_init rfl rfl rfl (Nat.le_of_ble_eq_true rfl) (Nat.le_of_ble_eq_true rfl) ?_ (fun v s hv => ?_)
    · refine hw_aloadn (aX5_init 0 rfl) rfl ?_
      refine hw_obj (aX5_init 1 rfl) (tin_1 (i := 42) rfl rfl) (tin_1 (i := 28) rfl rfl) (tin_1 (i := 29) rfl rfl) (Nat.le_of_ble_eq_true rfl) ?_
      refine xw_vret (aX5_init 2 rfl) rfl ?_
      exact ⟨rfl, rfl⟩
    obtain ⟨rfl, rfl⟩ := hv
    show hw sk base _ _ _ _ _ [.ref (base + 71), .ref (base + 48)] _ _
    refine hv_putr (r := some 71) (aX9_init 10 rfl) wf_RX9_18 (by decide : 48 < 72) (rfl : hsF 48 = (9, 0)) (by decide) (by first | exact Or.inl ⟨_, rfl⟩ | exact Or.inr ⟨_, rfl⟩) (Or.inr ⟨rfl, rfl, rfl, wf_RX9_18F⟩) (fun F114 u113 => ?_)
    rw [fR_up] at u113; subst u113
    refine hw_aloadn (aX9_init 11 rfl) rfl ?_
    refine cw_new (t := 8) (n2 := 73) (sl2 := 5773) (aX9_init 12 rfl) rfl (tin_1 (i := 159) rfl rfl) (tin_1 (i := 2) rfl rfl) rfl rfl rfl rfl rfl (by decide) (by decide) ?_
    refine xw_dup (aX9_init 13 rfl) rfl ?_
    refine hw_callN (j2 := 78) (Φ2 := fun v s => v = none ∧ s = (90, 5885, hsF, fI [(23, 5, ((-1) : Int32)), (23, 4, ((-1) : Int32)), (21, 3, ((-1) : Int32)), (21, 2, ((-1) : Int32)), (21, 1, ((-1) : Int32)), (21, 0, ((-1) : Int32))], fZ, fR [(73, 15, some 89), (73, 14, some 88), (73, 13, some 87), (73, 12, some 86), (73, 11, some 85), (73, 10, some 84), (73, 9, some 83), (73, 8, some 82), (73, 7, some 81), (73, 6, some 80), (73, 5, some 79), (73, 4, some 78), (73, 3, some 77), (73, 2, some 76), (73, 1, some 75), (73, 0, some 74), (72, 0, some 73), (48, 3, some 71), (48, 2, some 70), (49, 1, none), (49, 0, some 23), (49, 4, some 52), (53, 15, some 69), (53, 14, some 68), (53, 13, some 67), (53, 12, some 66), (53, 11, some 65), (53, 10, some 64), (53, 9, some 63), (53, 8, some 62), (53, 7, some 61), (53, 6, some 60), (53, 5, some 59), (53, 4, some 58), (53, 3, some 57), (53, 2, some 56), (53, 1, some 55), (53, 0, some 54), (52, 0, some 53), (49, 3, some 51), (49, 2, some 50), (0, 0, some 23), (23, 3, some 43), (23, 2, some 26), (23, 1, some 25), (23, 0, some 24), (0, 11, some 22), (0, 8, some 21), (0, 7, some 20), (0, 6, some 19), (0, 5, some 1), (2, 15, some 18), (2, 14, some 17), (2, 13, some 16), (2, 12, some 15), (2, 11, some 14), (2, 10, some 13), (2, 9, some 12), (2, 8, some 11), (2, 7, some 10), (2, 6, some 9), (2, 5, some 8), (2, 4, some 7), (2, 3, some 6), (2, 2, some 5), (2, 1, some 4), (2, 0, some 3), (1, 0, some 2)])) (Bs := []) (rest := [.ref (base + 72), .ref (base + 48)]) (aX9_init 14 rfl) wc_RX9_24 (by decide) rfl wi_yX8_init rfl rfl rfl (Nat.le_of_ble_eq_true rfl) (Nat.le_of_ble_eq_true rfl) ?_ (fun v s hv => ?_)
    · refine hw_aloadn (aX8_init 0 rfl) rfl ?_
      refine hw_obj (aX8_init 1 rfl) (tin_1 (i := 35) rfl rfl) (tin_1 (i := 28) rfl rfl) (tin_1 (i := 29) rfl rfl) (Nat.le_of_ble_eq_true rfl) ?_
      refine hw_aloadn (aX8_init 2 rfl) rfl ?_
      refine hw_bp (v := (16 : Int32)) (aX8_init 3 rfl) (by decide) ?_
      refine cw_newq (k := 3) (z := 16) (n2 := 74) (sl2 := 5789) (aX8_init 4 rfl) rfl (by decide) (tin_1 (i := 36) rfl rfl) (nin_1 (i := 37) rfl rfl) (by decide) (by decide) (by decide) rfl rfl rfl rfl rfl (by decide) (by decide) ?_
      refine hv_putr (r := some 73) (aX8_init 5 rfl) wf_RX8_13 (by decide : 72 < 74) (rfl : hsF 72 = (8, 0)) (by decide) (by first | exact Or.inl ⟨_, rfl⟩ | exact Or.inr ⟨_, rfl⟩) (Or.inr ⟨rfl, rfl, rfl, wf_RX8_13F⟩) (fun F116 u115 => ?_)
      rw [fR_up] at u115; subst u115
      refine hw_ic (v := (0 : Int32)) (aX8_init 6 rfl) (by decide) ?_
      refine xw_istoren (L2 := [(1, .int (0 : Int32)), (0, .ref (base + 72))]) (aX8_init 7 rfl) (by decide) rfl ?_
      refine xw_iloadn (aX8_init 8 rfl) rfl ?_
      refine hw_aloadn (aX8_init 9 rfl) rfl ?_
      refine hw_get (v := .ref (base + 73)) (aX8_init 10 rfl) wf_RX8_13 (by decide : 72 < 74) (rfl : hsF 72 = (8, 0)) (by decide) rfl ?_
      refine hw_alen (k := 3) (z := 16) (v := (16 : Int32)) (aX8_init 11 rfl) (by decide : 73 < 74) (rfl : hsF 73 = (103, 16)) (by decide) (by decide) ?_
      refine hw_icge (tgt := 43) (aX8_init 12 rfl) (by decide) (by decide : (0 : Int32).toInt = 0) (by decide : (16 : Int32).toInt = 16) (fun cd => ?_) (fun cd => ?_)
      · exfalso; omega
      refine hw_aloadn (aX8_init 13 rfl) rfl ?_
      refine hw_get (v := .ref (base + 73)) (aX8_init 14 rfl) wf_RX8_13 (by decide : 72 < 74) (rfl : hsF 72 = (8, 0)) (by decide) rfl ?_
      refine xw_iloadn (aX8_init 15 rfl) rfl ?_
      refine cw_new (t := 5) (n2 := 75) (sl2 := 5795) (aX8_init 16 rfl) rfl (tin_1 (i := 36) rfl rfl) (tin_1 (i := 3) rfl rfl) rfl rfl rfl rfl rfl (by decide) (by decide) ?_
      refine xw_dup (aX8_init 17 rfl) rfl ?_
      refine hw_callN (j2 := 58) (Φ2 := fun v s => v = none ∧ s = (75, 5795, hsF, fI [(23, 5, ((-1) : Int32)), (23, 4, ((-1) : Int32)), (21, 3, ((-1) : Int32)), (21, 2, ((-1) : Int32)), (21, 1, ((-1) : Int32)), (21, 0, ((-1) : Int32))], fZ, fR [(72, 0, some 73), (48, 3, some 71), (48, 2, some 70), (49, 1, none), (49, 0, some 23), (49, 4, some 52), (53, 15, some 69), (53, 14, some 68), (53, 13, some 67), (53, 12, some 66), (53, 11, some 65), (53, 10, some 64), (53, 9, some 63), (53, 8, some 62), (53, 7, some 61), (53, 6, some 60), (53, 5, some 59), (53, 4, some 58), (53, 3, some 57), (53, 2, some 56), (53, 1, some 55), (53, 0, some 54), (52, 0, some 53), (49, 3, some 51), (49, 2, some 50), (0, 0, some 23), (23, 3, some 43), (23, 2, some 26), (23, 1, some 25), (23, 0, some 24), (0, 11, some 22), (0, 8, some 21), (0, 7, some 20), (0, 6, some 19), (0, 5, some 1), (2, 15, some 18), (2, 14, some 17), (2, 13, some 16), (2, 12, some 15), (2, 11, some 14), (2, 10, some 13), (2, 9, some 12), (2, 8, some 11), (2, 7, some 10), (2, 6, some 9), (2, 5, some 8), (2, 4, some 7), (2, 3, some 6), (2, 2, some 5), (2, 1, some 4), (2, 0, some 3), (1, 0, some 2)])) (Bs := []) (rest := [.ref (base + 74), .int (0 : Int32), .ref (base + 73)]) (aX8_init 18 rfl) wc_RX8_17 (by decide) rfl wi_yX5_init rfl rfl rfl (Nat.le_of_ble_eq_true rfl) (Nat.le_of_ble_eq_true rfl) ?_ (fun v s hv => ?_)
      · refine hw_aloadn (aX5_init 0 rfl) rfl ?_
        refine hw_obj (aX5_init 1 rfl) (tin_1 (i := 42) rfl rfl) (tin_1 (i := 28) rfl rfl) (tin_1 (i := 29) rfl rfl) (Nat.le_of_ble_eq_true rfl) ?_
        refine xw_vret (aX5_init 2 rfl) rfl ?_
        exact ⟨rfl, rfl⟩
      obtain ⟨rfl, rfl⟩ := hv
      show hw sk base _ _ _ _ _ [.ref (base + 74), .int (0 : Int32), .ref (base + 73)] _ _
      refine hv_aast (k := 3) (i2 := 0) (aX8_init 19 rfl) (by decide : 73 < 75) (rfl : hsF 73 = (103, 16)) rfl (by decide) (by decide : 74 < 75) (rfl : hsF 74 = (5, 0)) rfl (h_in (by decide : (0 : Int32).toInt = 0) (by decide) (by decide)) (by decide) (fun F118 u117 => ?_)
      rw [fR_up] at u117; subst u117
      refine xw_iinc (L2 := [(1, .int (1 : Int32)), (0, .ref (base + 72))]) (aX8_init 20 rfl) rfl (by decide) (by rw [show ((0 : Int32) + Int32.ofInt (1)) = (1 : Int32) from by decide]; rfl) ?_
      refine xw_goto (tgt := 15) (aX8_init 21 rfl) (by decide) ?_
      refine xw_iloadn (aX8_init 8 rfl) rfl ?_
      refine hw_aloadn (aX8_init 9 rfl) rfl ?_
      refine hw_get (v := .ref (base + 73)) (aX8_init 10 rfl) wf_RX8_13 (by decide : 72 < 75) (rfl : hsF 72 = (8, 0)) (by decide) rfl ?_
      refine hw_alen (k := 3) (z := 16) (v := (16 : Int32)) (aX8_init 11 rfl) (by decide : 73 < 75) (rfl : hsF 73 = (103, 16)) (by decide) (by decide) ?_
      refine hw_icge (tgt := 43) (aX8_init 12 rfl) (by decide) (by decide : (1 : Int32).toInt = 1) (by decide : (16 : Int32).toInt = 16) (fun cd => ?_) (fun cd => ?_)
      · exfalso; omega
      refine hw_aloadn (aX8_init 13 rfl) rfl ?_
      refine hw_get (v := .ref (base + 73)) (aX8_init 14 rfl) wf_RX8_13 (by decide : 72 < 75) (rfl : hsF 72 = (8, 0)) (by decide) rfl ?_
      refine xw_iloadn (aX8_init 15 rfl) rfl ?_
      refine cw_new (t := 5) (n2 := 76) (sl2 := 5801) (aX8_init 16 rfl) rfl (tin_1 (i := 36) rfl rfl) (tin_1 (i := 3) rfl rfl) rfl rfl rfl rfl rfl (by decide) (by decide) ?_
      refine xw_dup (aX8_init 17 rfl) rfl ?_
      refine hw_callN (j2 := 58) (Φ2 := fun v s => v = none ∧ s = (76, 5801, hsF, fI [(23, 5, ((-1) : Int32)), (23, 4, ((-1) : Int32)), (21, 3, ((-1) : Int32)), (21, 2, ((-1) : Int32)), (21, 1, ((-1) : Int32)), (21, 0, ((-1) : Int32))], fZ, fR [(73, 0, some 74), (72, 0, some 73), (48, 3, some 71), (48, 2, some 70), (49, 1, none), (49, 0, some 23), (49, 4, some 52), (53, 15, some 69), (53, 14, some 68), (53, 13, some 67), (53, 12, some 66), (53, 11, some 65), (53, 10, some 64), (53, 9, some 63), (53, 8, some 62), (53, 7, some 61), (53, 6, some 60), (53, 5, some 59), (53, 4, some 58), (53, 3, some 57), (53, 2, some 56), (53, 1, some 55), (53, 0, some 54), (52, 0, some 53), (49, 3, some 51), (49, 2, some 50), (0, 0, some 23), (23, 3, some 43), (23, 2, some 26), (23, 1, some 25), (23, 0, some 24), (0, 11, some 22), (0, 8, some 21), (0, 7, some 20), (0, 6, some 19), (0, 5, some 1), (2, 15, some 18), (2, 14, some 17), (2, 13, some 16), (2, 12, some 15), (2, 11, some 14), (2, 10, some 13), (2, 9, some 12), (2, 8, some 11), (2, 7, some 10), (2, 6, some 9), (2, 5, some 8), (2, 4, some 7), (2, 3, some 6), (2, 2, some 5), (2, 1, some 4), (2, 0, some 3), (1, 0, some 2)])) (Bs := []) (rest := [.ref (base + 75), .int (1 : Int32), .ref (base + 73)]) (aX8_init 18 rfl) wc_RX8_17 (by decide) rfl wi_yX5_init rfl rfl rfl (Nat.le_of_ble_eq_true rfl) (Nat.le_of_ble_eq_true rfl) ?_ (fun v s hv => ?_)
      · refine hw_aloadn (aX5_init 0 rfl) rfl ?_
        refine hw_obj (aX5_init 1 rfl) (tin_1 (i := 42) rfl rfl) (tin_1 (i := 28) rfl rfl) (tin_1 (i := 29) rfl rfl) (Nat.le_of_ble_eq_true rfl) ?_
        refine xw_vret (aX5_init 2 rfl) rfl ?_
        exact ⟨rfl, rfl⟩
      obtain ⟨rfl, rfl⟩ := hv
      show hw sk base _ _ _ _ _ [.ref (base + 75), .int (1 : Int32), .ref (base + 73)] _ _
      refine hv_aast (k := 3) (i2 := 1) (aX8_init 19 rfl) (by decide : 73 < 76) (rfl : hsF 73 = (103, 16)) rfl (by decide) (by decide : 75 < 76) (rfl : hsF 75 = (5, 0)) rfl (h_in (by decide : (1 : Int32).toInt = 1) (by decide) (by decide)) (by decide) (fun F120 u119 => ?_)
      rw [fR_up] at u119; subst u119
      refine xw_iinc (L2 := [(1, .int (2 : Int32)), (0, .ref (base + 72))]) (aX8_init 20 rfl) rfl (by decide) (by rw [show ((1 : Int32) + Int32.ofInt (1)) = (2 : Int32) from by decide]; rfl) ?_
      refine xw_goto (tgt := 15) (aX8_init 21 rfl) (by decide) ?_
      refine xw_iloadn (aX8_init 8 rfl) rfl ?_
      refine hw_aloadn (aX8_init 9 rfl) rfl ?_
      refine hw_get (v := .ref (base + 73)) (aX8_init 10 rfl) wf_RX8_13 (by decide : 72 < 76) (rfl : hsF 72 = (8, 0)) (by decide) rfl ?_
      refine hw_alen (k := 3) (z := 16) (v := (16 : Int32)) (aX8_init 11 rfl) (by decide : 73 < 76) (rfl : hsF 73 = (103, 16)) (by decide) (by decide) ?_
      refine hw_icge (tgt := 43) (aX8_init 12 rfl) (by decide) (by decide : (2 : Int32).toInt = 2) (by decide : (16 : Int32).toInt = 16) (fun cd => ?_) (fun cd => ?_)
      · exfalso; omega
      refine hw_aloadn (aX8_init 13 rfl) rfl ?_
      refine hw_get (v := .ref (base + 73)) (aX8_init 14 rfl) wf_RX8_13 (by decide : 72 < 76) (rfl : hsF 72 = (8, 0)) (by decide) rfl ?_
      refine xw_iloadn (aX8_init 15 rfl) rfl ?_
      refine cw_new (t := 5) (n2 := 77) (sl2 := 5807) (aX8_init 16 rfl) rfl (tin_1 (i := 36) rfl rfl) (tin_1 (i := 3) rfl rfl) rfl rfl rfl rfl rfl (by decide) (by decide) ?_
      refine xw_dup (aX8_init 17 rfl) rfl ?_
      refine hw_callN (j2 := 58) (Φ2 := fun v s => v = none ∧ s = (77, 5807, hsF, fI [(23, 5, ((-1) : Int32)), (23, 4, ((-1) : Int32)), (21, 3, ((-1) : Int32)), (21, 2, ((-1) : Int32)), (21, 1, ((-1) : Int32)), (21, 0, ((-1) : Int32))], fZ, fR [(73, 1, some 75), (73, 0, some 74), (72, 0, some 73), (48, 3, some 71), (48, 2, some 70), (49, 1, none), (49, 0, some 23), (49, 4, some 52), (53, 15, some 69), (53, 14, some 68), (53, 13, some 67), (53, 12, some 66), (53, 11, some 65), (53, 10, some 64), (53, 9, some 63), (53, 8, some 62), (53, 7, some 61), (53, 6, some 60), (53, 5, some 59), (53, 4, some 58), (53, 3, some 57), (53, 2, some 56), (53, 1, some 55), (53, 0, some 54), (52, 0, some 53), (49, 3, some 51), (49, 2, some 50), (0, 0, some 23), (23, 3, some 43), (23, 2, some 26), (23, 1, some 25), (23, 0, some 24), (0, 11, some 22), (0, 8, some 21), (0, 7, some 20), (0, 6, some 19), (0, 5, some 1), (2, 15, some 18), (2, 14, some 17), (2, 13, some 16), (2, 12, some 15), (2, 11, some 14), (2, 10, some 13), (2, 9, some 12), (2, 8, some 11), (2, 7, some 10), (2, 6, some 9), (2, 5, some 8), (2, 4, some 7), (2, 3, some 6), (2, 2, some 5), (2, 1, some 4), (2, 0, some 3), (1, 0, some 2)])) (Bs := []) (rest := [.ref (base + 76), .int (2 : Int32), .ref (base + 73)]) (aX8_init 18 rfl) wc_RX8_17 (by decide) rfl wi_yX5_init rfl rfl rfl (Nat.le_of_ble_eq_true rfl) (Nat.le_of_ble_eq_true rfl) ?_ (fun v s hv => ?_)
      · refine hw_aloadn (aX5_init 0 rfl) rfl ?_
        refine hw_obj (aX5_init 1 rfl) (tin_1 (i := 42) rfl rfl) (tin_1 (i := 28) rfl rfl) (tin_1 (i := 29) rfl rfl) (Nat.le_of_ble_eq_true rfl) ?_
        refine xw_vret (aX5_init 2 rfl) rfl ?_
        exact ⟨rfl, rfl⟩
      obtain ⟨rfl, rfl⟩ := hv
      show hw sk base _ _ _ _ _ [.ref (base + 76), .int (2 : Int32), .ref (base + 73)] _ _
      refine hv_aast (k := 3) (i2 := 2) (aX8_init 19 rfl) (by decide : 73 < 77) (rfl : hsF 73 = (103, 16)) rfl (by decide) (by decide : 76 < 77) (rfl : hsF 76 = (5, 0)) rfl (h_in (by decide : (2 : Int32).toInt = 2) (by decide) (by decide)) (by decide) (fun F122 u121 => ?_)
      rw [fR_up] at u121; subst u121
      refine xw_iinc (L2 := [(1, .int (3 : Int32)), (0, .ref (base + 72))]) (aX8_init 20 rfl) rfl (by decide) (by rw [show ((2 : Int32) + Int32.ofInt (1)) = (3 : Int32) from by decide]; rfl) ?_
      refine xw_goto (tgt := 15) (aX8_init 21 rfl) (by decide) ?_
      refine xw_iloadn (aX8_init 8 rfl) rfl ?_
      refine hw_aloadn (aX8_init 9 rfl) rfl ?_
      refine hw_get (v := .ref (base + 73)) (aX8_init 10 rfl) wf_RX8_13 (by decide : 72 < 77) (rfl : hsF 72 = (8, 0)) (by decide) rfl ?_
      refine hw_alen (k := 3) (z := 16) (v := (16 : Int32)) (aX8_init 11 rfl) (by decide : 73 < 77) (rfl : hsF 73 = (103, 16)) (by decide) (by decide) ?_
      refine hw_icge (tgt := 43) (aX8_init 12 rfl) (by decide) (by decide : (3 : Int32).toInt = 3) (by decide : (16 : Int32).toInt = 16) (fun cd => ?_) (fun cd => ?_)
      · exfalso; omega
      refine hw_aloadn (aX8_init 13 rfl) rfl ?_
      refine hw_get (v := .ref (base + 73)) (aX8_init 14 rfl) wf_RX8_13 (by decide : 72 < 77) (rfl : hsF 72 = (8, 0)) (by decide) rfl ?_
      refine xw_iloadn (aX8_init 15 rfl) rfl ?_
      refine cw_new (t := 5) (n2 := 78) (sl2 := 5813) (aX8_init 16 rfl) rfl (tin_1 (i := 36) rfl rfl) (tin_1 (i := 3) rfl rfl) rfl rfl rfl rfl rfl (by decide) (by decide) ?_
      refine xw_dup (aX8_init 17 rfl) rfl ?_
      refine hw_callN (j2 := 58) (Φ2 := fun v s => v = none ∧ s = (78, 5813, hsF, fI [(23, 5, ((-1) : Int32)), (23, 4, ((-1) : Int32)), (21, 3, ((-1) : Int32)), (21, 2, ((-1) : Int32)), (21, 1, ((-1) : Int32)), (21, 0, ((-1) : Int32))], fZ, fR [(73, 2, some 76), (73, 1, some 75), (73, 0, some 74), (72, 0, some 73), (48, 3, some 71), (48, 2, some 70), (49, 1, none), (49, 0, some 23), (49, 4, some 52), (53, 15, some 69), (53, 14, some 68), (53, 13, some 67), (53, 12, some 66), (53, 11, some 65), (53, 10, some 64), (53, 9, some 63), (53, 8, some 62), (53, 7, some 61), (53, 6, some 60), (53, 5, some 59), (53, 4, some 58), (53, 3, some 57), (53, 2, some 56), (53, 1, some 55), (53, 0, some 54), (52, 0, some 53), (49, 3, some 51), (49, 2, some 50), (0, 0, some 23), (23, 3, some 43), (23, 2, some 26), (23, 1, some 25), (23, 0, some 24), (0, 11, some 22), (0, 8, some 21), (0, 7, some 20), (0, 6, some 19), (0, 5, some 1), (2, 15, some 18), (2, 14, some 17), (2, 13, some 16), (2, 12, some 15), (2, 11, some 14), (2, 10, some 13), (2, 9, some 12), (2, 8, some 11), (2, 7, some 10), (2, 6, some 9), (2, 5, some 8), (2, 4, some 7), (2, 3, some 6), (2, 2, some 5), (2, 1, some 4), (2, 0, some 3), (1, 0, some 2)])) (Bs := []) (rest := [.ref (base + 77), .int (3 : Int32), .ref (base + 73)]) (aX8_init 18 rfl) wc_RX8_17 (by decide) rfl wi_yX5_init rfl rfl rfl (Nat.le_of_ble_eq_true rfl) (Nat.le_of_ble_eq_true rfl) ?_ (fun v s hv => ?_)
      · refine hw_aloadn (aX5_init 0 rfl) rfl ?_
        refine hw_obj (aX5_init 1 rfl) (tin_1 (i := 42) rfl rfl) (tin_1 (i := 28) rfl rfl) (tin_1 (i := 29) rfl rfl) (Nat.le_of_ble_eq_true rfl) ?_
        refine xw_vret (aX5_init 2 rfl) rfl ?_
        exact ⟨rfl, rfl⟩
      obtain ⟨rfl, rfl⟩ := hv
      show hw sk base _ _ _ _ _ [.ref (base + 77), .int (3 : Int32), .ref (base + 73)] _ _
      refine hv_aast (k := 3) (i2 := 3) (aX8_init 19 rfl) (by decide : 73 < 78) (rfl : hsF 73 = (103, 16)) rfl (by decide) (by decide : 77 < 78) (rfl : hsF 77 = (5, 0)) rfl (h_in (by decide : (3 : Int32).toInt = 3) (by decide) (by decide)) (by decide) (fun F124 u123 => ?_)
      rw [fR_up] at u123; subst u123
      refine xw_iinc (L2 := [(1, .int (4 : Int32)), (0, .ref (base + 72))]) (aX8_init 20 rfl) rfl (by decide) (by rw [show ((3 : Int32) + Int32.ofInt (1)) = (4 : Int32) from by decide]; rfl) ?_
      refine xw_goto (tgt := 15) (aX8_init 21 rfl) (by decide) ?_
      refine xw_iloadn (aX8_init 8 rfl) rfl ?_
      refine hw_aloadn (aX8_init 9 rfl) rfl ?_
      refine hw_get (v := .ref (base + 73)) (aX8_init 10 rfl) wf_RX8_13 (by decide : 72 < 78) (rfl : hsF 72 = (8, 0)) (by decide) rfl ?_
      refine hw_alen (k := 3) (z := 16) (v := (16 : Int32)) (aX8_init 11 rfl) (by decide : 73 < 78) (rfl : hsF 73 = (103, 16)) (by decide) (by decide) ?_
      refine hw_icge (tgt := 43) (aX8_init 12 rfl) (by decide) (by decide : (4 : Int32).toInt = 4) (by decide : (16 : Int32).toInt = 16) (fun cd => ?_) (fun cd => ?_)
      · exfalso; omega
      refine hw_aloadn (aX8_init 13 rfl) rfl ?_
      refine hw_get (v := .ref (base + 73)) (aX8_init 14 rfl) wf_RX8_13 (by decide : 72 < 78) (rfl : hsF 72 = (8, 0)) (by decide) rfl ?_
      refine xw_iloadn (aX8_init 15 rfl) rfl ?_
      refine cw_new (t := 5) (n2 := 79) (sl2 := 5819) (aX8_init 16 rfl) rfl (tin_1 (i := 36) rfl rfl) (tin_1 (i := 3) rfl rfl) rfl rfl rfl rfl rfl (by decide) (by decide) ?_
      refine xw_dup (aX8_init 17 rfl) rfl ?_
      refine hw_callN (j2 := 58) (Φ2 := fun v s => v = none ∧ s = (79, 5819, hsF, fI [(23, 5, ((-1) : Int32)), (23, 4, ((-1) : Int32)), (21, 3, ((-1) : Int32)), (21, 2, ((-1) : Int32)), (21, 1, ((-1) : Int32)), (21, 0, ((-1) : Int32))], fZ, fR [(73, 3, some 77), (73, 2, some 76), (73, 1, some 75), (73, 0, some 74), (72, 0, some 73), (48, 3, some 71), (48, 2, some 70), (49, 1, none), (49, 0, some 23), (49, 4, some 52), (53, 15, some 69), (53, 14, some 68), (53, 13, some 67), (53, 12, some 66), (53, 11, some 65), (53, 10, some 64), (53, 9, some 63), (53, 8, some 62), (53, 7, some 61), (53, 6, some 60), (53, 5, some 59), (53, 4, some 58), (53, 3, some 57), (53, 2, some 56), (53, 1, some 55), (53, 0, some 54), (52, 0, some 53), (49, 3, some 51), (49, 2, some 50), (0, 0, some 23), (23, 3, some 43), (23, 2, some 26), (23, 1, some 25), (23, 0, some 24), (0, 11, some 22), (0, 8, some 21), (0, 7, some 20), (0, 6, some 19), (0, 5, some 1), (2, 15, some 18), (2, 14, some 17), (2, 13, some 16), (2, 12, some 15), (2, 11, some 14), (2, 10, some 13), (2, 9, some 12), (2, 8, some 11), (2, 7, some 10), (2, 6, some 9), (2, 5, some 8), (2, 4, some 7), (2, 3, some 6), (2, 2, some 5), (2, 1, some 4), (2, 0, some 3), (1, 0, some 2)])) (Bs := []) (rest := [.ref (base + 78), .int (4 : Int32), .ref (base + 73)]) (aX8_init 18 rfl) wc_RX8_17 (by decide) rfl wi_yX5_init rfl rfl rfl (Nat.le_of_ble_eq_true rfl) (Nat.le_of_ble_eq_true rfl) ?_ (fun v s hv => ?_)
      · refine hw_aloadn (aX5_init 0 rfl) rfl ?_
        refine hw_obj (aX5_init 1 rfl) (tin_1 (i := 42) rfl rfl) (tin_1 (i := 28) rfl rfl) (tin_1 (i := 29) rfl rfl) (Nat.le_of_ble_eq_true rfl) ?_
        refine xw_vret (aX5_init 2 rfl) rfl ?_
        exact ⟨rfl, rfl⟩
      obtain ⟨rfl, rfl⟩ := hv
      show hw sk base _ _ _ _ _ [.ref (base + 78), .int (4 : Int32), .ref (base + 73)] _ _
      refine hv_aast (k := 3) (i2 := 4) (aX8_init 19 rfl) (by decide : 73 < 79) (rfl : hsF 73 = (103, 16)) rfl (by decide) (by decide : 78 < 79) (rfl : hsF 78 = (5, 0)) rfl (h_in (by decide : (4 : Int32).toInt = 4) (by decide) (by decide)) (by decide) (fun F126 u125 => ?_)
      rw [fR_up] at u125; subst u125
      refine xw_iinc (L2 := [(1, .int (5 : Int32)), (0, .ref (base + 72))]) (aX8_init 20 rfl) rfl (by decide) (by rw [show ((4 : Int32) + Int32.ofInt (1)) = (5 : Int32) from by decide]; rfl) ?_
      refine xw_goto (tgt := 15) (aX8_init 21 rfl) (by decide) ?_
      refine xw_iloadn (aX8_init 8 rfl) rfl ?_
      refine hw_aloadn (aX8_init 9 rfl) rfl ?_
      refine hw_get (v := .ref (base + 73)) (aX8_init 10 rfl) wf_RX8_13 (by decide : 72 < 79) (rfl : hsF 72 = (8, 0)) (by decide) rfl ?_
      refine hw_alen (k := 3) (z := 16) (v := (16 : Int32)) (aX8_init 11 rfl) (by decide : 73 < 79) (rfl : hsF 73 = (103, 16)) (by decide) (by decide) ?_
      refine hw_icge (tgt := 43) (aX8_init 12 rfl) (by decide) (by decide : (5 : Int32).toInt = 5) (by decide : (16 : Int32).toInt = 16) (fun cd => ?_) (fun cd => ?_)
      · exfalso; omega
      refine hw_aloadn (aX8_init 13 rfl) rfl ?_
      refine hw_get (v := .ref (base + 73)) (aX8_init 14 rfl) wf_RX8_13 (by decide : 72 < 79) (rfl : hsF 72 = (8, 0)) (by decide) rfl ?_
      refine xw_iloadn (aX8_init 15 rfl) rfl ?_
      refine cw_new (t := 5) (n2 := 80) (sl2 := 5825) (aX8_init 16 rfl) rfl (tin_1 (i := 36) rfl rfl) (tin_1 (i := 3) rfl rfl) rfl rfl rfl rfl rfl (by decide) (by decide) ?_
      refine xw_dup (aX8_init 17 rfl) rfl ?_
      refine hw_callN (j2 := 58) (Φ2 := fun v s => v = none ∧ s = (80, 5825, hsF, fI [(23, 5, ((-1) : Int32)), (23, 4, ((-1) : Int32)), (21, 3, ((-1) : Int32)), (21, 2, ((-1) : Int32)), (21, 1, ((-1) : Int32)), (21, 0, ((-1) : Int32))], fZ, fR [(73, 4, some 78), (73, 3, some 77), (73, 2, some 76), (73, 1, some 75), (73, 0, some 74), (72, 0, some 73), (48, 3, some 71), (48, 2, some 70), (49, 1, none), (49, 0, some 23), (49, 4, some 52), (53, 15, some 69), (53, 14, some 68), (53, 13, some 67), (53, 12, some 66), (53, 11, some 65), (53, 10, some 64), (53, 9, some 63), (53, 8, some 62), (53, 7, some 61), (53, 6, some 60), (53, 5, some 59), (53, 4, some 58), (53, 3, some 57), (53, 2, some 56), (53, 1, some 55), (53, 0, some 54), (52, 0, some 53), (49, 3, some 51), (49, 2, some 50), (0, 0, some 23), (23, 3, some 43), (23, 2, some 26), (23, 1, some 25), (23, 0, some 24), (0, 11, some 22), (0, 8, some 21), (0, 7, some 20), (0, 6, some 19), (0, 5, some 1), (2, 15, some 18), (2, 14, some 17), (2, 13, some 16), (2, 12, some 15), (2, 11, some 14), (2, 10, some 13), (2, 9, some 12), (2, 8, some 11), (2, 7, some 10), (2, 6, some 9), (2, 5, some 8), (2, 4, some 7), (2, 3, some 6), (2, 2, some 5), (2, 1, some 4), (2, 0, some 3), (1, 0, some 2)])) (Bs := []) (rest := [.ref (base + 79), .int (5 : Int32), .ref (base + 73)]) (aX8_init 18 rfl) wc_RX8_17 (by decide) rfl wi_yX5_init rfl rfl rfl (Nat.le_of_ble_eq_true rfl) (Nat.le_of_ble_eq_true rfl) ?_ (fun v s hv => ?_)
      · refine hw_aloadn (aX5_init 0 rfl) rfl ?_
        refine hw_obj (aX5_init 1 rfl) (tin_1 (i := 42) rfl rfl) (tin_1 (i := 28) rfl rfl) (tin_1 (i := 29) rfl rfl) (Nat.le_of_ble_eq_true rfl) ?_
        refine xw_vret (aX5_init 2 rfl) rfl ?_
        exact ⟨rfl, rfl⟩
      obtain ⟨rfl, rfl⟩ := hv
      show hw sk base _ _ _ _ _ [.ref (base + 79), .int (5 : Int32), .ref (base + 73)] _ _
      refine hv_aast (k := 3) (i2 := 5) (aX8_init 19 rfl) (by decide : 73 < 80) (rfl : hsF 73 = (103, 16)) rfl (by decide) (by decide : 79 < 80) (rfl : hsF 79 = (5, 0)) rfl (h_in (by decide : (5 : Int32).toInt = 5) (by decide) (by decide)) (by decide) (fun F128 u127 => ?_)
      rw [fR_up] at u127; subst u127
      refine xw_iinc (L2 := [(1, .int (6 : Int32)), (0, .ref (base + 72))]) (aX8_init 20 rfl) rfl (by decide) (by rw [show ((5 : Int32) + Int32.ofInt (1)) = (6 : Int32) from by decide]; rfl) ?_
      refine xw_goto (tgt := 15) (aX8_init 21 rfl) (by decide) ?_
      refine xw_iloadn (aX8_init 8 rfl) rfl ?_
      refine hw_aloadn (aX8_init 9 rfl) rfl ?_
      refine hw_get (v := .ref (base + 73)) (aX8_init 10 rfl) wf_RX8_13 (by decide : 72 < 80) (rfl : hsF 72 = (8, 0)) (by decide) rfl ?_
      refine hw_alen (k := 3) (z := 16) (v := (16 : Int32)) (aX8_init 11 rfl) (by decide : 73 < 80) (rfl : hsF 73 = (103, 16)) (by decide) (by decide) ?_
      refine hw_icge (tgt := 43) (aX8_init 12 rfl) (by decide) (by decide : (6 : Int32).toInt = 6) (by decide : (16 : Int32).toInt = 16) (fun cd => ?_) (fun cd => ?_)
      · exfalso; omega
      refine hw_aloadn (aX8_init 13 rfl) rfl ?_
      refine hw_get (v := .ref (base + 73)) (aX8_init 14 rfl) wf_RX8_13 (by decide : 72 < 80) (rfl : hsF 72 = (8, 0)) (by decide) rfl ?_
      refine xw_iloadn (aX8_init 15 rfl) rfl ?_
      refine cw_new (t := 5) (n2 := 81) (sl2 := 5831) (aX8_init 16 rfl) rfl (tin_1 (i := 36) rfl rfl) (tin_1 (i := 3) rfl rfl) rfl rfl rfl rfl rfl (by decide) (by decide) ?_
      refine xw_dup (aX8_init 17 rfl) rfl ?_
      refine hw_callN (j2 := 58) (Φ2 := fun v s => v = none ∧ s = (81, 5831, hsF, fI [(23, 5, ((-1) : Int32)), (23, 4, ((-1) : Int32)), (21, 3, ((-1) : Int32)), (21, 2, ((-1) : Int32)), (21, 1, ((-1) : Int32)), (21, 0, ((-1) : Int32))], fZ, fR [(73, 5, some 79), (73, 4, some 78), (73, 3, some 77), (73, 2, some 76), (73, 1, some 75), (73, 0, some 74), (72, 0, some 73), (48, 3, some 71), (48, 2, some 70), (49, 1, none), (49, 0, some 23), (49, 4, some 52), (53, 15, some 69), (53, 14, some 68), (53, 13, some 67), (53, 12, some 66), (53, 11, some 65), (53, 10, some 64), (53, 9, some 63), (53, 8, some 62), (53, 7, some 61), (53, 6, some 60), (53, 5, some 59), (53, 4, some 58), (53, 3, some 57), (53, 2, some 56), (53, 1, some 55), (53, 0, some 54), (52, 0, some 53), (49, 3, some 51), (49, 2, some 50), (0, 0, some 23), (23, 3, some 43), (23, 2, some 26), (23, 1, some 25), (23, 0, some 24), (0, 11, some 22), (0, 8, some 21), (0, 7, some 20), (0, 6, some 19), (0, 5, some 1), (2, 15, some 18), (2, 14, some 17), (2, 13, some 16), (2, 12, some 15), (2, 11, some 14), (2, 10, some 13), (2, 9, some 12), (2, 8, some 11), (2, 7, some 10), (2, 6, some 9), (2, 5, some 8), (2, 4, some 7), (2, 3, some 6), (2, 2, some 5), (2, 1, some 4), (2, 0, some 3), (1, 0, some 2)])) (Bs := []) (rest := [.ref (base + 80), .int (6 : Int32), .ref (base + 73)]) (aX8_init 18 rfl) wc_RX8_17 (by decide) rfl wi_yX5_init rfl rfl rfl (Nat.le_of_ble_eq_true rfl) (Nat.le_of_ble_eq_true rfl) ?_ (fun v s hv => ?_)
      · refine hw_aloadn (aX5_init 0 rfl) rfl ?_
        refine hw_obj (aX5_init 1 rfl) (tin_1 (i := 42) rfl rfl) (tin_1 (i := 28) rfl rfl) (tin_1 (i := 29) rfl rfl) (Nat.le_of_ble_eq_true rfl) ?_
        refine xw_vret (aX5_init 2 rfl) rfl ?_
        exact ⟨rfl, rfl⟩
      obtain ⟨rfl, rfl⟩ := hv
      show hw sk base _ _ _ _ _ [.ref (base + 80), .int (6 : Int32), .ref (base + 73)] _ _
      refine hv_aast (k := 3) (i2 := 6) (aX8_init 19 rfl) (by decide : 73 < 81) (rfl : hsF 73 = (103, 16)) rfl (by decide) (by decide : 80 < 81) (rfl : hsF 80 = (5, 0)) rfl (h_in (by decide : (6 : Int32).toInt = 6) (by decide) (by decide)) (by decide) (fun F130 u129 => ?_)
      rw [fR_up] at u129; subst u129
      refine xw_iinc (L2 := [(1, .int (7 : Int32)), (0, .ref (base + 72))]) (aX8_init 20 rfl) rfl (by decide) (by rw [show ((6 : Int32) + Int32.ofInt (1)) = (7 : Int32) from by decide]; rfl) ?_
      refine xw_goto (tgt := 15) (aX8_init 21 rfl) (by decide) ?_
      refine xw_iloadn (aX8_init 8 rfl) rfl ?_
      refine hw_aloadn (aX8_init 9 rfl) rfl ?_
      refine hw_get (v := .ref (base + 73)) (aX8_init 10 rfl) wf_RX8_13 (by decide : 72 < 81) (rfl : hsF 72 = (8, 0)) (by decide) rfl ?_
      refine hw_alen (k := 3) (z := 16) (v := (16 : Int32)) (aX8_init 11 rfl) (by decide : 73 < 81) (rfl : hsF 73 = (103, 16)) (by decide) (by decide) ?_
      refine hw_icge (tgt := 43) (aX8_init 12 rfl) (by decide) (by decide : (7 : Int32).toInt = 7) (by decide : (16 : Int32).toInt = 16) (fun cd => ?_) (fun cd => ?_)
      · exfalso; omega
      refine hw_aloadn (aX8_init 13 rfl) rfl ?_
      refine hw_get (v := .ref (base + 73)) (aX8_init 14 rfl) wf_RX8_13 (by decide : 72 < 81) (rfl : hsF 72 = (8, 0)) (by decide) rfl ?_
      refine xw_iloadn (aX8_init 15 rfl) rfl ?_
      refine cw_new (t := 5) (n2 := 82) (sl2 := 5837) (aX8_init 16 rfl) rfl (tin_1 (i := 36) rfl rfl) (tin_1 (i := 3) rfl rfl) rfl rfl rfl rfl rfl (by decide) (by decide) ?_
      refine xw_dup (aX8_init 17 rfl) rfl ?_
      refine hw_callN (j2 := 58) (Φ2 := fun v s => v = none ∧ s = (82, 5837, hsF, fI [(23, 5, ((-1) : Int32)), (23, 4, ((-1) : Int32)), (21, 3, ((-1) : Int32)), (21, 2, ((-1) : Int32)), (21, 1, ((-1) : Int32)), (21, 0, ((-1) : Int32))], fZ, fR [(73, 6, some 80), (73, 5, some 79), (73, 4, some 78), (73, 3, some 77), (73, 2, some 76), (73, 1, some 75), (73, 0, some 74), (72, 0, some 73), (48, 3, some 71), (48, 2, some 70), (49, 1, none), (49, 0, some 23), (49, 4, some 52), (53, 15, some 69), (53, 14, some 68), (53, 13, some 67), (53, 12, some 66), (53, 11, some 65), (53, 10, some 64), (53, 9, some 63), (53, 8, some 62), (53, 7, some 61), (53, 6, some 60), (53, 5, some 59), (53, 4, some 58), (53, 3, some 57), (53, 2, some 56), (53, 1, some 55), (53, 0, some 54), (52, 0, some 53), (49, 3, some 51), (49, 2, some 50), (0, 0, some 23), (23, 3, some 43), (23, 2, some 26), (23, 1, some 25), (23, 0, some 24), (0, 11, some 22), (0, 8, some 21), (0, 7, some 20), (0, 6, some 19), (0, 5, some 1), (2, 15, some 18), (2, 14, some 17), (2, 13, some 16), (2, 12, some 15), (2, 11, some 14), (2, 10, some 13), (2, 9, some 12), (2, 8, some 11), (2, 7, some 10), (2, 6, some 9), (2, 5, some 8), (2, 4, some 7), (2, 3, some 6), (2, 2, some 5), (2, 1, some 4), (2, 0, some 3), (1, 0, some 2)])) (Bs := []) (rest := [.ref (base + 81), .int (7 : Int32), .ref (base + 73)]) (aX8_init 18 rfl) wc_RX8_17 (by decide) rfl wi_yX5_init rfl rfl rfl (Nat.le_of_ble_eq_true rfl) (Nat.le_of_ble_eq_true rfl) ?_ (fun v s hv => ?_)
      · refine hw_aloadn (aX5_init 0 rfl) rfl ?_
        refine hw_obj (aX5_init 1 rfl) (tin_1 (i := 42) rfl rfl) (tin_1 (i := 28) rfl rfl) (tin_1 (i := 29) rfl rfl) (Nat.le_of_ble_eq_true rfl) ?_
        refine xw_vret (aX5_init 2 rfl) rfl ?_
        exact ⟨rfl, rfl⟩
      obtain ⟨rfl, rfl⟩ := hv
      show hw sk base _ _ _ _ _ [.ref (base + 81), .int (7 : Int32), .ref (base + 73)] _ _
      refine hv_aast (k := 3) (i2 := 7) (aX8_init 19 rfl) (by decide : 73 < 82) (rfl : hsF 73 = (103, 16)) rfl (by decide) (by decide : 81 < 82) (rfl : hsF 81 = (5, 0)) rfl (h_in (by decide : (7 : Int32).toInt = 7) (by decide) (by decide)) (by decide) (fun F132 u131 => ?_)
      rw [fR_up] at u131; subst u131
      refine xw_iinc (L2 := [(1, .int (8 : Int32)), (0, .ref (base + 72))]) (aX8_init 20 rfl) rfl (by decide) (by rw [show ((7 : Int32) + Int32.ofInt (1)) = (8 : Int32) from by decide]; rfl) ?_
      refine xw_goto (tgt := 15) (aX8_init 21 rfl) (by decide) ?_
      refine xw_iloadn (aX8_init 8 rfl) rfl ?_
      refine hw_aloadn (aX8_init 9 rfl) rfl ?_
      refine hw_get (v := .ref (base + 73)) (aX8_init 10 rfl) wf_RX8_13 (by decide : 72 < 82) (rfl : hsF 72 = (8, 0)) (by decide) rfl ?_
      refine hw_alen (k := 3) (z := 16) (v := (16 : Int32)) (aX8_init 11 rfl) (by decide : 73 < 82) (rfl : hsF 73 = (103, 16)) (by decide) (by decide) ?_
      refine hw_icge (tgt := 43) (aX8_init 12 rfl) (by decide) (by decide : (8 : Int32).toInt = 8) (by decide : (16 : Int32).toInt = 16) (fun cd => ?_) (fun cd => ?_)
      · exfalso; omega
      refine hw_aloadn (aX8_init 13 rfl) rfl ?_
      refine hw_get (v := .ref (base + 73)) (aX8_init 14 rfl) wf_RX8_13 (by decide : 72 < 82) (rfl : hsF 72 = (8, 0)) (by decide) rfl ?_
      refine xw_iloadn (aX8_init 15 rfl) rfl ?_
      refine cw_new (t := 5) (n2 := 83) (sl2 := 5843) (aX8_init 16 rfl) rfl (tin_1 (i := 36) rfl rfl) (tin_1 (i := 3) rfl rfl) rfl rfl rfl rfl rfl (by decide) (by decide) ?_
      refine xw_dup (aX8_init 17 rfl) rfl ?_
      refine hw_callN (j2 := 58) (Φ2 := fun v s => v = none ∧ s = (83, 5843, hsF, fI [(23, 5, ((-1) : Int32)), (23, 4, ((-1) : Int32)), (21, 3, ((-1) : Int32)), (21, 2, ((-1) : Int32)), (21, 1, ((-1) : Int32)), (21, 0, ((-1) : Int32))], fZ, fR [(73, 7, some 81), (73, 6, some 80), (73, 5, some 79), (73, 4, some 78), (73, 3, some 77), (73, 2, some 76), (73, 1, some 75), (73, 0, some 74), (72, 0, some 73), (48, 3, some 71), (48, 2, some 70), (49, 1, none), (49, 0, some 23), (49, 4, some 52), (53, 15, some 69), (53, 14, some 68), (53, 13, some 67), (53, 12, some 66), (53, 11, some 65), (53, 10, some 64), (53, 9, some 63), (53, 8, some 62), (53, 7, some 61), (53, 6, some 60), (53, 5, some 59), (53, 4, some 58), (53, 3, some 57), (53, 2, some 56), (53, 1, some 55), (53, 0, some 54), (52, 0, some 53), (49, 3, some 51), (49, 2, some 50), (0, 0, some 23), (23, 3, some 43), (23, 2, some 26), (23, 1, some 25), (23, 0, some 24), (0, 11, some 22), (0, 8, some 21), (0, 7, some 20), (0, 6, some 19), (0, 5, some 1), (2, 15, some 18), (2, 14, some 17), (2, 13, some 16), (2, 12, some 15), (2, 11, some 14), (2, 10, some 13), (2, 9, some 12), (2, 8, some 11), (2, 7, some 10), (2, 6, some 9), (2, 5, some 8), (2, 4, some 7), (2, 3, some 6), (2, 2, some 5), (2, 1, some 4), (2, 0, some 3), (1, 0, some 2)])) (Bs := []) (rest := [.ref (base + 82), .int (8 : Int32), .ref (base + 73)]) (aX8_init 18 rfl) wc_RX8_17 (by decide) rfl wi_yX5_init rfl rfl rfl (Nat.le_of_ble_eq_true rfl) (Nat.le_of_ble_eq_true rfl) ?_ (fun v s hv => ?_)
      · refine hw_aloadn (aX5_init 0 rfl) rfl ?_
        refine hw_obj (aX5_init 1 rfl) (tin_1 (i := 42) rfl rfl) (tin_1 (i := 28) rfl rfl) (tin_1 (i := 29) rfl rfl) (Nat.le_of_ble_eq_true rfl) ?_
        refine xw_vret (aX5_init 2 rfl) rfl ?_
        exact ⟨rfl, rfl⟩
      obtain ⟨rfl, rfl⟩ := hv
      show hw sk base _ _ _ _ _ [.ref (base + 82), .int (8 : Int32), .ref (base + 73)] _ _
      refine hv_aast (k := 3) (i2 := 8) (aX8_init 19 rfl) (by decide : 73 < 83) (rfl : hsF 73 = (103, 16)) rfl (by decide) (by decide : 82 < 83) (rfl : hsF 82 = (5, 0)) rfl (h_in (by decide : (8 : Int32).toInt = 8) (by decide) (by decide)) (by decide) (fun F134 u133 => ?_)
      rw [fR_up] at u133; subst u133
      refine xw_iinc (L2 := [(1, .int (9 : Int32)), (0, .ref (base + 72))]) (aX8_init 20 rfl) rfl (by decide) (by rw [show ((8 : Int32) + Int32.ofInt (1)) = (9 : Int32) from by decide]; rfl) ?_
      refine xw_goto (tgt := 15) (aX8_init 21 rfl) (by decide) ?_
      refine xw_iloadn (aX8_init 8 rfl) rfl ?_
      refine hw_aloadn (aX8_init 9 rfl) rfl ?_
      refine hw_get (v := .ref (base + 73)) (aX8_init 10 rfl) wf_RX8_13 (by decide : 72 < 83) (rfl : hsF 72 = (8, 0)) (by decide) rfl ?_
      refine hw_alen (k := 3) (z := 16) (v := (16 : Int32)) (aX8_init 11 rfl) (by decide : 73 < 83) (rfl : hsF 73 = (103, 16)) (by decide) (by decide) ?_
      refine hw_icge (tgt := 43) (aX8_init 12 rfl) (by decide) (by decide : (9 : Int32).toInt = 9) (by decide : (16 : Int32).toInt = 16) (fun cd => ?_) (fun cd => ?_)
      · exfalso; omega
      refine hw_aloadn (aX8_init 13 rfl) rfl ?_
      refine hw_get (v := .ref (base + 73)) (aX8_init 14 rfl) wf_RX8_13 (by decide : 72 < 83) (rfl : hsF 72 = (8, 0)) (by decide) rfl ?_
      refine xw_iloadn (aX8_init 15 rfl) rfl ?_
      refine cw_new (t := 5) (n2 := 84) (sl2 := 5849) (aX8_init 16 rfl) rfl (tin_1 (i := 36) rfl rfl) (tin_1 (i := 3) rfl rfl) rfl rfl rfl rfl rfl (by decide) (by decide) ?_
      refine xw_dup (aX8_init 17 rfl) rfl ?_
      refine hw_callN (j2 := 58) (Φ2 := fun v s => v = none ∧ s = (84, 5849, hsF, fI [(23, 5, ((-1) : Int32)), (23, 4, ((-1) : Int32)), (21, 3, ((-1) : Int32)), (21, 2, ((-1) : Int32)), (21, 1, ((-1) : Int32)), (21, 0, ((-1) : Int32))], fZ, fR [(73, 8, some 82), (73, 7, some 81), (73, 6, some 80), (73, 5, some 79), (73, 4, some 78), (73, 3, some 77), (73, 2, some 76), (73, 1, some 75), (73, 0, some 74), (72, 0, some 73), (48, 3, some 71), (48, 2, some 70), (49, 1, none), (49, 0, some 23), (49, 4, some 52), (53, 15, some 69), (53, 14, some 68), (53, 13, some 67), (53, 12, some 66), (53, 11, some 65), (53, 10, some 64), (53, 9, some 63), (53, 8, some 62), (53, 7, some 61), (53, 6, some 60), (53, 5, some 59), (53, 4, some 58), (53, 3, some 57), (53, 2, some 56), (53, 1, some 55), (53, 0, some 54), (52, 0, some 53), (49, 3, some 51), (49, 2, some 50), (0, 0, some 23), (23, 3, some 43), (23, 2, some 26), (23, 1, some 25), (23, 0, some 24), (0, 11, some 22), (0, 8, some 21), (0, 7, some 20), (0, 6, some 19), (0, 5, some 1), (2, 15, some 18), (2, 14, some 17), (2, 13, some 16), (2, 12, some 15), (2, 11, some 14), (2, 10, some 13), (2, 9, some 12), (2, 8, some 11), (2, 7, some 10), (2, 6, some 9), (2, 5, some 8), (2, 4, some 7), (2, 3, some 6), (2, 2, some 5), (2, 1, some 4), (2, 0, some 3), (1, 0, some 2)])) (Bs := []) (rest := [.ref (base + 83), .int (9 : Int32), .ref (base + 73)]) (aX8_init 18 rfl) wc_RX8_17 (by decide) rfl wi_yX5_init rfl rfl rfl (Nat.le_of_ble_eq_true rfl) (Nat.le_of_ble_eq_true rfl) ?_ (fun v s hv => ?_)
      · refine hw_aloadn (aX5_init 0 rfl) rfl ?_
        refine hw_obj (aX5_init 1 rfl) (tin_1 (i := 42) rfl rfl) (tin_1 (i := 28) rfl rfl) (tin_1 (i := 29) rfl rfl) (Nat.le_of_ble_eq_true rfl) ?_
        refine xw_vret (aX5_init 2 rfl) rfl ?_
        exact ⟨rfl, rfl⟩
      obtain ⟨rfl, rfl⟩ := hv
      show hw sk base _ _ _ _ _ [.ref (base + 83), .int (9 : Int32), .ref (base + 73)] _ _
      refine hv_aast (k := 3) (i2 := 9) (aX8_init 19 rfl) (by decide : 73 < 84) (rfl : hsF 73 = (103, 16)) rfl (by decide) (by decide : 83 < 84) (rfl : hsF 83 = (5, 0)) rfl (h_in (by decide : (9 : Int32).toInt = 9) (by decide) (by decide)) (by decide) (fun F136 u135 => ?_)
      rw [fR_up] at u135; subst u135
      refine xw_iinc (L2 := [(1, .int (10 : Int32)), (0, .ref (base + 72))]) (aX8_init 20 rfl) rfl (by decide) (by rw [show ((9 : Int32) + Int32.ofInt (1)) = (10 : Int32) from by decide]; rfl) ?_
      refine xw_goto (tgt := 15) (aX8_init 21 rfl) (by decide) ?_
      refine xw_iloadn (aX8_init 8 rfl) rfl ?_
      refine hw_aloadn (aX8_init 9 rfl) rfl ?_
      refine hw_get (v := .ref (base + 73)) (aX8_init 10 rfl) wf_RX8_13 (by decide : 72 < 84) (rfl : hsF 72 = (8, 0)) (by decide) rfl ?_
      refine hw_alen (k := 3) (z := 16) (v := (16 : Int32)) (aX8_init 11 rfl) (by decide : 73 < 84) (rfl : hsF 73 = (103, 16)) (by decide) (by decide) ?_
      refine hw_icge (tgt := 43) (aX8_init 12 rfl) (by decide) (by decide : (10 : Int32).toInt = 10) (by decide : (16 : Int32).toInt = 16) (fun cd => ?_) (fun cd => ?_)
      · exfalso; omega
      refine hw_aloadn (aX8_init 13 rfl) rfl ?_
      refine hw_get (v := .ref (base + 73)) (aX8_init 14 rfl) wf_RX8_13 (by decide : 72 < 84) (rfl : hsF 72 = (8, 0)) (by decide) rfl ?_
      refine xw_iloadn (aX8_init 15 rfl) rfl ?_
      refine cw_new (t := 5) (n2 := 85) (sl2 := 5855) (aX8_init 16 rfl) rfl (tin_1 (i := 36) rfl rfl) (tin_1 (i := 3) rfl rfl) rfl rfl rfl rfl rfl (by decide) (by decide) ?_
      refine xw_dup (aX8_init 17 rfl) rfl ?_
      refine hw_callN (j2 := 58) (Φ2 := fun v s => v = none ∧ s = (85, 5855, hsF, fI [(23, 5, ((-1) : Int32)), (23, 4, ((-1) : Int32)), (21, 3, ((-1) : Int32)), (21, 2, ((-1) : Int32)), (21, 1, ((-1) : Int32)), (21, 0, ((-1) : Int32))], fZ, fR [(73, 9, some 83), (73, 8, some 82), (73, 7, some 81), (73, 6, some 80), (73, 5, some 79), (73, 4, some 78), (73, 3, some 77), (73, 2, some 76), (73, 1, some 75), (73, 0, some 74), (72, 0, some 73), (48, 3, some 71), (48, 2, some 70), (49, 1, none), (49, 0, some 23), (49, 4, some 52), (53, 15, some 69), (53, 14, some 68), (53, 13, some 67), (53, 12, some 66), (53, 11, some 65), (53, 10, some 64), (53, 9, some 63), (53, 8, some 62), (53, 7, some 61), (53, 6, some 60), (53, 5, some 59), (53, 4, some 58), (53, 3, some 57), (53, 2, some 56), (53, 1, some 55), (53, 0, some 54), (52, 0, some 53), (49, 3, some 51), (49, 2, some 50), (0, 0, some 23), (23, 3, some 43), (23, 2, some 26), (23, 1, some 25), (23, 0, some 24), (0, 11, some 22), (0, 8, some 21), (0, 7, some 20), (0, 6, some 19), (0, 5, some 1), (2, 15, some 18), (2, 14, some 17), (2, 13, some 16), (2, 12, some 15), (2, 11, some 14), (2, 10, some 13), (2, 9, some 12), (2, 8, some 11), (2, 7, some 10), (2, 6, some 9), (2, 5, some 8), (2, 4, some 7), (2, 3, some 6), (2, 2, some 5), (2, 1, some 4), (2, 0, some 3), (1, 0, some 2)])) (Bs := []) (rest := [.ref (base + 84), .int (10 : Int32), .ref (base + 73)]) (aX8_init 18 rfl) wc_RX8_17 (by decide) rfl wi_yX5_init rfl rfl rfl (Nat.le_of_ble_eq_true rfl) (Nat.le_of_ble_eq_true rfl) ?_ (fun v s hv => ?_)
      · refine hw_aloadn (aX5_init 0 rfl) rfl ?_
        refine hw_obj (aX5_init 1 rfl) (tin_1 (i := 42) rfl rfl) (tin_1 (i := 28) rfl rfl) (tin_1 (i := 29) rfl rfl) (Nat.le_of_ble_eq_true rfl) ?_
        refine xw_vret (aX5_init 2 rfl) rfl ?_
        exact ⟨rfl, rfl⟩
      obtain ⟨rfl, rfl⟩ := hv
      show hw sk base _ _ _ _ _ [.ref (base + 84), .int (10 : Int32), .ref (base + 73)] _ _
      refine hv_aast (k := 3) (i2 := 10) (aX8_init 19 rfl) (by decide : 73 < 85) (rfl : hsF 73 = (103, 16)) rfl (by decide) (by decide : 84 < 85) (rfl : hsF 84 = (5, 0)) rfl (h_in (by decide : (10 : Int32).toInt = 10) (by decide) (by decide)) (by decide) (fun F138 u137 => ?_)
      rw [fR_up] at u137; subst u137
      refine xw_iinc (L2 := [(1, .int (11 : Int32)), (0, .ref (base + 72))]) (aX8_init 20 rfl) rfl (by decide) (by rw [show ((10 : Int32) + Int32.ofInt (1)) = (11 : Int32) from by decide]; rfl) ?_
      refine xw_goto (tgt := 15) (aX8_init 21 rfl) (by decide) ?_
      refine xw_iloadn (aX8_init 8 rfl) rfl ?_
      refine hw_aloadn (aX8_init 9 rfl) rfl ?_
      refine hw_get (v := .ref (base + 73)) (aX8_init 10 rfl) wf_RX8_13 (by decide : 72 < 85) (rfl : hsF 72 = (8, 0)) (by decide) rfl ?_
      refine hw_alen (k := 3) (z := 16) (v := (16 : Int32)) (aX8_init 11 rfl) (by decide : 73 < 85) (rfl : hsF 73 = (103, 16)) (by decide) (by decide) ?_
      refine hw_icge (tgt := 43) (aX8_init 12 rfl) (by decide) (by decide : (11 : Int32).toInt = 11) (by decide : (16 : Int32).toInt = 16) (fun cd => ?_) (fun cd => ?_)
      · exfalso; omega
      refine hw_aloadn (aX8_init 13 rfl) rfl ?_
      refine hw_get (v := .ref (base + 73)) (aX8_init 14 rfl) wf_RX8_13 (by decide : 72 < 85) (rfl : hsF 72 = (8, 0)) (by decide) rfl ?_
      refine xw_iloadn (aX8_init 15 rfl) rfl ?_
      refine cw_new (t := 5) (n2 := 86) (sl2 := 5861) (aX8_init 16 rfl) rfl (tin_1 (i := 36) rfl rfl) (tin_1 (i := 3) rfl rfl) rfl rfl rfl rfl rfl (by decide) (by decide) ?_
      refine xw_dup (aX8_init 17 rfl) rfl ?_
      refine hw_callN (j2 := 58) (Φ2 := fun v s => v = none ∧ s = (86, 5861, hsF, fI [(23, 5, ((-1) : Int32)), (23, 4, ((-1) : Int32)), (21, 3, ((-1) : Int32)), (21, 2, ((-1) : Int32)), (21, 1, ((-1) : Int32)), (21, 0, ((-1) : Int32))], fZ, fR [(73, 10, some 84), (73, 9, some 83), (73, 8, some 82), (73, 7, some 81), (73, 6, some 80), (73, 5, some 79), (73, 4, some 78), (73, 3, some 77), (73, 2, some 76), (73, 1, some 75), (73, 0, some 74), (72, 0, some 73), (48, 3, some 71), (48, 2, some 70), (49, 1, none), (49, 0, some 23), (49, 4, some 52), (53, 15, some 69), (53, 14, some 68), (53, 13, some 67), (53, 12, some 66), (53, 11, some 65), (53, 10, some 64), (53, 9, some 63), (53, 8, some 62), (53, 7, some 61), (53, 6, some 60), (53, 5, some 59), (53, 4, some 58), (53, 3, some 57), (53, 2, some 56), (53, 1, some 55), (53, 0, some 54), (52, 0, some 53), (49, 3, some 51), (49, 2, some 50), (0, 0, some 23), (23, 3, some 43), (23, 2, some 26), (23, 1, some 25), (23, 0, some 24), (0, 11, some 22), (0, 8, some 21), (0, 7, some 20), (0, 6, some 19), (0, 5, some 1), (2, 15, some 18), (2, 14, some 17), (2, 13, some 16), (2, 12, some 15), (2, 11, some 14), (2, 10, some 13), (2, 9, some 12), (2, 8, some 11), (2, 7, some 10), (2, 6, some 9), (2, 5, some 8), (2, 4, some 7), (2, 3, some 6), (2, 2, some 5), (2, 1, some 4), (2, 0, some 3), (1, 0, some 2)])) (Bs := []) (rest := [.ref (base + 85), .int (11 : Int32), .ref (base + 73)]) (aX8_init 18 rfl) wc_RX8_17 (by decide) rfl wi_yX5_init rfl rfl rfl (Nat.le_of_ble_eq_true rfl) (Nat.le_of_ble_eq_true rfl) ?_ (fun v s hv => ?_)
      · refine hw_aloadn (aX5_init 0 rfl) rfl ?_
        refine hw_obj (aX5_init 1 rfl) (tin_1 (i := 42) rfl rfl) (tin_1 (i := 28) rfl rfl) (tin_1 (i := 29) rfl rfl) (Nat.le_of_ble_eq_true rfl) ?_
        refine xw_vret (aX5_init 2 rfl) rfl ?_
        exact ⟨rfl, rfl⟩
      obtain ⟨rfl, rfl⟩ := hv
      show hw sk base _ _ _ _ _ [.ref (base + 85), .int (11 : Int32), .ref (base + 73)] _ _
      refine hv_aast (k := 3) (i2 := 11) (aX8_init 19 rfl) (by decide : 73 < 86) (rfl : hsF 73 = (103, 16)) rfl (by decide) (by decide : 85 < 86) (rfl : hsF 85 = (5, 0)) rfl (h_in (by decide : (11 : Int32).toInt = 11) (by decide) (by decide)) (by decide) (fun F140 u139 => ?_)
      rw [fR_up] at u139; subst u139
      refine xw_iinc (L2 := [(1, .int (12 : Int32)), (0, .ref (base + 72))]) (aX8_init 20 rfl) rfl (by decide) (by rw [show ((11 : Int32) + Int32.ofInt (1)) = (12 : Int32) from by decide]; rfl) ?_
      refine xw_goto (tgt := 15) (aX8_init 21 rfl) (by decide) ?_
      refine xw_iloadn (aX8_init 8 rfl) rfl ?_
      refine hw_aloadn (aX8_init 9 rfl) rfl ?_
      refine hw_get (v := .ref (base + 73)) (aX8_init 10 rfl) wf_RX8_13 (by decide : 72 < 86) (rfl : hsF 72 = (8, 0)) (by decide) rfl ?_
      refine hw_alen (k := 3) (z := 16) (v := (16 : Int32)) (aX8_init 11 rfl) (by decide : 73 < 86) (rfl : hsF 73 = (103, 16)) (by decide) (by decide) ?_
      refine hw_icge (tgt := 43) (aX8_init 12 rfl) (by decide) (by decide : (12 : Int32).toInt = 12) (by decide : (16 : Int32).toInt = 16) (fun cd => ?_) (fun cd => ?_)
      · exfalso; omega
      refine hw_aloadn (aX8_init 13 rfl) rfl ?_
      refine hw_get (v := .ref (base + 73)) (aX8_init 14 rfl) wf_RX8_13 (by decide : 72 < 86) (rfl : hsF 72 = (8, 0)) (by decide) rfl ?_
      refine xw_iloadn (aX8_init 15 rfl) rfl ?_
      refine cw_new (t := 5) (n2 := 87) (sl2 := 5867) (aX8_init 16 rfl) rfl (tin_1 (i := 36) rfl rfl) (tin_1 (i := 3) rfl rfl) rfl rfl rfl rfl rfl (by decide) (by decide) ?_
      refine xw_dup (aX8_init 17 rfl) rfl ?_
      refine hw_callN (j2 := 58) (Φ2 := fun v s => v = none ∧ s = (87, 5867, hsF, fI [(23, 5, ((-1) : Int32)), (23, 4, ((-1) : Int32)), (21, 3, ((-1) : Int32)), (21, 2, ((-1) : Int32)), (21, 1, ((-1) : Int32)), (21, 0, ((-1) : Int32))], fZ, fR [(73, 11, some 85), (73, 10, some 84), (73, 9, some 83), (73, 8, some 82), (73, 7, some 81), (73, 6, some 80), (73, 5, some 79), (73, 4, some 78), (73, 3, some 77), (73, 2, some 76), (73, 1, some 75), (73, 0, some 74), (72, 0, some 73), (48, 3, some 71), (48, 2, some 70), (49, 1, none), (49, 0, some 23), (49, 4, some 52), (53, 15, some 69), (53, 14, some 68), (53, 13, some 67), (53, 12, some 66), (53, 11, some 65), (53, 10, some 64), (53, 9, some 63), (53, 8, some 62), (53, 7, some 61), (53, 6, some 60), (53, 5, some 59), (53, 4, some 58), (53, 3, some 57), (53, 2, some 56), (53, 1, some 55), (53, 0, some 54), (52, 0, some 53), (49, 3, some 51), (49, 2, some 50), (0, 0, some 23), (23, 3, some 43), (23, 2, some 26), (23, 1, some 25), (23, 0, some 24), (0, 11, some 22), (0, 8, some 21), (0, 7, some 20), (0, 6, some 19), (0, 5, some 1), (2, 15, some 18), (2, 14, some 17), (2, 13, some 16), (2, 12, some 15), (2, 11, some 14), (2, 10, some 13), (2, 9, some 12), (2, 8, some 11), (2, 7, some 10), (2, 6, some 9), (2, 5, some 8), (2, 4, some 7), (2, 3, some 6), (2, 2, some 5), (2, 1, some 4), (2, 0, some 3), (1, 0, some 2)])) (Bs := []) (rest := [.ref (base + 86), .int (12 : Int32), .ref (base + 73)]) (aX8_init 18 rfl) wc_RX8_17 (by decide) rfl wi_yX5_init rfl rfl rfl (Nat.le_of_ble_eq_true rfl) (Nat.le_of_ble_eq_true rfl) ?_ (fun v s hv => ?_)
      · refine hw_aloadn (aX5_init 0 rfl) rfl ?_
        refine hw_obj (aX5_init 1 rfl) (tin_1 (i := 42) rfl rfl) (tin_1 (i := 28) rfl rfl) (tin_1 (i := 29) rfl rfl) (Nat.le_of_ble_eq_true rfl) ?_
        refine xw_vret (aX5_init 2 rfl) rfl ?_
        exact ⟨rfl, rfl⟩
      obtain ⟨rfl, rfl⟩ := hv
      show hw sk base _ _ _ _ _ [.ref (base + 86), .int (12 : Int32), .ref (base + 73)] _ _
      refine hv_aast (k := 3) (i2 := 12) (aX8_init 19 rfl) (by decide : 73 < 87) (rfl : hsF 73 = (103, 16)) rfl (by decide) (by decide : 86 < 87) (rfl : hsF 86 = (5, 0)) rfl (h_in (by decide : (12 : Int32).toInt = 12) (by decide) (by decide)) (by decide) (fun F142 u141 => ?_)
      rw [fR_up] at u141; subst u141
      refine xw_iinc (L2 := [(1, .int (13 : Int32)), (0, .ref (base + 72))]) (aX8_init 20 rfl) rfl (by decide) (by rw [show ((12 : Int32) + Int32.ofInt (1)) = (13 : Int32) from by decide]; rfl) ?_
      refine xw_goto (tgt := 15) (aX8_init 21 rfl) (by decide) ?_
      refine xw_iloadn (aX8_init 8 rfl) rfl ?_
      refine hw_aloadn (aX8_init 9 rfl) rfl ?_
      refine hw_get (v := .ref (base + 73)) (aX8_init 10 rfl) wf_RX8_13 (by decide : 72 < 87) (rfl : hsF 72 = (8, 0)) (by decide) rfl ?_
      refine hw_alen (k := 3) (z := 16) (v := (16 : Int32)) (aX8_init 11 rfl) (by decide : 73 < 87) (rfl : hsF 73 = (103, 16)) (by decide) (by decide) ?_
      refine hw_icge (tgt := 43) (aX8_init 12 rfl) (by decide) (by decide : (13 : Int32).toInt = 13) (by decide : (16 : Int32).toInt = 16) (fun cd => ?_) (fun cd => ?_)
      · exfalso; omega
      refine hw_aloadn (aX8_init 13 rfl) rfl ?_
      refine hw_get (v := .ref (base + 73)) (aX8_init 14 rfl) wf_RX8_13 (by decide : 72 < 87) (rfl : hsF 72 = (8, 0)) (by decide) rfl ?_
      refine xw_iloadn (aX8_init 15 rfl) rfl ?_
      refine cw_new (t := 5) (n2 := 88) (sl2 := 5873) (aX8_init 16 rfl) rfl (tin_1 (i := 36) rfl rfl) (tin_1 (i := 3) rfl rfl) rfl rfl rfl rfl rfl (by decide) (by decide) ?_
      refine xw_dup (aX8_init 17 rfl) rfl ?_
      refine hw_callN (j2 := 58) (Φ2 := fun v s => v = none ∧ s = (88, 5873, hsF, fI [(23, 5, ((-1) : Int32)), (23, 4, ((-1) : Int32)), (21, 3, ((-1) : Int32)), (21, 2, ((-1) : Int32)), (21, 1, ((-1) : Int32)), (21, 0, ((-1) : Int32))], fZ, fR [(73, 12, some 86), (73, 11, some 85), (73, 10, some 84), (73, 9, some 83), (73, 8, some 82), (73, 7, some 81), (73, 6, some 80), (73, 5, some 79), (73, 4, some 78), (73, 3, some 77), (73, 2, some 76), (73, 1, some 75), (73, 0, some 74), (72, 0, some 73), (48, 3, some 71), (48, 2, some 70), (49, 1, none), (49, 0, some 23), (49, 4, some 52), (53, 15, some 69), (53, 14, some 68), (53, 13, some 67), (53, 12, some 66), (53, 11, some 65), (53, 10, some 64), (53, 9, some 63), (53, 8, some 62), (53, 7, some 61), (53, 6, some 60), (53, 5, some 59), (53, 4, some 58), (53, 3, some 57), (53, 2, some 56), (53, 1, some 55), (53, 0, some 54), (52, 0, some 53), (49, 3, some 51), (49, 2, some 50), (0, 0, some 23), (23, 3, some 43), (23, 2, some 26), (23, 1, some 25), (23, 0, some 24), (0, 11, some 22), (0, 8, some 21), (0, 7, some 20), (0, 6, some 19), (0, 5, some 1), (2, 15, some 18), (2, 14, some 17), (2, 13, some 16), (2, 12, some 15), (2, 11, some 14), (2, 10, some 13), (2, 9, some 12), (2, 8, some 11), (2, 7, some 10), (2, 6, some 9), (2, 5, some 8), (2, 4, some 7), (2, 3, some 6), (2, 2, some 5), (2, 1, some 4), (2, 0, some 3), (1, 0, some 2)])) (Bs := []) (rest := [.ref (base + 87), .int (13 : Int32), .ref (base + 73)]) (aX8_init 18 rfl) wc_RX8_17 (by decide) rfl wi_yX5_init rfl rfl rfl (Nat.le_of_ble_eq_true rfl) (Nat.le_of_ble_eq_true rfl) ?_ (fun v s hv => ?_)
      · refine hw_aloadn (aX5_init 0 rfl) rfl ?_
        refine hw_obj (aX5_init 1 rfl) (tin_1 (i := 42) rfl rfl) (tin_1 (i := 28) rfl rfl) (tin_1 (i := 29) rfl rfl) (Nat.le_of_ble_eq_true rfl) ?_
        refine xw_vret (aX5_init 2 rfl) rfl ?_
        exact ⟨rfl, rfl⟩
      obtain ⟨rfl, rfl⟩ := hv
      show hw sk base _ _ _ _ _ [.ref (base + 87), .int (13 : Int32), .ref (base + 73)] _ _
      refine hv_aast (k := 3) (i2 := 13) (aX8_init 19 rfl) (by decide : 73 < 88) (rfl : hsF 73 = (103, 16)) rfl (by decide) (by decide : 87 < 88) (rfl : hsF 87 = (5, 0)) rfl (h_in (by decide : (13 : Int32).toInt = 13) (by decide) (by decide)) (by decide) (fun F144 u143 => ?_)
      rw [fR_up] at u143; subst u143
      refine xw_iinc (L2 := [(1, .int (14 : Int32)), (0, .ref (base + 72))]) (aX8_init 20 rfl) rfl (by decide) (by rw [show ((13 : Int32) + Int32.ofInt (1)) = (14 : Int32) from by decide]; rfl) ?_
      refine xw_goto (tgt := 15) (aX8_init 21 rfl) (by decide) ?_
      refine xw_iloadn (aX8_init 8 rfl) rfl ?_
      refine hw_aloadn (aX8_init 9 rfl) rfl ?_
      refine hw_get (v := .ref (base + 73)) (aX8_init 10 rfl) wf_RX8_13 (by decide : 72 < 88) (rfl : hsF 72 = (8, 0)) (by decide) rfl ?_
      refine hw_alen (k := 3) (z := 16) (v := (16 : Int32)) (aX8_init 11 rfl) (by decide : 73 < 88) (rfl : hsF 73 = (103, 16)) (by decide) (by decide) ?_
      refine hw_icge (tgt := 43) (aX8_init 12 rfl) (by decide) (by decide : (14 : Int32).toInt = 14) (by decide : (16 : Int32).toInt = 16) (fun cd => ?_) (fun cd => ?_)
      · exfalso; omega
      refine hw_aloadn (aX8_init 13 rfl) rfl ?_
      refine hw_get (v := .ref (base + 73)) (aX8_init 14 rfl) wf_RX8_13 (by decide : 72 < 88) (rfl : hsF 72 = (8, 0)) (by decide) rfl ?_
      refine xw_iloadn (aX8_init 15 rfl) rfl ?_
      refine cw_new (t := 5) (n2 := 89) (sl2 := 5879) (aX8_init 16 rfl) rfl (tin_1 (i := 36) rfl rfl) (tin_1 (i := 3) rfl rfl) rfl rfl rfl rfl rfl (by decide) (by decide) ?_
      refine xw_dup (aX8_init 17 rfl) rfl ?_
      refine hw_callN (j2 := 58) (Φ2 := fun v s => v = none ∧ s = (89, 5879, hsF, fI [(23, 5, ((-1) : Int32)), (23, 4, ((-1) : Int32)), (21, 3, ((-1) : Int32)), (21, 2, ((-1) : Int32)), (21, 1, ((-1) : Int32)), (21, 0, ((-1) : Int32))], fZ, fR [(73, 13, some 87), (73, 12, some 86), (73, 11, some 85), (73, 10, some 84), (73, 9, some 83), (73, 8, some 82), (73, 7, some 81), (73, 6, some 80), (73, 5, some 79), (73, 4, some 78), (73, 3, some 77), (73, 2, some 76), (73, 1, some 75), (73, 0, some 74), (72, 0, some 73), (48, 3, some 71), (48, 2, some 70), (49, 1, none), (49, 0, some 23), (49, 4, some 52), (53, 15, some 69), (53, 14, some 68), (53, 13, some 67), (53, 12, some 66), (53, 11, some 65), (53, 10, some 64), (53, 9, some 63), (53, 8, some 62), (53, 7, some 61), (53, 6, some 60), (53, 5, some 59), (53, 4, some 58), (53, 3, some 57), (53, 2, some 56), (53, 1, some 55), (53, 0, some 54), (52, 0, some 53), (49, 3, some 51), (49, 2, some 50), (0, 0, some 23), (23, 3, some 43), (23, 2, some 26), (23, 1, some 25), (23, 0, some 24), (0, 11, some 22), (0, 8, some 21), (0, 7, some 20), (0, 6, some 19), (0, 5, some 1), (2, 15, some 18), (2, 14, some 17), (2, 13, some 16), (2, 12, some 15), (2, 11, some 14), (2, 10, some 13), (2, 9, some 12), (2, 8, some 11), (2, 7, some 10), (2, 6, some 9), (2, 5, some 8), (2, 4, some 7), (2, 3, some 6), (2, 2, some 5), (2, 1, some 4), (2, 0, some 3), (1, 0, some 2)])) (Bs := []) (rest := [.ref (base + 88), .int (14 : Int32), .ref (base + 73)]) (aX8_init 18 rfl) wc_RX8_17 (by decide) rfl wi_yX5_init rfl rfl rfl (Nat.le_of_ble_eq_true rfl) (Nat.le_of_ble_eq_true rfl) ?_ (fun v s hv => ?_)
      · refine hw_aloadn (aX5_init 0 rfl) rfl ?_
        refine hw_obj (aX5_init 1 rfl) (tin_1 (i := 42) rfl rfl) (tin_1 (i := 28) rfl rfl) (tin_1 (i := 29) rfl rfl) (Nat.le_of_ble_eq_true rfl) ?_
        refine xw_vret (aX5_init 2 rfl) rfl ?_
        exact ⟨rfl, rfl⟩
      obtain ⟨rfl, rfl⟩ := hv
      show hw sk base _ _ _ _ _ [.ref (base + 88), .int (14 : Int32), .ref (base + 73)] _ _
      refine hv_aast (k := 3) (i2 := 14) (aX8_init 19 rfl) (by decide : 73 < 89) (rfl : hsF 73 = (103, 16)) rfl (by decide) (by decide : 88 < 89) (rfl : hsF 88 = (5, 0)) rfl (h_in (by decide : (14 : Int32).toInt = 14) (by decide) (by decide)) (by decide) (fun F146 u145 => ?_)
      rw [fR_up] at u145; subst u145
      refine xw_iinc (L2 := [(1, .int (15 : Int32)), (0, .ref (base + 72))]) (aX8_init 20 rfl) rfl (by decide) (by rw [show ((14 : Int32) + Int32.ofInt (1)) = (15 : Int32) from by decide]; rfl) ?_
      refine xw_goto (tgt := 15) (aX8_init 21 rfl) (by decide) ?_
      refine xw_iloadn (aX8_init 8 rfl) rfl ?_
      refine hw_aloadn (aX8_init 9 rfl) rfl ?_
      refine hw_get (v := .ref (base + 73)) (aX8_init 10 rfl) wf_RX8_13 (by decide : 72 < 89) (rfl : hsF 72 = (8, 0)) (by decide) rfl ?_
      refine hw_alen (k := 3) (z := 16) (v := (16 : Int32)) (aX8_init 11 rfl) (by decide : 73 < 89) (rfl : hsF 73 = (103, 16)) (by decide) (by decide) ?_
      refine hw_icge (tgt := 43) (aX8_init 12 rfl) (by decide) (by decide : (15 : Int32).toInt = 15) (by decide : (16 : Int32).toInt = 16) (fun cd => ?_) (fun cd => ?_)
      · exfalso; omega
      refine hw_aloadn (aX8_init 13 rfl) rfl ?_
      refine hw_get (v := .ref (base + 73)) (aX8_init 14 rfl) wf_RX8_13 (by decide : 72 < 89) (rfl : hsF 72 = (8, 0)) (by decide) rfl ?_
      refine xw_iloadn (aX8_init 15 rfl) rfl ?_
      refine cw_new (t := 5) (n2 := 90) (sl2 := 5885) (aX8_init 16 rfl) rfl (tin_1 (i := 36) rfl rfl) (tin_1 (i := 3) rfl rfl) rfl rfl rfl rfl rfl (by decide) (by decide) ?_
      refine xw_dup (aX8_init 17 rfl) rfl ?_
      refine hw_callN (j2 := 58) (Φ2 := fun v s => v = none ∧ s = (90, 5885, hsF, fI [(23, 5, ((-1) : Int32)), (23, 4, ((-1) : Int32)), (21, 3, ((-1) : Int32)), (21, 2, ((-1) : Int32)), (21, 1, ((-1) : Int32)), (21, 0, ((-1) : Int32))], fZ, fR [(73, 14, some 88), (73, 13, some 87), (73, 12, some 86), (73, 11, some 85), (73, 10, some 84), (73, 9, some 83), (73, 8, some 82), (73, 7, some 81), (73, 6, some 80), (73, 5, some 79), (73, 4, some 78), (73, 3, some 77), (73, 2, some 76), (73, 1, some 75), (73, 0, some 74), (72, 0, some 73), (48, 3, some 71), (48, 2, some 70), (49, 1, none), (49, 0, some 23), (49, 4, some 52), (53, 15, some 69), (53, 14, some 68), (53, 13, some 67), (53, 12, some 66), (53, 11, some 65), (53, 10, some 64), (53, 9, some 63), (53, 8, some 62), (53, 7, some 61), (53, 6, some 60), (53, 5, some 59), (53, 4, some 58), (53, 3, some 57), (53, 2, some 56), (53, 1, some 55), (53, 0, some 54), (52, 0, some 53), (49, 3, some 51), (49, 2, some 50), (0, 0, some 23), (23, 3, some 43), (23, 2, some 26), (23, 1, some 25), (23, 0, some 24), (0, 11, some 22), (0, 8, some 21), (0, 7, some 20), (0, 6, some 19), (0, 5, some 1), (2, 15, some 18), (2, 14, some 17), (2, 13, some 16), (2, 12, some 15), (2, 11, some 14), (2, 10, some 13), (2, 9, some 12), (2, 8, some 11), (2, 7, some 10), (2, 6, some 9), (2, 5, some 8), (2, 4, some 7), (2, 3, some 6), (2, 2, some 5), (2, 1, some 4), (2, 0, some 3), (1, 0, some 2)])) (Bs := []) (rest := [.ref (base + 89), .int (15 : Int32), .ref (base + 73)]) (aX8_init 18 rfl) wc_RX8_17 (by decide) rfl wi_yX5_init rfl rfl rfl (Nat.le_of_ble_eq_true rfl) (Nat.le_of_ble_eq_true rfl) ?_ (fun v s hv => ?_)
      · refine hw_aloadn (aX5_init 0 rfl) rfl ?_
        refine hw_obj (aX5_init 1 rfl) (tin_1 (i := 42) rfl rfl) (tin_1 (i := 28) rfl rfl) (tin_1 (i := 29) rfl rfl) (Nat.le_of_ble_eq_true rfl) ?_
        refine xw_vret (aX5_init 2 rfl) rfl ?_
        exact ⟨rfl, rfl⟩
      obtain ⟨rfl, rfl⟩ := hv
      show hw sk base _ _ _ _ _ [.ref (base + 89), .int (15 : Int32), .ref (base + 73)] _ _
      refine hv_aast (k := 3) (i2 := 15) (aX8_init 19 rfl) (by decide : 73 < 90) (rfl : hsF 73 = (103, 16)) rfl (by decide) (by decide : 89 < 90) (rfl : hsF 89 = (5, 0)) rfl (h_in (by decide : (15 : Int32).toInt = 15) (by decide) (by decide)) (by decide) (fun F148 u147 => ?_)
      rw [fR_up] at u147; subst u147
      refine xw_iinc (L2 := [(1, .int (16 : Int32)), (0, .ref (base + 72))]) (aX8_init 20 rfl) rfl (by decide) (by rw [show ((15 : Int32) + Int32.ofInt (1)) = (16 : Int32) from by decide]; rfl) ?_
      refine xw_goto (tgt := 15) (aX8_init 21 rfl) (by decide) ?_
      refine xw_iloadn (aX8_init 8 rfl) rfl ?_
      refine hw_aloadn (aX8_init 9 rfl) rfl ?_
      refine hw_get (v := .ref (base + 73)) (aX8_init 10 rfl) wf_RX8_13 (by decide : 72 < 90) (rfl : hsF 72 = (8, 0)) (by decide) rfl ?_
      refine hw_alen (k := 3) (z := 16) (v := (16 : Int32)) (aX8_init 11 rfl) (by decide : 73 < 90) (rfl : hsF 73 = (103, 16)) (by decide) (by decide) ?_
      refine hw_icge (tgt := 43) (aX8_init 12 rfl) (by decide) (by decide : (16 : Int32).toInt = 16) (by decide : (16 : Int32).toInt = 16) (fun cd => ?_) (fun cd => ?_)
      rotate_left; { exfalso; omega }
      refine xw_vret (aX8_init 22 rfl) rfl ?_
      exact ⟨rfl, rfl⟩
    obtain ⟨rfl, rfl⟩ := hv
    show hw sk base _ _ _ _ _ [.ref (base + 72), .ref (base + 48)] _ _
    refine hv_putr (r := some 72) (aX9_init 15 rfl) wf_RX9_25 (by decide : 48 < 90) (rfl : hsF 48 = (9, 0)) (by decide) (by first | exact Or.inl ⟨_, rfl⟩ | exact Or.inr ⟨_, rfl⟩) (Or.inr ⟨rfl, rfl, rfl, wf_RX9_25F⟩) (fun F150 u149 => ?_)
    rw [fR_up] at u149; subst u149
    refine hw_aloadn (aX9_init 16 rfl) rfl ?_
    refine hw_aloadn (aX9_init 17 rfl) rfl ?_
    refine hv_putr (r := some 23) (aX9_init 18 rfl) wf_RX9_29 (by decide : 48 < 90) (rfl : hsF 48 = (9, 0)) (by decide) (by first | exact Or.inl ⟨_, rfl⟩ | exact Or.inr ⟨_, rfl⟩) (Or.inr ⟨rfl, rfl, rfl, wf_RX9_29F⟩) (fun F152 u151 => ?_)
    rw [fR_up] at u151; subst u151
    refine hw_aloadn (aX9_init 19 rfl) rfl ?_
    refine hw_aloadn (aX9_init 20 rfl) rfl ?_
    refine hv_putr (r := some 49) (aX9_init 21 rfl) wf_RX9_33 (by decide : 48 < 90) (rfl : hsF 48 = (9, 0)) (by decide) (by first | exact Or.inl ⟨_, rfl⟩ | exact Or.inr ⟨_, rfl⟩) (Or.inr ⟨rfl, rfl, rfl, wf_RX9_33F⟩) (fun F154 u153 => ?_)
    rw [fR_up] at u153; subst u153
    refine xw_vret (aX9_init 22 rfl) rfl ?_
    exact ⟨rfl, rfl⟩
  obtain ⟨rfl, rfl⟩ := hv
  show hw sk base _ _ _ _ _ [.ref (base + 48), .ref (base + 0)] _ _
  refine hv_putr (r := some 48) (aX11_init 56 rfl) wf_RX11_44 (by decide : 0 < 90) (rfl : hsF 0 = (11, 0)) (by decide) (by first | exact Or.inl ⟨_, rfl⟩ | exact Or.inr ⟨_, rfl⟩) (Or.inr ⟨rfl, rfl, rfl, wf_RX11_44F⟩) (fun F156 u155 => ?_)
  rw [fR_up] at u155; subst u155
  refine hw_aloadn (aX11_init 57 rfl) rfl ?_
  refine cw_new (t := 2) (n2 := 91) (sl2 := 5890) (aX11_init 58 rfl) rfl (tin_1 (i := 215) rfl rfl) (tin_1 (i := 6) rfl rfl) rfl rfl rfl rfl rfl (by decide) (by decide) ?_
  refine xw_dup (aX11_init 59 rfl) rfl ?_
  refine hw_aloadn (aX11_init 60 rfl) rfl ?_
  refine hw_get (v := .ref (base + 23)) (aX11_init 61 rfl) wf_RX11_35 (by decide : 0 < 91) (rfl : hsF 0 = (11, 0)) (by decide) rfl ?_
  refine hw_aloadn (aX11_init 62 rfl) rfl ?_
  refine hw_get (v := .ref (base + 48)) (aX11_init 63 rfl) wf_RX11_44 (by decide : 0 < 91) (rfl : hsF 0 = (11, 0)) (by decide) rfl ?_
  refine hw_callN (j2 := 26) (Φ2 := fun v s => v = none ∧ s = (110, 6011, hsF, fI [(23, 5, ((-1) : Int32)), (23, 4, ((-1) : Int32)), (21, 3, ((-1) : Int32)), (21, 2, ((-1) : Int32)), (21, 1, ((-1) : Int32)), (21, 0, ((-1) : Int32))], fZ, fR [(90, 1, some 48), (90, 0, some 23), (90, 3, some 109), (90, 2, some 91), (92, 15, some 108), (92, 14, some 107), (92, 13, some 106), (92, 12, some 105), (92, 11, some 104), (92, 10, some 103), (92, 9, some 102), (92, 8, some 101), (92, 7, some 100), (92, 6, some 99), (92, 5, some 98), (92, 4, some 97), (92, 3, some 96), (92, 2, some 95), (92, 1, some 94), (92, 0, some 93), (91, 0, some 92), (0, 1, some 48), (48, 1, some 49), (48, 0, some 23), (48, 4, some 72), (73, 15, some 89), (73, 14, some 88), (73, 13, some 87), (73, 12, some 86), (73, 11, some 85), (73, 10, some 84), (73, 9, some 83), (73, 8, some 82), (73, 7, some 81), (73, 6, some 80), (73, 5, some 79), (73, 4, some 78), (73, 3, some 77), (73, 2, some 76), (73, 1, some 75), (73, 0, some 74), (72, 0, some 73), (48, 3, some 71), (48, 2, some 70), (49, 1, none), (49, 0, some 23), (49, 4, some 52), (53, 15, some 69), (53, 14, some 68), (53, 13, some 67), (53, 12, some 66), (53, 11, some 65), (53, 10, some 64), (53, 9, some 63), (53, 8, some 62), (53, 7, some 61), (53, 6, some 60), (53, 5, some 59), (53, 4, some 58), (53, 3, some 57), (53, 2, some 56), (53, 1, some 55), (53, 0, some 54), (52, 0, some 53), (49, 3, some 51), (49, 2, some 50), (0, 0, some 23), (23, 3, some 43), (23, 2, some 26), (23, 1, some 25), (23, 0, some 24), (0, 11, some 22), (0, 8, some 21), (0, 7, some 20), (0, 6, some 19), (0, 5, some 1), (2, 15, some 18), (2, 14, some 17), (2, 13, some 16), (2, 12, some 15), (2, 11, some 14), (2, 10, some 13), (2, 9, some 12), (2, 8, some 11), (2, 7, some 10), (2, 6, some 9), (2, 5, some 8), (2, 4, some 7), (2, 3, some 6), (2, 2, some 5), (2, 1, some 4), (2, 0, some 3), (1, 0, some 2)])) (Bs := [.ref (base + 23), .ref (base + 48)]) (rest := [.ref (base + 90), .ref (base + 0)]) (aX11_init 64 rfl) wc_RX11_50 (by decide) rfl wi_yX2_init rfl rfl rfl (Nat.le_of_ble_eq_true rfl) (Nat.le_of_ble_eq_true rfl) ?_ (fun v s hv => ?_)
  · refine hw_aloadn (aX2_init 0 rfl) rfl ?_
    refine hw_obj (aX2_init 1 rfl) (tin_1 (i := 220) rfl rfl) (tin_1 (i := 28) rfl rfl) (tin_1 (i := 29) rfl rfl) (Nat.le_of_ble_eq_true rfl) ?_
    refine hw_aloadn (aX2_init 2 rfl) rfl ?_
    refine cw_new (t := 8) (n2 := 92) (sl2 := 5893) (aX2_init 3 rfl) rfl (tin_1 (i := 221) rfl rfl) (tin_1 (i := 2) rfl rfl) rfl rfl rfl rfl rfl (by decide) (by decide) ?_
    refine xw_dup (aX2_init 4 rfl) rfl ?_
    refine hw_callN (j2 := 78) (Φ2 := fun v s => v = none ∧ s = (109, 6005, hsF, fI [(23, 5, ((-1) : Int32)), (23, 4, ((-1) : Int32)), (21, 3, ((-1) : Int32)), (21, 2, ((-1) : Int32)), (21, 1, ((-1) : Int32)), (21, 0, ((-1) : Int32))], fZ, fR [(92, 15, some 108), (92, 14, some 107), (92, 13, some 106), (92, 12, some 105), (92, 11, some 104), (92, 10, some 103), (92, 9, some 102), (92, 8, some 101), (92, 7, some 100), (92, 6, some 99), (92, 5, some 98), (92, 4, some 97), (92, 3, some 96), (92, 2, some 95), (92, 1, some 94), (92, 0, some 93), (91, 0, some 92), (0, 1, some 48), (48, 1, some 49), (48, 0, some 23), (48, 4, some 72), (73, 15, some 89), (73, 14, some 88), (73, 13, some 87), (73, 12, some 86), (73, 11, some 85), (73, 10, some 84), (73, 9, some 83), (73, 8, some 82), (73, 7, some 81), (73, 6, some 80), (73, 5, some 79), (73, 4, some 78), (73, 3, some 77), (73, 2, some 76), (73, 1, some 75), (73, 0, some 74), (72, 0, some 73), (48, 3, some 71), (48, 2, some 70), (49, 1, none), (49, 0, some 23), (49, 4, some 52), (53, 15, some 69), (53, 14, some 68), (53, 13, some 67), (53, 12, some 66), (53, 11, some 65), (53, 10, some 64), (53, 9, some 63), (53, 8, some 62), (53, 7, some 61), (53, 6, some 60), (53, 5, some 59), (53, 4, some 58), (53, 3, some 57), (53, 2, some 56), (53, 1, some 55), (53, 0, some 54), (52, 0, some 53), (49, 3, some 51), (49, 2, some 50), (0, 0, some 23), (23, 3, some 43), (23, 2, some 26), (23, 1, some 25), (23, 0, some 24), (0, 11, some 22), (0, 8, some 21), (0, 7, some 20), (0, 6, some 19), (0, 5, some 1), (2, 15, some 18), (2, 14, some 17), (2, 13, some 16), (2, 12, some 15), (2, 11, some 14), (2, 10, some 13), (2, 9, some 12), (2, 8, some 11), (2, 7, some 10), (2, 6, some 9), (2, 5, some 8), (2, 4, some 7), (2, 3, some 6), (2, 2, some 5), (2, 1, some 4), (2, 0, some 3), (1, 0, some 2)])) (Bs := []) (rest := [.ref (base + 91), .ref (base + 90)]) (aX2_init 5 rfl) wc_RX2_11 (by decide) rfl wi_yX8_init rfl rfl rfl (Nat.le_of_ble_eq_true rfl) (Nat.le_of_ble_eq_true rfl) ?_ (fun v s hv => ?_)
    · refine hw_aloadn (aX8_init 0 rfl) rfl ?_
      refine hw_obj (aX8_init 1 rfl) (tin_1 (i := 35) rfl rfl) (tin_1 (i := 28) rfl rfl) (tin_1 (i := 29) rfl rfl) (Nat.le_of_ble_eq_true rfl) ?_
      refine hw_aloadn (aX8_init 2 rfl) rfl ?_
      refine hw_bp (v := (16 : Int32)) (aX8_init 3 rfl) (by decide) ?_
      refine cw_newq (k := 3) (z := 16) (n2 := 93) (sl2 := 5909) (aX8_init 4 rfl) rfl (by decide) (tin_1 (i := 36) rfl rfl) (nin_1 (i := 37) rfl rfl) (by decide) (by decide) (by decide) rfl rfl rfl rfl rfl (by decide) (by decide) ?_
      refine hv_putr (r := some 92) (aX8_init 5 rfl) wf_RX8_13 (by decide : 91 < 93) (rfl : hsF 91 = (8, 0)) (by decide) (by first | exact Or.inl ⟨_, rfl⟩ | exact Or.inr ⟨_, rfl⟩) (Or.inr ⟨rfl, rfl, rfl, wf_RX8_13F⟩) (fun F158 u157 => ?_)
      rw [fR_up] at u157; subst u157
      refine hw_ic (v := (0 : Int32)) (aX8_init 6 rfl) (by decide) ?_
      refine xw_istoren (L2 := [(1, .int (0 : Int32)), (0, .ref (base + 91))]) (aX8_init 7 rfl) (by decide) rfl ?_
      refine xw_iloadn (aX8_init 8 rfl) rfl ?_
      refine hw_aloadn (aX8_init 9 rfl) rfl ?_
      refine hw_get (v := .ref (base + 92)) (aX8_init 10 rfl) wf_RX8_13 (by decide : 91 < 93) (rfl : hsF 91 = (8, 0)) (by decide) rfl ?_
      refine hw_alen (k := 3) (z := 16) (v := (16 : Int32)) (aX8_init 11 rfl) (by decide : 92 < 93) (rfl : hsF 92 = (103, 16)) (by decide) (by decide) ?_
      refine hw_icge (tgt := 43) (aX8_init 12 rfl) (by decide) (by decide : (0 : Int32).toInt = 0) (by decide : (16 : Int32).toInt = 16) (fun cd => ?_) (fun cd => ?_)
      · exfalso; omega
      refine hw_aloadn (aX8_init 13 rfl) rfl ?_
      refine hw_get (v := .ref (base + 92)) (aX8_init 14 rfl) wf_RX8_13 (by decide : 91 < 93) (rfl : hsF 91 = (8, 0)) (by decide) rfl ?_
      refine xw_iloadn (aX8_init 15 rfl) rfl ?_
      refine cw_new (t := 5) (n2 := 94) (sl2 := 5915) (aX8_init 16 rfl) rfl (tin_1 (i := 36) rfl rfl) (tin_1 (i := 3) rfl rfl) rfl rfl rfl rfl rfl (by decide) (by decide) ?_
      refine xw_dup (aX8_init 17 rfl) rfl ?_
      refine hw_callN (j2 := 58) (Φ2 := fun v s => v = none ∧ s = (94, 5915, hsF, fI [(23, 5, ((-1) : Int32)), (23, 4, ((-1) : Int32)), (21, 3, ((-1) : Int32)), (21, 2, ((-1) : Int32)), (21, 1, ((-1) : Int32)), (21, 0, ((-1) : Int32))], fZ, fR [(91, 0, some 92), (0, 1, some 48), (48, 1, some 49), (48, 0, some 23), (48, 4, some 72), (73, 15, some 89), (73, 14, some 88), (73, 13, some 87), (73, 12, some 86), (73, 11, some 85), (73, 10, some 84), (73, 9, some 83), (73, 8, some 82), (73, 7, some 81), (73, 6, some 80), (73, 5, some 79), (73, 4, some 78), (73, 3, some 77), (73, 2, some 76), (73, 1, some 75), (73, 0, some 74), (72, 0, some 73), (48, 3, some 71), (48, 2, some 70), (49, 1, none), (49, 0, some 23), (49, 4, some 52), (53, 15, some 69), (53, 14, some 68), (53, 13, some 67), (53, 12, some 66), (53, 11, some 65), (53, 10, some 64), (53, 9, some 63), (53, 8, some 62), (53, 7, some 61), (53, 6, some 60), (53, 5, some 59), (53, 4, some 58), (53, 3, some 57), (53, 2, some 56), (53, 1, some 55), (53, 0, some 54), (52, 0, some 53), (49, 3, some 51), (49, 2, some 50), (0, 0, some 23), (23, 3, some 43), (23, 2, some 26), (23, 1, some 25), (23, 0, some 24), (0, 11, some 22), (0, 8, some 21), (0, 7, some 20), (0, 6, some 19), (0, 5, some 1), (2, 15, some 18), (2, 14, some 17), (2, 13, some 16), (2, 12, some 15), (2, 11, some 14), (2, 10, some 13), (2, 9, some 12), (2, 8, some 11), (2, 7, some 10), (2, 6, some 9), (2, 5, some 8), (2, 4, some 7), (2, 3, some 6), (2, 2, some 5), (2, 1, some 4), (2, 0, some 3), (1, 0, some 2)])) (Bs := []) (rest := [.ref (base + 93), .int (0 : Int32), .ref (base + 92)]) (aX8_init 18 rfl) wc_RX8_17 (by decide) rfl wi_yX5_init rfl rfl rfl (Nat.le_of_ble_eq_true rfl) (Nat.le_of_ble_eq_true rfl) ?_ (fun v s hv => ?_)
      · refine hw_aloadn (aX5_init 0 rfl) rfl ?_
        refine hw_obj (aX5_init 1 rfl) (tin_1 (i := 42) rfl rfl) (tin_1 (i := 28) rfl rfl) (tin_1 (i := 29) rfl rfl) (Nat.le_of_ble_eq_true rfl) ?_
        refine xw_vret (aX5_init 2 rfl) rfl ?_
        exact ⟨rfl, rfl⟩
      obtain ⟨rfl, rfl⟩ := hv
      show hw sk base _ _ _ _ _ [.ref (base + 93), .int (0 : Int32), .ref (base + 92)] _ _
      refine hv_aast (k := 3) (i2 := 0) (aX8_init 19 rfl) (by decide : 92 < 94) (rfl : hsF 92 = (103, 16)) rfl (by decide) (by decide : 93 < 94) (rfl : hsF 93 = (5, 0)) rfl (h_in (by decide : (0 : Int32).toInt = 0) (by decide) (by decide)) (by decide) (fun F160 u159 => ?_)
      rw [fR_up] at u159; subst u159
      refine xw_iinc (L2 := [(1, .int (1 : Int32)), (0, .ref (base + 91))]) (aX8_init 20 rfl) rfl (by decide) (by rw [show ((0 : Int32) + Int32.ofInt (1)) = (1 : Int32) from by decide]; rfl) ?_
      refine xw_goto (tgt := 15) (aX8_init 21 rfl) (by decide) ?_
      refine xw_iloadn (aX8_init 8 rfl) rfl ?_
      refine hw_aloadn (aX8_init 9 rfl) rfl ?_
      refine hw_get (v := .ref (base + 92)) (aX8_init 10 rfl) wf_RX8_13 (by decide : 91 < 94) (rfl : hsF 91 = (8, 0)) (by decide) rfl ?_
      refine hw_alen (k := 3) (z := 16) (v := (16 : Int32)) (aX8_init 11 rfl) (by decide : 92 < 94) (rfl : hsF 92 = (103, 16)) (by decide) (by decide) ?_
      refine hw_icge (tgt := 43) (aX8_init 12 rfl) (by decide) (by decide : (1 : Int32).toInt = 1) (by decide : (16 : Int32).toInt = 16) (fun cd => ?_) (fun cd => ?_)
      · exfalso; omega
      refine hw_aloadn (aX8_init 13 rfl) rfl ?_
      refine hw_get (v := .ref (base + 92)) (aX8_init 14 rfl) wf_RX8_13 (by decide : 91 < 94) (rfl : hsF 91 = (8, 0)) (by decide) rfl ?_
      refine xw_iloadn (aX8_init 15 rfl) rfl ?_
      refine cw_new (t := 5) (n2 := 95) (sl2 := 5921) (aX8_init 16 rfl) rfl (tin_1 (i := 36) rfl rfl) (tin_1 (i := 3) rfl rfl) rfl rfl rfl rfl rfl (by decide) (by decide) ?_
      refine xw_dup (aX8_init 17 rfl) rfl ?_
      refine hw_callN (j2 := 58) (Φ2 := fun v s => v = none ∧ s = (95, 5921, hsF, fI [(23, 5, ((-1) : Int32)), (23, 4, ((-1) : Int32)), (21, 3, ((-1) : Int32)), (21, 2, ((-1) : Int32)), (21, 1, ((-1) : Int32)), (21, 0, ((-1) : Int32))], fZ, fR [(92, 0, some 93), (91, 0, some 92), (0, 1, some 48), (48, 1, some 49), (48, 0, some 23), (48, 4, some 72), (73, 15, some 89), (73, 14, some 88), (73, 13, some 87), (73, 12, some 86), (73, 11, some 85), (73, 10, some 84), (73, 9, some 83), (73, 8, some 82), (73, 7, some 81), (73, 6, some 80), (73, 5, some 79), (73, 4, some 78), (73, 3, some 77), (73, 2, some 76), (73, 1, some 75), (73, 0, some 74), (72, 0, some 73), (48, 3, some 71), (48, 2, some 70), (49, 1, none), (49, 0, some 23), (49, 4, some 52), (53, 15, some 69), (53, 14, some 68), (53, 13, some 67), (53, 12, some 66), (53, 11, some 65), (53, 10, some 64), (53, 9, some 63), (53, 8, some 62), (53, 7, some 61), (53, 6, some 60), (53, 5, some 59), (53, 4, some 58), (53, 3, some 57), (53, 2, some 56), (53, 1, some 55), (53, 0, some 54), (52, 0, some 53), (49, 3, some 51), (49, 2, some 50), (0, 0, some 23), (23, 3, some 43), (23, 2, some 26), (23, 1, some 25), (23, 0, some 24), (0, 11, some 22), (0, 8, some 21), (0, 7, some 20), (0, 6, some 19), (0, 5, some 1), (2, 15, some 18), (2, 14, some 17), (2, 13, some 16), (2, 12, some 15), (2, 11, some 14), (2, 10, some 13), (2, 9, some 12), (2, 8, some 11), (2, 7, some 10), (2, 6, some 9), (2, 5, some 8), (2, 4, some 7), (2, 3, some 6), (2, 2, some 5), (2, 1, some 4), (2, 0, some 3), (1, 0, some 2)])) (Bs := []) (rest := [.ref (base + 94), .int (1 : Int32), .ref (base + 92)]) (aX8_init 18 rfl) wc_RX8_17 (by decide) rfl wi_yX5_init rfl rfl rfl (Nat.le_of_ble_eq_true rfl) (Nat.le_of_ble_eq_true rfl) ?_ (fun v s hv => ?_)
      · refine hw_aloadn (aX5_init 0 rfl) rfl ?_
        refine hw_obj (aX5_init 1 rfl) (tin_1 (i := 42) rfl rfl) (tin_1 (i := 28) rfl rfl) (tin_1 (i := 29) rfl rfl) (Nat.le_of_ble_eq_true rfl) ?_
        refine xw_vret (aX5_init 2 rfl) rfl ?_
        exact ⟨rfl, rfl⟩
      obtain ⟨rfl, rfl⟩ := hv
      show hw sk base _ _ _ _ _ [.ref (base + 94), .int (1 : Int32), .ref (base + 92)] _ _
      refine hv_aast (k := 3) (i2 := 1) (aX8_init 19 rfl) (by decide : 92 < 95) (rfl : hsF 92 = (103, 16)) rfl (by decide) (by decide : 94 < 95) (rfl : hsF 94 = (5, 0)) rfl (h_in (by decide : (1 : Int32).toInt = 1) (by decide) (by decide)) (by decide) (fun F162 u161 => ?_)
      rw [fR_up] at u161; subst u161
      refine xw_iinc (L2 := [(1, .int (2 : Int32)), (0, .ref (base + 91))]) (aX8_init 20 rfl) rfl (by decide) (by rw [show ((1 : Int32) + Int32.ofInt (1)) = (2 : Int32) from by decide]; rfl) ?_
      refine xw_goto (tgt := 15) (aX8_init 21 rfl) (by decide) ?_
      refine xw_iloadn (aX8_init 8 rfl) rfl ?_
      refine hw_aloadn (aX8_init 9 rfl) rfl ?_
      refine hw_get (v := .ref (base + 92)) (aX8_init 10 rfl) wf_RX8_13 (by decide : 91 < 95) (rfl : hsF 91 = (8, 0)) (by decide) rfl ?_
      refine hw_alen (k := 3) (z := 16) (v := (16 : Int32)) (aX8_init 11 rfl) (by decide : 92 < 95) (rfl : hsF 92 = (103, 16)) (by decide) (by decide) ?_
      refine hw_icge (tgt := 43) (aX8_init 12 rfl) (by decide) (by decide : (2 : Int32).toInt = 2) (by decide : (16 : Int32).toInt = 16) (fun cd => ?_) (fun cd => ?_)
      · exfalso; omega
      refine hw_aloadn (aX8_init 13 rfl) rfl ?_
      refine hw_get (v := .ref (base + 92)) (aX8_init 14 rfl) wf_RX8_13 (by decide : 91 < 95) (rfl : hsF 91 = (8, 0)) (by decide) rfl ?_
      refine xw_iloadn (aX8_init 15 rfl) rfl ?_
      refine cw_new (t := 5) (n2 := 96) (sl2 := 5927) (aX8_init 16 rfl) rfl (tin_1 (i := 36) rfl rfl) (tin_1 (i := 3) rfl rfl) rfl rfl rfl rfl rfl (by decide) (by decide) ?_
      refine xw_dup (aX8_init 17 rfl) rfl ?_
      refine hw_callN (j2 := 58) (Φ2 := fun v s => v = none ∧ s = (96, 5927, hsF, fI [(23, 5, ((-1) : Int32)), (23, 4, ((-1) : Int32)), (21, 3, ((-1) : Int32)), (21, 2, ((-1) : Int32)), (21, 1, ((-1) : Int32)), (21, 0, ((-1) : Int32))], fZ, fR [(92, 1, some 94), (92, 0, some 93), (91, 0, some 92), (0, 1, some 48), (48, 1, some 49), (48, 0, some 23), (48, 4, some 72), (73, 15, some 89), (73, 14, some 88), (73, 13, some 87), (73, 12, some 86), (73, 11, some 85), (73, 10, some 84), (73, 9, some 83), (73, 8, some 82), (73, 7, some 81), (73, 6, some 80), (73, 5, some 79), (73, 4, some 78), (73, 3, some 77), (73, 2, some 76), (73, 1, some 75), (73, 0, some 74), (72, 0, some 73), (48, 3, some 71), (48, 2, some 70), (49, 1, none), (49, 0, some 23), (49, 4, some 52), (53, 15, some 69), (53, 14, some 68), (53, 13, some 67), (53, 12, some 66), (53, 11, some 65), (53, 10, some 64), (53, 9, some 63), (53, 8, some 62), (53, 7, some 61), (53, 6, some 60), (53, 5, some 59), (53, 4, some 58), (53, 3, some 57), (53, 2, some 56), (53, 1, some 55), (53, 0, some 54), (52, 0, some 53), (49, 3, some 51), (49, 2, some 50), (0, 0, some 23), (23, 3, some 43), (23, 2, some 26), (23, 1, some 25), (23, 0, some 24), (0, 11, some 22), (0, 8, some 21), (0, 7, some 20), (0, 6, some 19), (0, 5, some 1), (2, 15, some 18), (2, 14, some 17), (2, 13, some 16), (2, 12, some 15), (2, 11, some 14), (2, 10, some 13), (2, 9, some 12), (2, 8, some 11), (2, 7, some 10), (2, 6, some 9), (2, 5, some 8), (2, 4, some 7), (2, 3, some 6), (2, 2, some 5), (2, 1, some 4), (2, 0, some 3), (1, 0, some 2)])) (Bs := []) (rest := [.ref (base + 95), .int (2 : Int32), .ref (base + 92)]) (aX8_init 18 rfl) wc_RX8_17 (by decide) rfl wi_yX5_init rfl rfl rfl (Nat.le_of_ble_eq_true rfl) (Nat.le_of_ble_eq_true rfl) ?_ (fun v s hv => ?_)
      · refine hw_aloadn (aX5_init 0 rfl) rfl ?_
        refine hw_obj (aX5_init 1 rfl) (tin_1 (i := 42) rfl rfl) (tin_1 (i := 28) rfl rfl) (tin_1 (i := 29) rfl rfl) (Nat.le_of_ble_eq_true rfl) ?_
        refine xw_vret (aX5_init 2 rfl) rfl ?_
        exact ⟨rfl, rfl⟩
      obtain ⟨rfl, rfl⟩ := hv
      show hw sk base _ _ _ _ _ [.ref (base + 95), .int (2 : Int32), .ref (base + 92)] _ _
      refine hv_aast (k := 3) (i2 := 2) (aX8_init 19 rfl) (by decide : 92 < 96) (rfl : hsF 92 = (103, 16)) rfl (by decide) (by decide : 95 < 96) (rfl : hsF 95 = (5, 0)) rfl (h_in (by decide : (2 : Int32).toInt = 2) (by decide) (by decide)) (by decide) (fun F164 u163 => ?_)
      rw [fR_up] at u163; subst u163
      refine xw_iinc (L2 := [(1, .int (3 : Int32)), (0, .ref (base + 91))]) (aX8_init 20 rfl) rfl (by decide) (by rw [show ((2 : Int32) + Int32.ofInt (1)) = (3 : Int32) from by decide]; rfl) ?_
      refine xw_goto (tgt := 15) (aX8_init 21 rfl) (by decide) ?_
      refine xw_iloadn (aX8_init 8 rfl) rfl ?_
      refine hw_aloadn (aX8_init 9 rfl) rfl ?_
      refine hw_get (v := .ref (base + 92)) (aX8_init 10 rfl) wf_RX8_13 (by decide : 91 < 96) (rfl : hsF 91 = (8, 0)) (by decide) rfl ?_
      refine hw_alen (k := 3) (z := 16) (v := (16 : Int32)) (aX8_init 11 rfl) (by decide : 92 < 96) (rfl : hsF 92 = (103, 16)) (by decide) (by decide) ?_
      refine hw_icge (tgt := 43) (aX8_init 12 rfl) (by decide) (by decide : (3 : Int32).toInt = 3) (by decide : (16 : Int32).toInt = 16) (fun cd => ?_) (fun cd => ?_)
      · exfalso; omega
      refine hw_aloadn (aX8_init 13 rfl) rfl ?_
      refine hw_get (v := .ref (base + 92)) (aX8_init 14 rfl) wf_RX8_13 (by decide : 91 < 96) (rfl : hsF 91 = (8, 0)) (by decide) rfl ?_
      refine xw_iloadn (aX8_init 15 rfl) rfl ?_
      refine cw_new (t := 5) (n2 := 97) (sl2 := 5933) (aX8_init 16 rfl) rfl (tin_1 (i := 36) rfl rfl) (tin_1 (i := 3) rfl rfl) rfl rfl rfl rfl rfl (by decide) (by decide) ?_
      refine xw_dup (aX8_init 17 rfl) rfl ?_
      refine hw_callN (j2 := 58) (Φ2 := fun v s => v = none ∧ s = (97, 5933, hsF, fI [(23, 5, ((-1) : Int32)), (23, 4, ((-1) : Int32)), (21, 3, ((-1) : Int32)), (21, 2, ((-1) : Int32)), (21, 1, ((-1) : Int32)), (21, 0, ((-1) : Int32))], fZ, fR [(92, 2, some 95), (92, 1, some 94), (92, 0, some 93), (91, 0, some 92), (0, 1, some 48), (48, 1, some 49), (48, 0, some 23), (48, 4, some 72), (73, 15, some 89), (73, 14, some 88), (73, 13, some 87), (73, 12, some 86), (73, 11, some 85), (73, 10, some 84), (73, 9, some 83), (73, 8, some 82), (73, 7, some 81), (73, 6, some 80), (73, 5, some 79), (73, 4, some 78), (73, 3, some 77), (73, 2, some 76), (73, 1, some 75), (73, 0, some 74), (72, 0, some 73), (48, 3, some 71), (48, 2, some 70), (49, 1, none), (49, 0, some 23), (49, 4, some 52), (53, 15, some 69), (53, 14, some 68), (53, 13, some 67), (53, 12, some 66), (53, 11, some 65), (53, 10, some 64), (53, 9, some 63), (53, 8, some 62), (53, 7, some 61), (53, 6, some 60), (53, 5, some 59), (53, 4, some 58), (53, 3, some 57), (53, 2, some 56), (53, 1, some 55), (53, 0, some 54), (52, 0, some 53), (49, 3, some 51), (49, 2, some 50), (0, 0, some 23), (23, 3, some 43), (23, 2, some 26), (23, 1, some 25), (23, 0, some 24), (0, 11, some 22), (0, 8, some 21), (0, 7, some 20), (0, 6, some 19), (0, 5, some 1), (2, 15, some 18), (2, 14, some 17), (2, 13, some 16), (2, 12, some 15), (2, 11, some 14), (2, 10, some 13), (2, 9, some 12), (2, 8, some 11), (2, 7, some 10), (2, 6, some 9), (2, 5, some 8), (2, 4, some 7), (2, 3, some 6), (2, 2, some 5), (2, 1, some 4), (2, 0, some 3), (1, 0, some 2)])) (Bs := []) (rest := [.ref (base + 96), .int (3 : Int32), .ref (base + 92)]) (aX8_init 18 rfl) wc_RX8_17 (by decide) rfl wi_yX5_init rfl rfl rfl (Nat.le_of_ble_eq_true rfl) (Nat.le_of_ble_eq_true rfl) ?_ (fun v s hv => ?_)
      · refine hw_aloadn (aX5_init 0 rfl) rfl ?_
        refine hw_obj (aX5_init 1 rfl) (tin_1 (i := 42) rfl rfl) (tin_1 (i := 28) rfl rfl) (tin_1 (i := 29) rfl rfl) (Nat.le_of_ble_eq_true rfl) ?_
        refine xw_vret (aX5_init 2 rfl) rfl ?_
        exact ⟨rfl, rfl⟩
      obtain ⟨rfl, rfl⟩ := hv
      show hw sk base _ _ _ _ _ [.ref (base + 96), .int (3 : Int32), .ref (base + 92)] _ _
      refine hv_aast (k := 3) (i2 := 3) (aX8_init 19 rfl) (by decide : 92 < 97) (rfl : hsF 92 = (103, 16)) rfl (by decide) (by decide : 96 < 97) (rfl : hsF 96 = (5, 0)) rfl (h_in (by decide : (3 : Int32).toInt = 3) (by decide) (by decide)) (by decide) (fun F166 u165 => ?_)
      rw [fR_up] at u165; subst u165
      refine xw_iinc (L2 := [(1, .int (4 : Int32)), (0, .ref (base + 91))]) (aX8_init 20 rfl) rfl (by decide) (by rw [show ((3 : Int32) + Int32.ofInt (1)) = (4 : Int32) from by decide]; rfl) ?_
      refine xw_goto (tgt := 15) (aX8_init 21 rfl) (by decide) ?_
      refine xw_iloadn (aX8_init 8 rfl) rfl ?_
      refine hw_aloadn (aX8_init 9 rfl) rfl ?_
      refine hw_get (v := .ref (base + 92)) (aX8_init 10 rfl) wf_RX8_13 (by decide : 91 < 97) (rfl : hsF 91 = (8, 0)) (by decide) rfl ?_
      refine hw_alen (k := 3) (z := 16) (v := (16 : Int32)) (aX8_init 11 rfl) (by decide : 92 < 97) (rfl : hsF 92 = (103, 16)) (by decide) (by decide) ?_
      refine hw_icge (tgt := 43) (aX8_init 12 rfl) (by decide) (by decide : (4 : Int32).toInt = 4) (by decide : (16 : Int32).toInt = 16) (fun cd => ?_) (fun cd => ?_)
      · exfalso; omega
      refine hw_aloadn (aX8_init 13 rfl) rfl ?_
      refine hw_get (v := .ref (base + 92)) (aX8_init 14 rfl) wf_RX8_13 (by decide : 91 < 97) (rfl : hsF 91 = (8, 0)) (by decide) rfl ?_
      refine xw_iloadn (aX8_init 15 rfl) rfl ?_
      refine cw_new (t := 5) (n2 := 98) (sl2 := 5939) (aX8_init 16 rfl) rfl (tin_1 (i := 36) rfl rfl) (tin_1 (i := 3) rfl rfl) rfl rfl rfl rfl rfl (by decide) (by decide) ?_
      refine xw_dup (aX8_init 17 rfl) rfl ?_
      refine hw_callN (j2 := 58) (Φ2 := fun v s => v = none ∧ s = (98, 5939, hsF, fI [(23, 5, ((-1) : Int32)), (23, 4, ((-1) : Int32)), (21, 3, ((-1) : Int32)), (21, 2, ((-1) : Int32)), (21, 1, ((-1) : Int32)), (21, 0, ((-1) : Int32))], fZ, fR [(92, 3, some 96), (92, 2, some 95), (92, 1, some 94), (92, 0, some 93), (91, 0, some 92), (0, 1, some 48), (48, 1, some 49), (48, 0, some 23), (48, 4, some 72), (73, 15, some 89), (73, 14, some 88), (73, 13, some 87), (73, 12, some 86), (73, 11, some 85), (73, 10, some 84), (73, 9, some 83), (73, 8, some 82), (73, 7, some 81), (73, 6, some 80), (73, 5, some 79), (73, 4, some 78), (73, 3, some 77), (73, 2, some 76), (73, 1, some 75), (73, 0, some 74), (72, 0, some 73), (48, 3, some 71), (48, 2, some 70), (49, 1, none), (49, 0, some 23), (49, 4, some 52), (53, 15, some 69), (53, 14, some 68), (53, 13, some 67), (53, 12, some 66), (53, 11, some 65), (53, 10, some 64), (53, 9, some 63), (53, 8, some 62), (53, 7, some 61), (53, 6, some 60), (53, 5, some 59), (53, 4, some 58), (53, 3, some 57), (53, 2, some 56), (53, 1, some 55), (53, 0, some 54), (52, 0, some 53), (49, 3, some 51), (49, 2, some 50), (0, 0, some 23), (23, 3, some 43), (23, 2, some 26), (23, 1, some 25), (23, 0, some 24), (0, 11, some 22), (0, 8, some 21), (0, 7, some 20), (0, 6, some 19), (0, 5, some 1), (2, 15, some 18), (2, 14, some 17), (2, 13, some 16), (2, 12, some 15), (2, 11, some 14), (2, 10, some 13), (2, 9, some 12), (2, 8, some 11), (2, 7, some 10), (2, 6, some 9), (2, 5, some 8), (2, 4, some 7), (2, 3, some 6), (2, 2, some 5), (2, 1, some 4), (2, 0, some 3), (1, 0, some 2)])) (Bs := []) (rest := [.ref (base + 97), .int (4 : Int32), .ref (base + 92)]) (aX8_init 18 rfl) wc_RX8_17 (by decide) rfl wi_yX5_init rfl rfl rfl (Nat.le_of_ble_eq_true rfl) (Nat.le_of_ble_eq_true rfl) ?_ (fun v s hv => ?_)
      · refine hw_aloadn (aX5_init 0 rfl) rfl ?_
        refine hw_obj (aX5_init 1 rfl) (tin_1 (i := 42) rfl rfl) (tin_1 (i := 28) rfl rfl) (tin_1 (i := 29) rfl rfl) (Nat.le_of_ble_eq_true rfl) ?_
        refine xw_vret (aX5_init 2 rfl) rfl ?_
        exact ⟨rfl, rfl⟩
      obtain ⟨rfl, rfl⟩ := hv
      show hw sk base _ _ _ _ _ [.ref (base + 97), .int (4 : Int32), .ref (base + 92)] _ _
      refine hv_aast (k := 3) (i2 := 4) (aX8_init 19 rfl) (by decide : 92 < 98) (rfl : hsF 92 = (103, 16)) rfl (by decide) (by decide : 97 < 98) (rfl : hsF 97 = (5, 0)) rfl (h_in (by decide : (4 : Int32).toInt = 4) (by decide) (by decide)) (by decide) (fun F168 u167 => ?_)
      rw [fR_up] at u167; subst u167
      refine xw_iinc (L2 := [(1, .int (5 : Int32)), (0, .ref (base + 91))]) (aX8_init 20 rfl) rfl (by decide) (by rw [show ((4 : Int32) + Int32.ofInt (1)) = (5 : Int32) from by decide]; rfl) ?_
      refine xw_goto (tgt := 15) (aX8_init 21 rfl) (by decide) ?_
      refine xw_iloadn (aX8_init 8 rfl) rfl ?_
      refine hw_aloadn (aX8_init 9 rfl) rfl ?_
      refine hw_get (v := .ref (base + 92)) (aX8_init 10 rfl) wf_RX8_13 (by decide : 91 < 98) (rfl : hsF 91 = (8, 0)) (by decide) rfl ?_
      refine hw_alen (k := 3) (z := 16) (v := (16 : Int32)) (aX8_init 11 rfl) (by decide : 92 < 98) (rfl : hsF 92 = (103, 16)) (by decide) (by decide) ?_
      refine hw_icge (tgt := 43) (aX8_init 12 rfl) (by decide) (by decide : (5 : Int32).toInt = 5) (by decide : (16 : Int32).toInt = 16) (fun cd => ?_) (fun cd => ?_)
      · exfalso; omega
      refine hw_aloadn (aX8_init 13 rfl) rfl ?_
      refine hw_get (v := .ref (base + 92)) (aX8_init 14 rfl) wf_RX8_13 (by decide : 91 < 98) (rfl : hsF 91 = (8, 0)) (by decide) rfl ?_
      refine xw_iloadn (aX8_init 15 rfl) rfl ?_
      refine cw_new (t := 5) (n2 := 99) (sl2 := 5945) (aX8_init 16 rfl) rfl (tin_1 (i := 36) rfl rfl) (tin_1 (i := 3) rfl rfl) rfl rfl rfl rfl rfl (by decide) (by decide) ?_
      refine xw_dup (aX8_init 17 rfl) rfl ?_
      refine hw_callN (j2 := 58) (Φ2 := fun v s => v = none ∧ s = (99, 5945, hsF, fI [(23, 5, ((-1) : Int32)), (23, 4, ((-1) : Int32)), (21, 3, ((-1) : Int32)), (21, 2, ((-1) : Int32)), (21, 1, ((-1) : Int32)), (21, 0, ((-1) : Int32))], fZ, fR [(92, 4, some 97), (92, 3, some 96), (92, 2, some 95), (92, 1, some 94), (92, 0, some 93), (91, 0, some 92), (0, 1, some 48), (48, 1, some 49), (48, 0, some 23), (48, 4, some 72), (73, 15, some 89), (73, 14, some 88), (73, 13, some 87), (73, 12, some 86), (73, 11, some 85), (73, 10, some 84), (73, 9, some 83), (73, 8, some 82), (73, 7, some 81), (73, 6, some 80), (73, 5, some 79), (73, 4, some 78), (73, 3, some 77), (73, 2, some 76), (73, 1, some 75), (73, 0, some 74), (72, 0, some 73), (48, 3, some 71), (48, 2, some 70), (49, 1, none), (49, 0, some 23), (49, 4, some 52), (53, 15, some 69), (53, 14, some 68), (53, 13, some 67), (53, 12, some 66), (53, 11, some 65), (53, 10, some 64), (53, 9, some 63), (53, 8, some 62), (53, 7, some 61), (53, 6, some 60), (53, 5, some 59), (53, 4, some 58), (53, 3, some 57), (53, 2, some 56), (53, 1, some 55), (53, 0, some 54), (52, 0, some 53), (49, 3, some 51), (49, 2, some 50), (0, 0, some 23), (23, 3, some 43), (23, 2, some 26), (23, 1, some 25), (23, 0, some 24), (0, 11, some 22), (0, 8, some 21), (0, 7, some 20), (0, 6, some 19), (0, 5, some 1), (2, 15, some 18), (2, 14, some 17), (2, 13, some 16), (2, 12, some 15), (2, 11, some 14), (2, 10, some 13), (2, 9, some 12), (2, 8, some 11), (2, 7, some 10), (2, 6, some 9), (2, 5, some 8), (2, 4, some 7), (2, 3, some 6), (2, 2, some 5), (2, 1, some 4), (2, 0, some 3), (1, 0, some 2)])) (Bs := []) (rest := [.ref (base + 98), .int (5 : Int32), .ref (base + 92)]) (aX8_init 18 rfl) wc_RX8_17 (by decide) rfl wi_yX5_init rfl rfl rfl (Nat.le_of_ble_eq_true rfl) (Nat.le_of_ble_eq_true rfl) ?_ (fun v s hv => ?_)
      · refine hw_aloadn (aX5_init 0 rfl) rfl ?_
        refine hw_obj (aX5_init 1 rfl) (tin_1 (i := 42) rfl rfl) (tin_1 (i := 28) rfl rfl) (tin_1 (i := 29) rfl rfl) (Nat.le_of_ble_eq_true rfl) ?_
        refine xw_vret (aX5_init 2 rfl) rfl ?_
        exact ⟨rfl, rfl⟩
      obtain ⟨rfl, rfl⟩ := hv
      show hw sk base _ _ _ _ _ [.ref (base + 98), .int (5 : Int32), .ref (base + 92)] _ _
      refine hv_aast (k := 3) (i2 := 5) (aX8_init 19 rfl) (by decide : 92 < 99) (rfl : hsF 92 = (103, 16)) rfl (by decide) (by decide : 98 < 99) (rfl : hsF 98 = (5, 0)) rfl (h_in (by decide : (5 : Int32).toInt = 5) (by decide) (by decide)) (by decide) (fun F170 u169 => ?_)
      rw [fR_up] at u169; subst u169
      refine xw_iinc (L2 := [(1, .int (6 : Int32)), (0, .ref (base + 91))]) (aX8_init 20 rfl) rfl (by decide) (by rw [show ((5 : Int32) + Int32.ofInt (1)) = (6 : Int32) from by decide]; rfl) ?_
      refine xw_goto (tgt := 15) (aX8_init 21 rfl) (by decide) ?_
      refine xw_iloadn (aX8_init 8 rfl) rfl ?_
      refine hw_aloadn (aX8_init 9 rfl) rfl ?_
      refine hw_get (v := .ref (base + 92)) (aX8_init 10 rfl) wf_RX8_13 (by decide : 91 < 99) (rfl : hsF 91 = (8, 0)) (by decide) rfl ?_
      refine hw_alen (k := 3) (z := 16) (v := (16 : Int32)) (aX8_init 11 rfl) (by decide : 92 < 99) (rfl : hsF 92 = (103, 16)) (by decide) (by decide) ?_
      refine hw_icge (tgt := 43) (aX8_init 12 rfl) (by decide) (by decide : (6 : Int32).toInt = 6) (by decide : (16 : Int32).toInt = 16) (fun cd => ?_) (fun cd => ?_)
      · exfalso; omega
      refine hw_aloadn (aX8_init 13 rfl) rfl ?_
      refine hw_get (v := .ref (base + 92)) (aX8_init 14 rfl) wf_RX8_13 (by decide : 91 < 99) (rfl : hsF 91 = (8, 0)) (by decide) rfl ?_
      refine xw_iloadn (aX8_init 15 rfl) rfl ?_
      refine cw_new (t := 5) (n2 := 100) (sl2 := 5951) (aX8_init 16 rfl) rfl (tin_1 (i := 36) rfl rfl) (tin_1 (i := 3) rfl rfl) rfl rfl rfl rfl rfl (by decide) (by decide) ?_
      refine xw_dup (aX8_init 17 rfl) rfl ?_
      refine hw_callN (j2 := 58) (Φ2 := fun v s => v = none ∧ s = (100, 5951, hsF, fI [(23, 5, ((-1) : Int32)), (23, 4, ((-1) : Int32)), (21, 3, ((-1) : Int32)), (21, 2, ((-1) : Int32)), (21, 1, ((-1) : Int32)), (21, 0, ((-1) : Int32))], fZ, fR [(92, 5, some 98), (92, 4, some 97), (92, 3, some 96), (92, 2, some 95), (92, 1, some 94), (92, 0, some 93), (91, 0, some 92), (0, 1, some 48), (48, 1, some 49), (48, 0, some 23), (48, 4, some 72), (73, 15, some 89), (73, 14, some 88), (73, 13, some 87), (73, 12, some 86), (73, 11, some 85), (73, 10, some 84), (73, 9, some 83), (73, 8, some 82), (73, 7, some 81), (73, 6, some 80), (73, 5, some 79), (73, 4, some 78), (73, 3, some 77), (73, 2, some 76), (73, 1, some 75), (73, 0, some 74), (72, 0, some 73), (48, 3, some 71), (48, 2, some 70), (49, 1, none), (49, 0, some 23), (49, 4, some 52), (53, 15, some 69), (53, 14, some 68), (53, 13, some 67), (53, 12, some 66), (53, 11, some 65), (53, 10, some 64), (53, 9, some 63), (53, 8, some 62), (53, 7, some 61), (53, 6, some 60), (53, 5, some 59), (53, 4, some 58), (53, 3, some 57), (53, 2, some 56), (53, 1, some 55), (53, 0, some 54), (52, 0, some 53), (49, 3, some 51), (49, 2, some 50), (0, 0, some 23), (23, 3, some 43), (23, 2, some 26), (23, 1, some 25), (23, 0, some 24), (0, 11, some 22), (0, 8, some 21), (0, 7, some 20), (0, 6, some 19), (0, 5, some 1), (2, 15, some 18), (2, 14, some 17), (2, 13, some 16), (2, 12, some 15), (2, 11, some 14), (2, 10, some 13), (2, 9, some 12), (2, 8, some 11), (2, 7, some 10), (2, 6, some 9), (2, 5, some 8), (2, 4, some 7), (2, 3, some 6), (2, 2, some 5), (2, 1, some 4), (2, 0, some 3), (1, 0, some 2)])) (Bs := []) (rest := [.ref (base + 99), .int (6 : Int32), .ref (base + 92)]) (aX8_init 18 rfl) wc_RX8_17 (by decide) rfl wi_yX5_init rfl rfl rfl (Nat.le_of_ble_eq_true rfl) (Nat.le_of_ble_eq_true rfl) ?_ (fun v s hv => ?_)
      · refine hw_aloadn (aX5_init 0 rfl) rfl ?_
        refine hw_obj (aX5_init 1 rfl) (tin_1 (i := 42) rfl rfl) (tin_1 (i := 28) rfl rfl) (tin_1 (i := 29) rfl rfl) (Nat.le_of_ble_eq_true rfl) ?_
        refine xw_vret (aX5_init 2 rfl) rfl ?_
        exact ⟨rfl, rfl⟩
      obtain ⟨rfl, rfl⟩ := hv
      show hw sk base _ _ _ _ _ [.ref (base + 99), .int (6 : Int32), .ref (base + 92)] _ _
      refine hv_aast (k := 3) (i2 := 6) (aX8_init 19 rfl) (by decide : 92 < 100) (rfl : hsF 92 = (103, 16)) rfl (by decide) (by decide : 99 < 100) (rfl : hsF 99 = (5, 0)) rfl (h_in (by decide : (6 : Int32).toInt = 6) (by decide) (by decide)) (by decide) (fun F172 u171 => ?_)
      rw [fR_up] at u171; subst u171
      refine xw_iinc (L2 := [(1, .int (7 : Int32)), (0, .ref (base + 91))]) (aX8_init 20 rfl) rfl (by decide) (by rw [show ((6 : Int32) + Int32.ofInt (1)) = (7 : Int32) from by decide]; rfl) ?_
      refine xw_goto (tgt := 15) (aX8_init 21 rfl) (by decide) ?_
      refine xw_iloadn (aX8_init 8 rfl) rfl ?_
      refine hw_aloadn (aX8_init 9 rfl) rfl ?_
      refine hw_get (v := .ref (base + 92)) (aX8_init 10 rfl) wf_RX8_13 (by decide : 91 < 100) (rfl : hsF 91 = (8, 0)) (by decide) rfl ?_
      refine hw_alen (k := 3) (z := 16) (v := (16 : Int32)) (aX8_init 11 rfl) (by decide : 92 < 100) (rfl : hsF 92 = (103, 16)) (by decide) (by decide) ?_
      refine hw_icge (tgt := 43) (aX8_init 12 rfl) (by decide) (by decide : (7 : Int32).toInt = 7) (by decide : (16 : Int32).toInt = 16) (fun cd => ?_) (fun cd => ?_)
      · exfalso; omega
      refine hw_aloadn (aX8_init 13 rfl) rfl ?_
      refine hw_get (v := .ref (base + 92)) (aX8_init 14 rfl) wf_RX8_13 (by decide : 91 < 100) (rfl : hsF 91 = (8, 0)) (by decide) rfl ?_
      refine xw_iloadn (aX8_init 15 rfl) rfl ?_
      refine cw_new (t := 5) (n2 := 101) (sl2 := 5957) (aX8_init 16 rfl) rfl (tin_1 (i := 36) rfl rfl) (tin_1 (i := 3) rfl rfl) rfl rfl rfl rfl rfl (by decide) (by decide) ?_
      refine xw_dup (aX8_init 17 rfl) rfl ?_
      refine hw_callN (j2 := 58) (Φ2 := fun v s => v = none ∧ s = (101, 5957, hsF, fI [(23, 5, ((-1) : Int32)), (23, 4, ((-1) : Int32)), (21, 3, ((-1) : Int32)), (21, 2, ((-1) : Int32)), (21, 1, ((-1) : Int32)), (21, 0, ((-1) : Int32))], fZ, fR [(92, 6, some 99), (92, 5, some 98), (92, 4, some 97), (92, 3, some 96), (92, 2, some 95), (92, 1, some 94), (92, 0, some 93), (91, 0, some 92), (0, 1, some 48), (48, 1, some 49), (48, 0, some 23), (48, 4, some 72), (73, 15, some 89), (73, 14, some 88), (73, 13, some 87), (73, 12, some 86), (73, 11, some 85), (73, 10, some 84), (73, 9, some 83), (73, 8, some 82), (73, 7, some 81), (73, 6, some 80), (73, 5, some 79), (73, 4, some 78), (73, 3, some 77), (73, 2, some 76), (73, 1, some 75), (73, 0, some 74), (72, 0, some 73), (48, 3, some 71), (48, 2, some 70), (49, 1, none), (49, 0, some 23), (49, 4, some 52), (53, 15, some 69), (53, 14, some 68), (53, 13, some 67), (53, 12, some 66), (53, 11, some 65), (53, 10, some 64), (53, 9, some 63), (53, 8, some 62), (53, 7, some 61), (53, 6, some 60), (53, 5, some 59), (53, 4, some 58), (53, 3, some 57), (53, 2, some 56), (53, 1, some 55), (53, 0, some 54), (52, 0, some 53), (49, 3, some 51), (49, 2, some 50), (0, 0, some 23), (23, 3, some 43), (23, 2, some 26), (23, 1, some 25), (23, 0, some 24), (0, 11, some 22), (0, 8, some 21), (0, 7, some 20), (0, 6, some 19), (0, 5, some 1), (2, 15, some 18), (2, 14, some 17), (2, 13, some 16), (2, 12, some 15), (2, 11, some 14), (2, 10, some 13), (2, 9, some 12), (2, 8, some 11), (2, 7, some 10), (2, 6, some 9), (2, 5, some 8), (2, 4, some 7), (2, 3, some 6), (2, 2, some 5), (2, 1, some 4), (2, 0, some 3), (1, 0, some 2)])) (Bs := []) (rest := [.ref (base + 100), .int (7 : Int32), .ref (base + 92)]) (aX8_init 18 rfl) wc_RX8_17 (by decide) rfl wi_yX5_init rfl rfl rfl (Nat.le_of_ble_eq_true rfl) (Nat.le_of_ble_eq_true rfl) ?_ (fun v s hv => ?_)
      · refine hw_aloadn (aX5_init 0 rfl) rfl ?_
        refine hw_obj (aX5_init 1 rfl) (tin_1 (i := 42) rfl rfl) (tin_1 (i := 28) rfl rfl) (tin_1 (i := 29) rfl rfl) (Nat.le_of_ble_eq_true rfl) ?_
        refine xw_vret (aX5_init 2 rfl) rfl ?_
        exact ⟨rfl, rfl⟩
      obtain ⟨rfl, rfl⟩ := hv
      show hw sk base _ _ _ _ _ [.ref (base + 100), .int (7 : Int32), .ref (base + 92)] _ _
      refine hv_aast (k := 3) (i2 := 7) (aX8_init 19 rfl) (by decide : 92 < 101) (rfl : hsF 92 = (103, 16)) rfl (by decide) (by decide : 100 < 101) (rfl : hsF 100 = (5, 0)) rfl (h_in (by decide : (7 : Int32).toInt = 7) (by decide) (by decide)) (by decide) (fun F174 u173 => ?_)
      rw [fR_up] at u173; subst u173
      refine xw_iinc (L2 := [(1, .int (8 : Int32)), (0, .ref (base + 91))]) (aX8_init 20 rfl) rfl (by decide) (by rw [show ((7 : Int32) + Int32.ofInt (1)) = (8 : Int32) from by decide]; rfl) ?_
      refine xw_goto (tgt := 15) (aX8_init 21 rfl) (by decide) ?_
      refine xw_iloadn (aX8_init 8 rfl) rfl ?_
      refine hw_aloadn (aX8_init 9 rfl) rfl ?_
      refine hw_get (v := .ref (base + 92)) (aX8_init 10 rfl) wf_RX8_13 (by decide : 91 < 101) (rfl : hsF 91 = (8, 0)) (by decide) rfl ?_
      refine hw_alen (k := 3) (z := 16) (v := (16 : Int32)) (aX8_init 11 rfl) (by decide : 92 < 101) (rfl : hsF 92 = (103, 16)) (by decide) (by decide) ?_
      refine hw_icge (tgt := 43) (aX8_init 12 rfl) (by decide) (by decide : (8 : Int32).toInt = 8) (by decide : (16 : Int32).toInt = 16) (fun cd => ?_) (fun cd => ?_)
      · exfalso; omega
      refine hw_aloadn (aX8_init 13 rfl) rfl ?_
      refine hw_get (v := .ref (base + 92)) (aX8_init 14 rfl) wf_RX8_13 (by decide : 91 < 101) (rfl : hsF 91 = (8, 0)) (by decide) rfl ?_
      refine xw_iloadn (aX8_init 15 rfl) rfl ?_
      refine cw_new (t := 5) (n2 := 102) (sl2 := 5963) (aX8_init 16 rfl) rfl (tin_1 (i := 36) rfl rfl) (tin_1 (i := 3) rfl rfl) rfl rfl rfl rfl rfl (by decide) (by decide) ?_
      refine xw_dup (aX8_init 17 rfl) rfl ?_
      refine hw_callN (j2 := 58) (Φ2 := fun v s => v = none ∧ s = (102, 5963, hsF, fI [(23, 5, ((-1) : Int32)), (23, 4, ((-1) : Int32)), (21, 3, ((-1) : Int32)), (21, 2, ((-1) : Int32)), (21, 1, ((-1) : Int32)), (21, 0, ((-1) : Int32))], fZ, fR [(92, 7, some 100), (92, 6, some 99), (92, 5, some 98), (92, 4, some 97), (92, 3, some 96), (92, 2, some 95), (92, 1, some 94), (92, 0, some 93), (91, 0, some 92), (0, 1, some 48), (48, 1, some 49), (48, 0, some 23), (48, 4, some 72), (73, 15, some 89), (73, 14, some 88), (73, 13, some 87), (73, 12, some 86), (73, 11, some 85), (73, 10, some 84), (73, 9, some 83), (73, 8, some 82), (73, 7, some 81), (73, 6, some 80), (73, 5, some 79), (73, 4, some 78), (73, 3, some 77), (73, 2, some 76), (73, 1, some 75), (73, 0, some 74), (72, 0, some 73), (48, 3, some 71), (48, 2, some 70), (49, 1, none), (49, 0, some 23), (49, 4, some 52), (53, 15, some 69), (53, 14, some 68), (53, 13, some 67), (53, 12, some 66), (53, 11, some 65), (53, 10, some 64), (53, 9, some 63), (53, 8, some 62), (53, 7, some 61), (53, 6, some 60), (53, 5, some 59), (53, 4, some 58), (53, 3, some 57), (53, 2, some 56), (53, 1, some 55), (53, 0, some 54), (52, 0, some 53), (49, 3, some 51), (49, 2, some 50), (0, 0, some 23), (23, 3, some 43), (23, 2, some 26), (23, 1, some 25), (23, 0, some 24), (0, 11, some 22), (0, 8, some 21), (0, 7, some 20), (0, 6, some 19), (0, 5, some 1), (2, 15, some 18), (2, 14, some 17), (2, 13, some 16), (2, 12, some 15), (2, 11, some 14), (2, 10, some 13), (2, 9, some 12), (2, 8, some 11), (2, 7, some 10), (2, 6, some 9), (2, 5, some 8), (2, 4, some 7), (2, 3, some 6), (2, 2, some 5), (2, 1, some 4), (2, 0, some 3), (1, 0, some 2)])) (Bs := []) (rest := [.ref (base + 101), .int (8 : Int32), .ref (base + 92)]) (aX8_init 18 rfl) wc_RX8_17 (by decide) rfl wi_yX5_init rfl rfl rfl (Nat.le_of_ble_eq_true rfl) (Nat.le_of_ble_eq_true rfl) ?_ (fun v s hv => ?_)
      · refine hw_aloadn (aX5_init 0 rfl) rfl ?_
        refine hw_obj (aX5_init 1 rfl) (tin_1 (i := 42) rfl rfl) (tin_1 (i := 28) rfl rfl) (tin_1 (i := 29) rfl rfl) (Nat.le_of_ble_eq_true rfl) ?_
        refine xw_vret (aX5_init 2 rfl) rfl ?_
        exact ⟨rfl, rfl⟩
      obtain ⟨rfl, rfl⟩ := hv
      show hw sk base _ _ _ _ _ [.ref (base + 101), .int (8 : Int32), .ref (base + 92)] _ _
      refine hv_aast (k := 3) (i2 := 8) (aX8_init 19 rfl) (by decide : 92 < 102) (rfl : hsF 92 = (103, 16)) rfl (by decide) (by decide : 101 < 102) (rfl : hsF 101 = (5, 0)) rfl (h_in (by decide : (8 : Int32).toInt = 8) (by decide) (by decide)) (by decide) (fun F176 u175 => ?_)
      rw [fR_up] at u175; subst u175
      refine xw_iinc (L2 := [(1, .int (9 : Int32)), (0, .ref (base + 91))]) (aX8_init 20 rfl) rfl (by decide) (by rw [show ((8 : Int32) + Int32.ofInt (1)) = (9 : Int32) from by decide]; rfl) ?_
      refine xw_goto (tgt := 15) (aX8_init 21 rfl) (by decide) ?_
      refine xw_iloadn (aX8_init 8 rfl) rfl ?_
      refine hw_aloadn (aX8_init 9 rfl) rfl ?_
      refine hw_get (v := .ref (base + 92)) (aX8_init 10 rfl) wf_RX8_13 (by decide : 91 < 102) (rfl : hsF 91 = (8, 0)) (by decide) rfl ?_
      refine hw_alen (k := 3) (z := 16) (v := (16 : Int32)) (aX8_init 11 rfl) (by decide : 92 < 102) (rfl : hsF 92 = (103, 16)) (by decide) (by decide) ?_
      refine hw_icge (tgt := 43) (aX8_init 12 rfl) (by decide) (by decide : (9 : Int32).toInt = 9) (by decide : (16 : Int32).toInt = 16) (fun cd => ?_) (fun cd => ?_)
      · exfalso; omega
      refine hw_aloadn (aX8_init 13 rfl) rfl ?_
      refine hw_get (v := .ref (base + 92)) (aX8_init 14 rfl) wf_RX8_13 (by decide : 91 < 102) (rfl : hsF 91 = (8, 0)) (by decide) rfl ?_
      refine xw_iloadn (aX8_init 15 rfl) rfl ?_
      refine cw_new (t := 5) (n2 := 103) (sl2 := 5969) (aX8_init 16 rfl) rfl (tin_1 (i := 36) rfl rfl) (tin_1 (i := 3) rfl rfl) rfl rfl rfl rfl rfl (by decide) (by decide) ?_
      refine xw_dup (aX8_init 17 rfl) rfl ?_
      refine hw_callN (j2 := 58) (Φ2 := fun v s => v = none ∧ s = (103, 5969, hsF, fI [(23, 5, ((-1) : Int32)), (23, 4, ((-1) : Int32)), (21, 3, ((-1) : Int32)), (21, 2, ((-1) : Int32)), (21, 1, ((-1) : Int32)), (21, 0, ((-1) : Int32))], fZ, fR [(92, 8, some 101), (92, 7, some 100), (92, 6, some 99), (92, 5, some 98), (92, 4, some 97), (92, 3, some 96), (92, 2, some 95), (92, 1, some 94), (92, 0, some 93), (91, 0, some 92), (0, 1, some 48), (48, 1, some 49), (48, 0, some 23), (48, 4, some 72), (73, 15, some 89), (73, 14, some 88), (73, 13, some 87), (73, 12, some 86), (73, 11, some 85), (73, 10, some 84), (73, 9, some 83), (73, 8, some 82), (73, 7, some 81), (73, 6, some 80), (73, 5, some 79), (73, 4, some 78), (73, 3, some 77), (73, 2, some 76), (73, 1, some 75), (73, 0, some 74), (72, 0, some 73), (48, 3, some 71), (48, 2, some 70), (49, 1, none), (49, 0, some 23), (49, 4, some 52), (53, 15, some 69), (53, 14, some 68), (53, 13, some 67), (53, 12, some 66), (53, 11, some 65), (53, 10, some 64), (53, 9, some 63), (53, 8, some 62), (53, 7, some 61), (53, 6, some 60), (53, 5, some 59), (53, 4, some 58), (53, 3, some 57), (53, 2, some 56), (53, 1, some 55), (53, 0, some 54), (52, 0, some 53), (49, 3, some 51), (49, 2, some 50), (0, 0, some 23), (23, 3, some 43), (23, 2, some 26), (23, 1, some 25), (23, 0, some 24), (0, 11, some 22), (0, 8, some 21), (0, 7, some 20), (0, 6, some 19), (0, 5, some 1), (2, 15, some 18), (2, 14, some 17), (2, 13, some 16), (2, 12, some 15), (2, 11, some 14), (2, 10, some 13), (2, 9, some 12), (2, 8, some 11), (2, 7, some 10), (2, 6, some 9), (2, 5, some 8), (2, 4, some 7), (2, 3, some 6), (2, 2, some 5), (2, 1, some 4), (2, 0, some 3), (1, 0, some 2)])) (Bs := []) (rest := [.ref (base + 102), .int (9 : Int32), .ref (base + 92)]) (aX8_init 18 rfl) wc_RX8_17 (by decide) rfl wi_yX5_init rfl rfl rfl (Nat.le_of_ble_eq_true rfl) (Nat.le_of_ble_eq_true rfl) ?_ (fun v s hv => ?_)
      · refine hw_aloadn (aX5_init 0 rfl) rfl ?_
        refine hw_obj (aX5_init 1 rfl) (tin_1 (i := 42) rfl rfl) (tin_1 (i := 28) rfl rfl) (tin_1 (i := 29) rfl rfl) (Nat.le_of_ble_eq_true rfl) ?_
        refine xw_vret (aX5_init 2 rfl) rfl ?_
        exact ⟨rfl, rfl⟩
      obtain ⟨rfl, rfl⟩ := hv
      show hw sk base _ _ _ _ _ [.ref (base + 102), .int (9 : Int32), .ref (base + 92)] _ _
      refine hv_aast (k := 3) (i2 := 9) (aX8_init 19 rfl) (by decide : 92 < 103) (rfl : hsF 92 = (103, 16)) rfl (by decide) (by decide : 102 < 103) (rfl : hsF 102 = (5, 0)) rfl (h_in (by decide : (9 : Int32).toInt = 9) (by decide) (by decide)) (by decide) (fun F178 u177 => ?_)
      rw [fR_up] at u177; subst u177
      refine xw_iinc (L2 := [(1, .int (10 : Int32)), (0, .ref (base + 91))]) (aX8_init 20 rfl) rfl (by decide) (by rw [show ((9 : Int32) + Int32.ofInt (1)) = (10 : Int32) from by decide]; rfl) ?_
      refine xw_goto (tgt := 15) (aX8_init 21 rfl) (by decide) ?_
      refine xw_iloadn (aX8_init 8 rfl) rfl ?_
      refine hw_aloadn (aX8_init 9 rfl) rfl ?_
      refine hw_get (v := .ref (base + 92)) (aX8_init 10 rfl) wf_RX8_13 (by decide : 91 < 103) (rfl : hsF 91 = (8, 0)) (by decide) rfl ?_
      refine hw_alen (k := 3) (z := 16) (v := (16 : Int32)) (aX8_init 11 rfl) (by decide : 92 < 103) (rfl : hsF 92 = (103, 16)) (by decide) (by decide) ?_
      refine hw_icge (tgt := 43) (aX8_init 12 rfl) (by decide) (by decide : (10 : Int32).toInt = 10) (by decide : (16 : Int32).toInt = 16) (fun cd => ?_) (fun cd => ?_)
      · exfalso; omega
      refine hw_aloadn (aX8_init 13 rfl) rfl ?_
      refine hw_get (v := .ref (base + 92)) (aX8_init 14 rfl) wf_RX8_13 (by decide : 91 < 103) (rfl : hsF 91 = (8, 0)) (by decide) rfl ?_
      refine xw_iloadn (aX8_init 15 rfl) rfl ?_
      refine cw_new (t := 5) (n2 := 104) (sl2 := 5975) (aX8_init 16 rfl) rfl (tin_1 (i := 36) rfl rfl) (tin_1 (i := 3) rfl rfl) rfl rfl rfl rfl rfl (by decide) (by decide) ?_
      refine xw_dup (aX8_init 17 rfl) rfl ?_
      refine hw_callN (j2 := 58) (Φ2 := fun v s => v = none ∧ s = (104, 5975, hsF, fI [(23, 5, ((-1) : Int32)), (23, 4, ((-1) : Int32)), (21, 3, ((-1) : Int32)), (21, 2, ((-1) : Int32)), (21, 1, ((-1) : Int32)), (21, 0, ((-1) : Int32))], fZ, fR [(92, 9, some 102), (92, 8, some 101), (92, 7, some 100), (92, 6, some 99), (92, 5, some 98), (92, 4, some 97), (92, 3, some 96), (92, 2, some 95), (92, 1, some 94), (92, 0, some 93), (91, 0, some 92), (0, 1, some 48), (48, 1, some 49), (48, 0, some 23), (48, 4, some 72), (73, 15, some 89), (73, 14, some 88), (73, 13, some 87), (73, 12, some 86), (73, 11, some 85), (73, 10, some 84), (73, 9, some 83), (73, 8, some 82), (73, 7, some 81), (73, 6, some 80), (73, 5, some 79), (73, 4, some 78), (73, 3, some 77), (73, 2, some 76), (73, 1, some 75), (73, 0, some 74), (72, 0, some 73), (48, 3, some 71), (48, 2, some 70), (49, 1, none), (49, 0, some 23), (49, 4, some 52), (53, 15, some 69), (53, 14, some 68), (53, 13, some 67), (53, 12, some 66), (53, 11, some 65), (53, 10, some 64), (53, 9, some 63), (53, 8, some 62), (53, 7, some 61), (53, 6, some 60), (53, 5, some 59), (53, 4, some 58), (53, 3, some 57), (53, 2, some 56), (53, 1, some 55), (53, 0, some 54), (52, 0, some 53), (49, 3, some 51), (49, 2, some 50), (0, 0, some 23), (23, 3, some 43), (23, 2, some 26), (23, 1, some 25), (23, 0, some 24), (0, 11, some 22), (0, 8, some 21), (0, 7, some 20), (0, 6, some 19), (0, 5, some 1), (2, 15, some 18), (2, 14, some 17), (2, 13, some 16), (2, 12, some 15), (2, 11, some 14), (2, 10, some 13), (2, 9, some 12), (2, 8, some 11), (2, 7, some 10), (2, 6, some 9), (2, 5, some 8), (2, 4, some 7), (2, 3, some 6), (2, 2, some 5), (2, 1, some 4), (2, 0, some 3), (1, 0, some 2)])) (Bs := []) (rest := [.ref (base + 103), .int (10 : Int32), .ref (base + 92)]) (aX8_init 18 rfl) wc_RX8_17 (by decide) rfl wi_yX5_init rfl rfl rfl (Nat.le_of_ble_eq_true rfl) (Nat.le_of_ble_eq_true rfl) ?_ (fun v s hv => ?_)
      · refine hw_aloadn (aX5_init 0 rfl) rfl ?_
        refine hw_obj (aX5_init 1 rfl) (tin_1 (i := 42) rfl rfl) (tin_1 (i := 28) rfl rfl) (tin_1 (i := 29) rfl rfl) (Nat.le_of_ble_eq_true rfl) ?_
        refine xw_vret (aX5_init 2 rfl) rfl ?_
        exact ⟨rfl, rfl⟩
      obtain ⟨rfl, rfl⟩ := hv
      show hw sk base _ _ _ _ _ [.ref (base + 103), .int (10 : Int32), .ref (base + 92)] _ _
      refine hv_aast (k := 3) (i2 := 10) (aX8_init 19 rfl) (by decide : 92 < 104) (rfl : hsF 92 = (103, 16)) rfl (by decide) (by decide : 103 < 104) (rfl : hsF 103 = (5, 0)) rfl (h_in (by decide : (10 : Int32).toInt = 10) (by decide) (by decide)) (by decide) (fun F180 u179 => ?_)
      rw [fR_up] at u179; subst u179
      refine xw_iinc (L2 := [(1, .int (11 : Int32)), (0, .ref (base + 91))]) (aX8_init 20 rfl) rfl (by decide) (by rw [show ((10 : Int32) + Int32.ofInt (1)) = (11 : Int32) from by decide]; rfl) ?_
      refine xw_goto (tgt := 15) (aX8_init 21 rfl) (by decide) ?_
      refine xw_iloadn (aX8_init 8 rfl) rfl ?_
      refine hw_aloadn (aX8_init 9 rfl) rfl ?_
      refine hw_get (v := .ref (base + 92)) (aX8_init 10 rfl) wf_RX8_13 (by decide : 91 < 104) (rfl : hsF 91 = (8, 0)) (by decide) rfl ?_
      refine hw_alen (k := 3) (z := 16) (v := (16 : Int32)) (aX8_init 11 rfl) (by decide : 92 < 104) (rfl : hsF 92 = (103, 16)) (by decide) (by decide) ?_
      refine hw_icge (tgt := 43) (aX8_init 12 rfl) (by decide) (by decide : (11 : Int32).toInt = 11) (by decide : (16 : Int32).toInt = 16) (fun cd => ?_) (fun cd => ?_)
      · exfalso; omega
      refine hw_aloadn (aX8_init 13 rfl) rfl ?_
      refine hw_get (v := .ref (base + 92)) (aX8_init 14 rfl) wf_RX8_13 (by decide : 91 < 104) (rfl : hsF 91 = (8, 0)) (by decide) rfl ?_
      refine xw_iloadn (aX8_init 15 rfl) rfl ?_
      refine cw_new (t := 5) (n2 := 105) (sl2 := 5981) (aX8_init 16 rfl) rfl (tin_1 (i := 36) rfl rfl) (tin_1 (i := 3) rfl rfl) rfl rfl rfl rfl rfl (by decide) (by decide) ?_
      refine xw_dup (aX8_init 17 rfl) rfl ?_
      refine hw_callN (j2 := 58) (Φ2 := fun v s => v = none ∧ s = (105, 5981, hsF, fI [(23, 5, ((-1) : Int32)), (23, 4, ((-1) : Int32)), (21, 3, ((-1) : Int32)), (21, 2, ((-1) : Int32)), (21, 1, ((-1) : Int32)), (21, 0, ((-1) : Int32))], fZ, fR [(92, 10, some 103), (92, 9, some 102), (92, 8, some 101), (92, 7, some 100), (92, 6, some 99), (92, 5, some 98), (92, 4, some 97), (92, 3, some 96), (92, 2, some 95), (92, 1, some 94), (92, 0, some 93), (91, 0, some 92), (0, 1, some 48), (48, 1, some 49), (48, 0, some 23), (48, 4, some 72), (73, 15, some 89), (73, 14, some 88), (73, 13, some 87), (73, 12, some 86), (73, 11, some 85), (73, 10, some 84), (73, 9, some 83), (73, 8, some 82), (73, 7, some 81), (73, 6, some 80), (73, 5, some 79), (73, 4, some 78), (73, 3, some 77), (73, 2, some 76), (73, 1, some 75), (73, 0, some 74), (72, 0, some 73), (48, 3, some 71), (48, 2, some 70), (49, 1, none), (49, 0, some 23), (49, 4, some 52), (53, 15, some 69), (53, 14, some 68), (53, 13, some 67), (53, 12, some 66), (53, 11, some 65), (53, 10, some 64), (53, 9, some 63), (53, 8, some 62), (53, 7, some 61), (53, 6, some 60), (53, 5, some 59), (53, 4, some 58), (53, 3, some 57), (53, 2, some 56), (53, 1, some 55), (53, 0, some 54), (52, 0, some 53), (49, 3, some 51), (49, 2, some 50), (0, 0, some 23), (23, 3, some 43), (23, 2, some 26), (23, 1, some 25), (23, 0, some 24), (0, 11, some 22), (0, 8, some 21), (0, 7, some 20), (0, 6, some 19), (0, 5, some 1), (2, 15, some 18), (2, 14, some 17), (2, 13, some 16), (2, 12, some 15), (2, 11, some 14), (2, 10, some 13), (2, 9, some 12), (2, 8, some 11), (2, 7, some 10), (2, 6, some 9), (2, 5, some 8), (2, 4, some 7), (2, 3, some 6), (2, 2, some 5), (2, 1, some 4), (2, 0, some 3), (1, 0, some 2)])) (Bs := []) (rest := [.ref (base + 104), .int (11 : Int32), .ref (base + 92)]) (aX8_init 18 rfl) wc_RX8_17 (by decide) rfl wi_yX5_init rfl rfl rfl (Nat.le_of_ble_eq_true rfl) (Nat.le_of_ble_eq_true rfl) ?_ (fun v s hv => ?_)
      · refine hw_aloadn (aX5_init 0 rfl) rfl ?_
        refine hw_obj (aX5_init 1 rfl) (tin_1 (i := 42) rfl rfl) (tin_1 (i := 28) rfl rfl) (tin_1 (i := 29) rfl rfl) (Nat.le_of_ble_eq_true rfl) ?_
        refine xw_vret (aX5_init 2 rfl) rfl ?_
        exact ⟨rfl, rfl⟩
      obtain ⟨rfl, rfl⟩ := hv
      show hw sk base _ _ _ _ _ [.ref (base + 104), .int (11 : Int32), .ref (base + 92)] _ _
      refine hv_aast (k := 3) (i2 := 11) (aX8_init 19 rfl) (by decide : 92 < 105) (rfl : hsF 92 = (103, 16)) rfl (by decide) (by decide : 104 < 105) (rfl : hsF 104 = (5, 0)) rfl (h_in (by decide : (11 : Int32).toInt = 11) (by decide) (by decide)) (by decide) (fun F182 u181 => ?_)
      rw [fR_up] at u181; subst u181
      refine xw_iinc (L2 := [(1, .int (12 : Int32)), (0, .ref (base + 91))]) (aX8_init 20 rfl) rfl (by decide) (by rw [show ((11 : Int32) + Int32.ofInt (1)) = (12 : Int32) from by decide]; rfl) ?_
      refine xw_goto (tgt := 15) (aX8_init 21 rfl) (by decide) ?_
      refine xw_iloadn (aX8_init 8 rfl) rfl ?_
      refine hw_aloadn (aX8_init 9 rfl) rfl ?_
      refine hw_get (v := .ref (base + 92)) (aX8_init 10 rfl) wf_RX8_13 (by decide : 91 < 105) (rfl : hsF 91 = (8, 0)) (by decide) rfl ?_
      refine hw_alen (k := 3) (z := 16) (v := (16 : Int32)) (aX8_init 11 rfl) (by decide : 92 < 105) (rfl : hsF 92 = (103, 16)) (by decide) (by decide) ?_
      refine hw_icge (tgt := 43) (aX8_init 12 rfl) (by decide) (by decide : (12 : Int32).toInt = 12) (by decide : (16 : Int32).toInt = 16) (fun cd => ?_) (fun cd => ?_)
      · exfalso; omega
      refine hw_aloadn (aX8_init 13 rfl) rfl ?_
      refine hw_get (v := .ref (base + 92)) (aX8_init 14 rfl) wf_RX8_13 (by decide : 91 < 105) (rfl : hsF 91 = (8, 0)) (by decide) rfl ?_
      refine xw_iloadn (aX8_init 15 rfl) rfl ?_
      refine cw_new (t := 5) (n2 := 106) (sl2 := 5987) (aX8_init 16 rfl) rfl (tin_1 (i := 36) rfl rfl) (tin_1 (i := 3) rfl rfl) rfl rfl rfl rfl rfl (by decide) (by decide) ?_
      refine xw_dup (aX8_init 17 rfl) rfl ?_
      refine hw_callN (j2 := 58) (Φ2 := fun v s => v = none ∧ s = (106, 5987, hsF, fI [(23, 5, ((-1) : Int32)), (23, 4, ((-1) : Int32)), (21, 3, ((-1) : Int32)), (21, 2, ((-1) : Int32)), (21, 1, ((-1) : Int32)), (21, 0, ((-1) : Int32))], fZ, fR [(92, 11, some 104), (92, 10, some 103), (92, 9, some 102), (92, 8, some 101), (92, 7, some 100), (92, 6, some 99), (92, 5, some 98), (92, 4, some 97), (92, 3, some 96), (92, 2, some 95), (92, 1, some 94), (92, 0, some 93), (91, 0, some 92), (0, 1, some 48), (48, 1, some 49), (48, 0, some 23), (48, 4, some 72), (73, 15, some 89), (73, 14, some 88), (73, 13, some 87), (73, 12, some 86), (73, 11, some 85), (73, 10, some 84), (73, 9, some 83), (73, 8, some 82), (73, 7, some 81), (73, 6, some 80), (73, 5, some 79), (73, 4, some 78), (73, 3, some 77), (73, 2, some 76), (73, 1, some 75), (73, 0, some 74), (72, 0, some 73), (48, 3, some 71), (48, 2, some 70), (49, 1, none), (49, 0, some 23), (49, 4, some 52), (53, 15, some 69), (53, 14, some 68), (53, 13, some 67), (53, 12, some 66), (53, 11, some 65), (53, 10, some 64), (53, 9, some 63), (53, 8, some 62), (53, 7, some 61), (53, 6, some 60), (53, 5, some 59), (53, 4, some 58), (53, 3, some 57), (53, 2, some 56), (53, 1, some 55), (53, 0, some 54), (52, 0, some 53), (49, 3, some 51), (49, 2, some 50), (0, 0, some 23), (23, 3, some 43), (23, 2, some 26), (23, 1, some 25), (23, 0, some 24), (0, 11, some 22), (0, 8, some 21), (0, 7, some 20), (0, 6, some 19), (0, 5, some 1), (2, 15, some 18), (2, 14, some 17), (2, 13, some 16), (2, 12, some 15), (2, 11, some 14), (2, 10, some 13), (2, 9, some 12), (2, 8, some 11), (2, 7, some 10), (2, 6, some 9), (2, 5, some 8), (2, 4, some 7), (2, 3, some 6), (2, 2, some 5), (2, 1, some 4), (2, 0, some 3), (1, 0, some 2)])) (Bs := []) (rest := [.ref (base + 105), .int (12 : Int32), .ref (base + 92)]) (aX8_init 18 rfl) wc_RX8_17 (by decide) rfl wi_yX5_init rfl rfl rfl (Nat.le_of_ble_eq_true rfl) (Nat.le_of_ble_eq_true rfl) ?_ (fun v s hv => ?_)
      · refine hw_aloadn (aX5_init 0 rfl) rfl ?_
        refine hw_obj (aX5_init 1 rfl) (tin_1 (i := 42) rfl rfl) (tin_1 (i := 28) rfl rfl) (tin_1 (i := 29) rfl rfl) (Nat.le_of_ble_eq_true rfl) ?_
        refine xw_vret (aX5_init 2 rfl) rfl ?_
        exact ⟨rfl, rfl⟩
      obtain ⟨rfl, rfl⟩ := hv
      show hw sk base _ _ _ _ _ [.ref (base + 105), .int (12 : Int32), .ref (base + 92)] _ _
      refine hv_aast (k := 3) (i2 := 12) (aX8_init 19 rfl) (by decide : 92 < 106) (rfl : hsF 92 = (103, 16)) rfl (by decide) (by decide : 105 < 106) (rfl : hsF 105 = (5, 0)) rfl (h_in (by decide : (12 : Int32).toInt = 12) (by decide) (by decide)) (by decide) (fun F184 u183 => ?_)
      rw [fR_up] at u183; subst u183
      refine xw_iinc (L2 := [(1, .int (13 : Int32)), (0, .ref (base + 91))]) (aX8_init 20 rfl) rfl (by decide) (by rw [show ((12 : Int32) + Int32.ofInt (1)) = (13 : Int32) from by decide]; rfl) ?_
      refine xw_goto (tgt := 15) (aX8_init 21 rfl) (by decide) ?_
      refine xw_iloadn (aX8_init 8 rfl) rfl ?_
      refine hw_aloadn (aX8_init 9 rfl) rfl ?_
      refine hw_get (v := .ref (base + 92)) (aX8_init 10 rfl) wf_RX8_13 (by decide : 91 < 106) (rfl : hsF 91 = (8, 0)) (by decide) rfl ?_
      refine hw_alen (k := 3) (z := 16) (v := (16 : Int32)) (aX8_init 11 rfl) (by decide : 92 < 106) (rfl : hsF 92 = (103, 16)) (by decide) (by decide) ?_
      refine hw_icge (tgt := 43) (aX8_init 12 rfl) (by decide) (by decide : (13 : Int32).toInt = 13) (by decide : (16 : Int32).toInt = 16) (fun cd => ?_) (fun cd => ?_)
      · exfalso; omega
      refine hw_aloadn (aX8_init 13 rfl) rfl ?_
      refine hw_get (v := .ref (base + 92)) (aX8_init 14 rfl) wf_RX8_13 (by decide : 91 < 106) (rfl : hsF 91 = (8, 0)) (by decide) rfl ?_
      refine xw_iloadn (aX8_init 15 rfl) rfl ?_
      refine cw_new (t := 5) (n2 := 107) (sl2 := 5993) (aX8_init 16 rfl) rfl (tin_1 (i := 36) rfl rfl) (tin_1 (i := 3) rfl rfl) rfl rfl rfl rfl rfl (by decide) (by decide) ?_
      refine xw_dup (aX8_init 17 rfl) rfl ?_
      refine hw_callN (j2 := 58) (Φ2 := fun v s => v = none ∧ s = (107, 5993, hsF, fI [(23, 5, ((-1) : Int32)), (23, 4, ((-1) : Int32)), (21, 3, ((-1) : Int32)), (21, 2, ((-1) : Int32)), (21, 1, ((-1) : Int32)), (21, 0, ((-1) : Int32))], fZ, fR [(92, 12, some 105), (92, 11, some 104), (92, 10, some 103), (92, 9, some 102), (92, 8, some 101), (92, 7, some 100), (92, 6, some 99), (92, 5, some 98), (92, 4, some 97), (92, 3, some 96), (92, 2, some 95), (92, 1, some 94), (92, 0, some 93), (91, 0, some 92), (0, 1, some 48), (48, 1, some 49), (48, 0, some 23), (48, 4, some 72), (73, 15, some 89), (73, 14, some 88), (73, 13, some 87), (73, 12, some 86), (73, 11, some 85), (73, 10, some 84), (73, 9, some 83), (73, 8, some 82), (73, 7, some 81), (73, 6, some 80), (73, 5, some 79), (73, 4, some 78), (73, 3, some 77), (73, 2, some 76), (73, 1, some 75), (73, 0, some 74), (72, 0, some 73), (48, 3, some 71), (48, 2, some 70), (49, 1, none), (49, 0, some 23), (49, 4, some 52), (53, 15, some 69), (53, 14, some 68), (53, 13, some 67), (53, 12, some 66), (53, 11, some 65), (53, 10, some 64), (53, 9, some 63), (53, 8, some 62), (53, 7, some 61), (53, 6, some 60), (53, 5, some 59), (53, 4, some 58), (53, 3, some 57), (53, 2, some 56), (53, 1, some 55), (53, 0, some 54), (52, 0, some 53), (49, 3, some 51), (49, 2, some 50), (0, 0, some 23), (23, 3, some 43), (23, 2, some 26), (23, 1, some 25), (23, 0, some 24), (0, 11, some 22), (0, 8, some 21), (0, 7, some 20), (0, 6, some 19), (0, 5, some 1), (2, 15, some 18), (2, 14, some 17), (2, 13, some 16), (2, 12, some 15), (2, 11, some 14), (2, 10, some 13), (2, 9, some 12), (2, 8, some 11), (2, 7, some 10), (2, 6, some 9), (2, 5, some 8), (2, 4, some 7), (2, 3, some 6), (2, 2, some 5), (2, 1, some 4), (2, 0, some 3), (1, 0, some 2)])) (Bs := []) (rest := [.ref (base + 106), .int (13 : Int32), .ref (base + 92)]) (aX8_init 18 rfl) wc_RX8_17 (by decide) rfl wi_yX5_init rfl rfl rfl (Nat.le_of_ble_eq_true rfl) (Nat.le_of_ble_eq_true rfl) ?_ (fun v s hv => ?_)
      · refine hw_aloadn (aX5_init 0 rfl) rfl ?_
        refine hw_obj (aX5_init 1 rfl) (tin_1 (i := 42) rfl rfl) (tin_1 (i := 28) rfl rfl) (tin_1 (i := 29) rfl rfl) (Nat.le_of_ble_eq_true rfl) ?_
        refine xw_vret (aX5_init 2 rfl) rfl ?_
        exact ⟨rfl, rfl⟩
      obtain ⟨rfl, rfl⟩ := hv
      show hw sk base _ _ _ _ _ [.ref (base + 106), .int (13 : Int32), .ref (base + 92)] _ _
      refine hv_aast (k := 3) (i2 := 13) (aX8_init 19 rfl) (by decide : 92 < 107) (rfl : hsF 92 = (103, 16)) rfl (by decide) (by decide : 106 < 107) (rfl : hsF 106 = (5, 0)) rfl (h_in (by decide : (13 : Int32).toInt = 13) (by decide) (by decide)) (by decide) (fun F186 u185 => ?_)
      rw [fR_up] at u185; subst u185
      refine xw_iinc (L2 := [(1, .int (14 : Int32)), (0, .ref (base + 91))]) (aX8_init 20 rfl) rfl (by decide) (by rw [show ((13 : Int32) + Int32.ofInt (1)) = (14 : Int32) from by decide]; rfl) ?_
      refine xw_goto (tgt := 15) (aX8_init 21 rfl) (by decide) ?_
      refine xw_iloadn (aX8_init 8 rfl) rfl ?_
      refine hw_aloadn (aX8_init 9 rfl) rfl ?_
      refine hw_get (v := .ref (base + 92)) (aX8_init 10 rfl) wf_RX8_13 (by decide : 91 < 107) (rfl : hsF 91 = (8, 0)) (by decide) rfl ?_
      refine hw_alen (k := 3) (z := 16) (v := (16 : Int32)) (aX8_init 11 rfl) (by decide : 92 < 107) (rfl : hsF 92 = (103, 16)) (by decide) (by decide) ?_
      refine hw_icge (tgt := 43) (aX8_init 12 rfl) (by decide) (by decide : (14 : Int32).toInt = 14) (by decide : (16 : Int32).toInt = 16) (fun cd => ?_) (fun cd => ?_)
      · exfalso; omega
      refine hw_aloadn (aX8_init 13 rfl) rfl ?_
      refine hw_get (v := .ref (base + 92)) (aX8_init 14 rfl) wf_RX8_13 (by decide : 91 < 107) (rfl : hsF 91 = (8, 0)) (by decide) rfl ?_
      refine xw_iloadn (aX8_init 15 rfl) rfl ?_
      refine cw_new (t := 5) (n2 := 108) (sl2 := 5999) (aX8_init 16 rfl) rfl (tin_1 (i := 36) rfl rfl) (tin_1 (i := 3) rfl rfl) rfl rfl rfl rfl rfl (by decide) (by decide) ?_
      refine xw_dup (aX8_init 17 rfl) rfl ?_
      refine hw_callN (j2 := 58) (Φ2 := fun v s => v = none ∧ s = (108, 5999, hsF, fI [(23, 5, ((-1) : Int32)), (23, 4, ((-1) : Int32)), (21, 3, ((-1) : Int32)), (21, 2, ((-1) : Int32)), (21, 1, ((-1) : Int32)), (21, 0, ((-1) : Int32))], fZ, fR [(92, 13, some 106), (92, 12, some 105), (92, 11, some 104), (92, 10, some 103), (92, 9, some 102), (92, 8, some 101), (92, 7, some 100), (92, 6, some 99), (92, 5, some 98), (92, 4, some 97), (92, 3, some 96), (92, 2, some 95), (92, 1, some 94), (92, 0, some 93), (91, 0, some 92), (0, 1, some 48), (48, 1, some 49), (48, 0, some 23), (48, 4, some 72), (73, 15, some 89), (73, 14, some 88), (73, 13, some 87), (73, 12, some 86), (73, 11, some 85), (73, 10, some 84), (73, 9, some 83), (73, 8, some 82), (73, 7, some 81), (73, 6, some 80), (73, 5, some 79), (73, 4, some 78), (73, 3, some 77), (73, 2, some 76), (73, 1, some 75), (73, 0, some 74), (72, 0, some 73), (48, 3, some 71), (48, 2, some 70), (49, 1, none), (49, 0, some 23), (49, 4, some 52), (53, 15, some 69), (53, 14, some 68), (53, 13, some 67), (53, 12, some 66), (53, 11, some 65), (53, 10, some 64), (53, 9, some 63), (53, 8, some 62), (53, 7, some 61), (53, 6, some 60), (53, 5, some 59), (53, 4, some 58), (53, 3, some 57), (53, 2, some 56), (53, 1, some 55), (53, 0, some 54), (52, 0, some 53), (49, 3, some 51), (49, 2, some 50), (0, 0, some 23), (23, 3, some 43), (23, 2, some 26), (23, 1, some 25), (23, 0, some 24), (0, 11, some 22), (0, 8, some 21), (0, 7, some 20), (0, 6, some 19), (0, 5, some 1), (2, 15, some 18), (2, 14, some 17), (2, 13, some 16), (2, 12, some 15), (2, 11, some 14), (2, 10, some 13), (2, 9, some 12), (2, 8, some 11), (2, 7, some 10), (2, 6, some 9), (2, 5, some 8), (2, 4, some 7), (2, 3, some 6), (2, 2, some 5), (2, 1, some 4), (2, 0, some 3), (1, 0, some 2)])) (Bs := []) (rest := [.ref (base + 107), .int (14 : Int32), .ref (base + 92)]) (aX8_init 18 rfl) wc_RX8_17 (by decide) rfl wi_yX5_init rfl rfl rfl (Nat.le_of_ble_eq_true rfl) (Nat.le_of_ble_eq_true rfl) ?_ (fun v s hv => ?_)
      · refine hw_aloadn (aX5_init 0 rfl) rfl ?_
        refine hw_obj (aX5_init 1 rfl) (tin_1 (i := 42) rfl rfl) (tin_1 (i := 28) rfl rfl) (tin_1 (i := 29) rfl rfl) (Nat.le_of_ble_eq_true rfl) ?_
        refine xw_vret (aX5_init 2 rfl) rfl ?_
        exact ⟨rfl, rfl⟩
      obtain ⟨rfl, rfl⟩ := hv
      show hw sk base _ _ _ _ _ [.ref (base + 107), .int (14 : Int32), .ref (base + 92)] _ _
      refine hv_aast (k := 3) (i2 := 14) (aX8_init 19 rfl) (by decide : 92 < 108) (rfl : hsF 92 = (103, 16)) rfl (by decide) (by decide : 107 < 108) (rfl : hsF 107 = (5, 0)) rfl (h_in (by decide : (14 : Int32).toInt = 14) (by decide) (by decide)) (by decide) (fun F188 u187 => ?_)
      rw [fR_up] at u187; subst u187
      refine xw_iinc (L2 := [(1, .int (15 : Int32)), (0, .ref (base + 91))]) (aX8_init 20 rfl) rfl (by decide) (by rw [show ((14 : Int32) + Int32.ofInt (1)) = (15 : Int32) from by decide]; rfl) ?_
      refine xw_goto (tgt := 15) (aX8_init 21 rfl) (by decide) ?_
      refine xw_iloadn (aX8_init 8 rfl) rfl ?_
      refine hw_aloadn (aX8_init 9 rfl) rfl ?_
      refine hw_get (v := .ref (base + 92)) (aX8_init 10 rfl) wf_RX8_13 (by decide : 91 < 108) (rfl : hsF 91 = (8, 0)) (by decide) rfl ?_
      refine hw_alen (k := 3) (z := 16) (v := (16 : Int32)) (aX8_init 11 rfl) (by decide : 92 < 108) (rfl : hsF 92 = (103, 16)) (by decide) (by decide) ?_
      refine hw_icge (tgt := 43) (aX8_init 12 rfl) (by decide) (by decide : (15 : Int32).toInt = 15) (by decide : (16 : Int32).toInt = 16) (fun cd => ?_) (fun cd => ?_)
      · exfalso; omega
      refine hw_aloadn (aX8_init 13 rfl) rfl ?_
      refine hw_get (v := .ref (base + 92)) (aX8_init 14 rfl) wf_RX8_13 (by decide : 91 < 108) (rfl : hsF 91 = (8, 0)) (by decide) rfl ?_
      refine xw_iloadn (aX8_init 15 rfl) rfl ?_
      refine cw_new (t := 5) (n2 := 109) (sl2 := 6005) (aX8_init 16 rfl) rfl (tin_1 (i := 36) rfl rfl) (tin_1 (i := 3) rfl rfl) rfl rfl rfl rfl rfl (by decide) (by decide) ?_
      refine xw_dup (aX8_init 17 rfl) rfl ?_
      refine hw_callN (j2 := 58) (Φ2 := fun v s => v = none ∧ s = (109, 6005, hsF, fI [(23, 5, ((-1) : Int32)), (23, 4, ((-1) : Int32)), (21, 3, ((-1) : Int32)), (21, 2, ((-1) : Int32)), (21, 1, ((-1) : Int32)), (21, 0, ((-1) : Int32))], fZ, fR [(92, 14, some 107), (92, 13, some 106), (92, 12, some 105), (92, 11, some 104), (92, 10, some 103), (92, 9, some 102), (92, 8, some 101), (92, 7, some 100), (92, 6, some 99), (92, 5, some 98), (92, 4, some 97), (92, 3, some 96), (92, 2, some 95), (92, 1, some 94), (92, 0, some 93), (91, 0, some 92), (0, 1, some 48), (48, 1, some 49), (48, 0, some 23), (48, 4, some 72), (73, 15, some 89), (73, 14, some 88), (73, 13, some 87), (73, 12, some 86), (73, 11, some 85), (73, 10, some 84), (73, 9, some 83), (73, 8, some 82), (73, 7, some 81), (73, 6, some 80), (73, 5, some 79), (73, 4, some 78), (73, 3, some 77), (73, 2, some 76), (73, 1, some 75), (73, 0, some 74), (72, 0, some 73), (48, 3, some 71), (48, 2, some 70), (49, 1, none), (49, 0, some 23), (49, 4, some 52), (53, 15, some 69), (53, 14, some 68), (53, 13, some 67), (53, 12, some 66), (53, 11, some 65), (53, 10, some 64), (53, 9, some 63), (53, 8, some 62), (53, 7, some 61), (53, 6, some 60), (53, 5, some 59), (53, 4, some 58), (53, 3, some 57), (53, 2, some 56), (53, 1, some 55), (53, 0, some 54), (52, 0, some 53), (49, 3, some 51), (49, 2, some 50), (0, 0, some 23), (23, 3, some 43), (23, 2, some 26), (23, 1, some 25), (23, 0, some 24), (0, 11, some 22), (0, 8, some 21), (0, 7, some 20), (0, 6, some 19), (0, 5, some 1), (2, 15, some 18), (2, 14, some 17), (2, 13, some 16), (2, 12, some 15), (2, 11, some 14), (2, 10, some 13), (2, 9, some 12), (2, 8, some 11), (2, 7, some 10), (2, 6, some 9), (2, 5, some 8), (2, 4, some 7), (2, 3, some 6), (2, 2, some 5), (2, 1, some 4), (2, 0, some 3), (1, 0, some 2)])) (Bs := []) (rest := [.ref (base + 108), .int (15 : Int32), .ref (base + 92)]) (aX8_init 18 rfl) wc_RX8_17 (by decide) rfl wi_yX5_init rfl rfl rfl (Nat.le_of_ble_eq_true rfl) (Nat.le_of_ble_eq_true rfl) ?_ (fun v s hv => ?_)
      · refine hw_aloadn (aX5_init 0 rfl) rfl ?_
        refine hw_obj (aX5_init 1 rfl) (tin_1 (i := 42) rfl rfl) (tin_1 (i := 28) rfl rfl) (tin_1 (i := 29) rfl rfl) (Nat.le_of_ble_eq_true rfl) ?_
        refine xw_vret (aX5_init 2 rfl) rfl ?_
        exact ⟨rfl, rfl⟩
      obtain ⟨rfl, rfl⟩ := hv
      show hw sk base _ _ _ _ _ [.ref (base + 108), .int (15 : Int32), .ref (base + 92)] _ _
      refine hv_aast (k := 3) (i2 := 15) (aX8_init 19 rfl) (by decide : 92 < 109) (rfl : hsF 92 = (103, 16)) rfl (by decide) (by decide : 108 < 109) (rfl : hsF 108 = (5, 0)) rfl (h_in (by decide : (15 : Int32).toInt = 15) (by decide) (by decide)) (by decide) (fun F190 u189 => ?_)
      rw [fR_up] at u189; subst u189
      refine xw_iinc (L2 := [(1, .int (16 : Int32)), (0, .ref (base + 91))]) (aX8_init 20 rfl) rfl (by decide) (by rw [show ((15 : Int32) + Int32.ofInt (1)) = (16 : Int32) from by decide]; rfl) ?_
      refine xw_goto (tgt := 15) (aX8_init 21 rfl) (by decide) ?_
      refine xw_iloadn (aX8_init 8 rfl) rfl ?_
      refine hw_aloadn (aX8_init 9 rfl) rfl ?_
      refine hw_get (v := .ref (base + 92)) (aX8_init 10 rfl) wf_RX8_13 (by decide : 91 < 109) (rfl : hsF 91 = (8, 0)) (by decide) rfl ?_
      refine hw_alen (k := 3) (z := 16) (v := (16 : Int32)) (aX8_init 11 rfl) (by decide : 92 < 109) (rfl : hsF 92 = (103, 16)) (by decide) (by decide) ?_
      refine hw_icge (tgt := 43) (aX8_init 12 rfl) (by decide) (by decide : (16 : Int32).toInt = 16) (by decide : (16 : Int32).toInt = 16) (fun cd => ?_) (fun cd => ?_)
      rotate_left; { exfalso; omega }
      refine xw_vret (aX8_init 22 rfl) rfl ?_
      exact ⟨rfl, rfl⟩
    obtain ⟨rfl, rfl⟩ := hv
    show hw sk base _ _ _ _ _ [.ref (base + 91), .ref (base + 90)] _ _
    refine hv_putr (r := some 91) (aX2_init 6 rfl) wf_RX2_12 (by decide : 90 < 109) (rfl : hsF 90 = (2, 0)) (by decide) (by first | exact Or.inl ⟨_, rfl⟩ | exact Or.inr ⟨_, rfl⟩) (Or.inr ⟨rfl, rfl, rfl, wf_RX2_12F⟩) (fun F192 u191 => ?_)
    rw [fR_up] at u191; subst u191
    refine hw_aloadn (aX2_init 7 rfl) rfl ?_
    refine cw_new (t := 5) (n2 := 110) (sl2 := 6011) (aX2_init 8 rfl) rfl (tin_1 (i := 223) rfl rfl) (tin_1 (i := 3) rfl rfl) rfl rfl rfl rfl rfl (by decide) (by decide) ?_
    refine xw_dup (aX2_init 9 rfl) rfl ?_
    refine hw_callN (j2 := 58) (Φ2 := fun v s => v = none ∧ s = (110, 6011, hsF, fI [(23, 5, ((-1) : Int32)), (23, 4, ((-1) : Int32)), (21, 3, ((-1) : Int32)), (21, 2, ((-1) : Int32)), (21, 1, ((-1) : Int32)), (21, 0, ((-1) : Int32))], fZ, fR [(90, 2, some 91), (92, 15, some 108), (92, 14, some 107), (92, 13, some 106), (92, 12, some 105), (92, 11, some 104), (92, 10, some 103), (92, 9, some 102), (92, 8, some 101), (92, 7, some 100), (92, 6, some 99), (92, 5, some 98), (92, 4, some 97), (92, 3, some 96), (92, 2, some 95), (92, 1, some 94), (92, 0, some 93), (91, 0, some 92), (0, 1, some 48), (48, 1, some 49), (48, 0, some 23), (48, 4, some 72), (73, 15, some 89), (73, 14, some 88), (73, 13, some 87), (73, 12, some 86), (73, 11, some 85), (73, 10, some 84), (73, 9, some 83), (73, 8, some 82), (73, 7, some 81), (73, 6, some 80), (73, 5, some 79), (73, 4, some 78), (73, 3, some 77), (73, 2, some 76), (73, 1, some 75), (73, 0, some 74), (72, 0, some 73), (48, 3, some 71), (48, 2, some 70), (49, 1, none), (49, 0, some 23), (49, 4, some 52), (53, 15, some 69), (53, 14, some 68), (53, 13, some 67), (53, 12, some 66), (53, 11, some 65), (53, 10, some 64), (53, 9, some 63), (53, 8, some 62), (53, 7, some 61), (53, 6, some 60), (53, 5, some 59), (53, 4, some 58), (53, 3, some 57), (53, 2, some 56), (53, 1, some 55), (53, 0, some 54), (52, 0, some 53), (49, 3, some 51), (49, 2, some 50), (0, 0, some 23), (23, 3, some 43), (23, 2, some 26), (23, 1, some 25), (23, 0, some 24), (0, 11, some 22), (0, 8, some 21), (0, 7, some 20), (0, 6, some 19), (0, 5, some 1), (2, 15, some 18), (2, 14, some 17), (2, 13, some 16), (2, 12, some 15), (2, 11, some 14), (2, 10, some 13), (2, 9, some 12), (2, 8, some 11), (2, 7, some 10), (2, 6, some 9), (2, 5, some 8), (2, 4, some 7), (2, 3, some 6), (2, 2, some 5), (2, 1, some 4), (2, 0, some 3), (1, 0, some 2)])) (Bs := []) (rest := [.ref (base + 109), .ref (base + 90)]) (aX2_init 10 rfl) wc_RX2_20 (by decide) rfl wi_yX5_init rfl rfl rfl (Nat.le_of_ble_eq_true rfl) (Nat.le_of_ble_eq_true rfl) ?_ (fun v s hv => ?_)
    · refine hw_aloadn (aX5_init 0 rfl) rfl ?_
      refine hw_obj (aX5_init 1 rfl) (tin_1 (i := 42) rfl rfl) (tin_1 (i := 28) rfl rfl) (tin_1 (i := 29) rfl rfl) (Nat.le_of_ble_eq_true rfl) ?_
      refine xw_vret (aX5_init 2 rfl) rfl ?_
      exact ⟨rfl, rfl⟩
    obtain ⟨rfl, rfl⟩ := hv
    show hw sk base _ _ _ _ _ [.ref (base + 109), .ref (base + 90)] _ _
    refine hv_putr (r := some 109) (aX2_init 11 rfl) wf_RX2_21 (by decide : 90 < 110) (rfl : hsF 90 = (2, 0)) (by decide) (by first | exact Or.inl ⟨_, rfl⟩ | exact Or.inr ⟨_, rfl⟩) (Or.inr ⟨rfl, rfl, rfl, wf_RX2_21F⟩) (fun F194 u193 => ?_)
    rw [fR_up] at u193; subst u193
    refine hw_aloadn (aX2_init 12 rfl) rfl ?_
    refine hw_aloadn (aX2_init 13 rfl) rfl ?_
    refine hv_putr (r := some 23) (aX2_init 14 rfl) wf_RX2_25 (by decide : 90 < 110) (rfl : hsF 90 = (2, 0)) (by decide) (by first | exact Or.inl ⟨_, rfl⟩ | exact Or.inr ⟨_, rfl⟩) (Or.inr ⟨rfl, rfl, rfl, wf_RX2_25F⟩) (fun F196 u195 => ?_)
    rw [fR_up] at u195; subst u195
    refine hw_aloadn (aX2_init 15 rfl) rfl ?_
    refine hw_aloadn (aX2_init 16 rfl) rfl ?_
    refine hv_putr (r := some 48) (aX2_init 17 rfl) wf_RX2_29 (by decide : 90 < 110) (rfl : hsF 90 = (2, 0)) (by decide) (by first | exact Or.inl ⟨_, rfl⟩ | exact Or.inr ⟨_, rfl⟩) (Or.inr ⟨rfl, rfl, rfl, wf_RX2_29F⟩) (fun F198 u197 => ?_)
    rw [fR_up] at u197; subst u197
    refine xw_vret (aX2_init 18 rfl) rfl ?_
    exact ⟨rfl, rfl⟩
  obtain ⟨rfl, rfl⟩ := hv
  show hw sk base _ _ _ _ _ [.ref (base + 90), .ref (base + 0)] _ _
  refine hv_putr (r := some 90) (aX11_init 65 rfl) wf_RX11_51 (by decide : 0 < 110) (rfl : hsF 0 = (11, 0)) (by decide) (by first | exact Or.inl ⟨_, rfl⟩ | exact Or.inr ⟨_, rfl⟩) (Or.inr ⟨rfl, rfl, rfl, wf_RX11_51F⟩) (fun F200 u199 => ?_)
  rw [fR_up] at u199; subst u199
  refine hw_aloadn (aX11_init 66 rfl) rfl ?_
  refine cw_new (t := 4) (n2 := 111) (sl2 := 6021) (aX11_init 67 rfl) rfl (tin_2 (i := 2) rfl rfl) (tin_1 (i := 7) rfl rfl) rfl rfl rfl rfl rfl (by decide) (by decide) ?_
  refine xw_dup (aX11_init 68 rfl) rfl ?_
  refine hw_callN (j2 := 35) (Φ2 := fun v s => v = none ∧ s = (119, 10100, hsF, fI [(23, 5, ((-1) : Int32)), (23, 4, ((-1) : Int32)), (21, 3, ((-1) : Int32)), (21, 2, ((-1) : Int32)), (21, 1, ((-1) : Int32)), (21, 0, ((-1) : Int32))], fZ, fR [(110, 2, some 118), (110, 1, some 117), (110, 0, some 111), (111, 5, some 116), (111, 3, some 115), (111, 2, some 114), (111, 1, some 113), (111, 0, some 112), (0, 2, some 90), (90, 1, some 48), (90, 0, some 23), (90, 3, some 109), (90, 2, some 91), (92, 15, some 108), (92, 14, some 107), (92, 13, some 106), (92, 12, some 105), (92, 11, some 104), (92, 10, some 103), (92, 9, some 102), (92, 8, some 101), (92, 7, some 100), (92, 6, some 99), (92, 5, some 98), (92, 4, some 97), (92, 3, some 96), (92, 2, some 95), (92, 1, some 94), (92, 0, some 93), (91, 0, some 92), (0, 1, some 48), (48, 1, some 49), (48, 0, some 23), (48, 4, some 72), (73, 15, some 89), (73, 14, some 88), (73, 13, some 87), (73, 12, some 86), (73, 11, some 85), (73, 10, some 84), (73, 9, some 83), (73, 8, some 82), (73, 7, some 81), (73, 6, some 80), (73, 5, some 79), (73, 4, some 78), (73, 3, some 77), (73, 2, some 76), (73, 1, some 75), (73, 0, some 74), (72, 0, some 73), (48, 3, some 71), (48, 2, some 70), (49, 1, none), (49, 0, some 23), (49, 4, some 52), (53, 15, some 69), (53, 14, some 68), (53, 13, some 67), (53, 12, some 66), (53, 11, some 65), (53, 10, some 64), (53, 9, some 63), (53, 8, some 62), (53, 7, some 61), (53, 6, some 60), (53, 5, some 59), (53, 4, some 58), (53, 3, some 57), (53, 2, some 56), (53, 1, some 55), (53, 0, some 54), (52, 0, some 53), (49, 3, some 51), (49, 2, some 50), (0, 0, some 23), (23, 3, some 43), (23, 2, some 26), (23, 1, some 25), (23, 0, some 24), (0, 11, some 22), (0, 8, some 21), (0, 7, some 20), (0, 6, some 19), (0, 5, some 1), (2, 15, some 18), (2, 14, some 17), (2, 13, some 16), (2, 12, some 15), (2, 11, some 14), (2, 10, some 13), (2, 9, some 12), (2, 8, some 11), (2, 7, some 10), (2, 6, some 9), (2, 5, some 8), (2, 4, some 7), (2, 3, some 6), (2, 2, some 5), (2, 1, some 4), (2, 0, some 3), (1, 0, some 2)])) (Bs := []) (rest := [.ref (base + 110), .ref (base + 0)]) (aX11_init 69 rfl) wc_RX11_57 (by decide) rfl wi_yX4_init rfl rfl rfl (Nat.le_of_ble_eq_true rfl) (Nat.le_of_ble_eq_true rfl) ?_ (fun v s hv => ?_)
  · refine hw_aloadn (aX4_init 0 rfl) rfl ?_
    refine hw_obj (aX4_init 1 rfl) (tin_2 (i := 7) rfl rfl) (tin_1 (i := 28) rfl rfl) (tin_1 (i := 29) rfl rfl) (Nat.le_of_ble_eq_true rfl) ?_
    refine hw_aloadn (aX4_init 2 rfl) rfl ?_
    refine cw_new (t := 7) (n2 := 112) (sl2 := 6032) (aX4_init 3 rfl) rfl (tin_2 (i := 8) rfl rfl) (tin_1 (i := 8) rfl rfl) rfl rfl rfl rfl rfl (by decide) (by decide) ?_
    refine xw_dup (aX4_init 4 rfl) rfl ?_
    refine hw_callN (j2 := 64) (Φ2 := fun v s => v = none ∧ s = (117, 10036, hsF, fI [(23, 5, ((-1) : Int32)), (23, 4, ((-1) : Int32)), (21, 3, ((-1) : Int32)), (21, 2, ((-1) : Int32)), (21, 1, ((-1) : Int32)), (21, 0, ((-1) : Int32))], fZ, fR [(111, 5, some 116), (111, 3, some 115), (111, 2, some 114), (111, 1, some 113), (111, 0, some 112), (0, 2, some 90), (90, 1, some 48), (90, 0, some 23), (90, 3, some 109), (90, 2, some 91), (92, 15, some 108), (92, 14, some 107), (92, 13, some 106), (92, 12, some 105), (92, 11, some 104), (92, 10, some 103), (92, 9, some 102), (92, 8, some 101), (92, 7, some 100), (92, 6, some 99), (92, 5, some 98), (92, 4, some 97), (92, 3, some 96), (92, 2, some 95), (92, 1, some 94), (92, 0, some 93), (91, 0, some 92), (0, 1, some 48), (48, 1, some 49), (48, 0, some 23), (48, 4, some 72), (73, 15, some 89), (73, 14, some 88), (73, 13, some 87), (73, 12, some 86), (73, 11, some 85), (73, 10, some 84), (73, 9, some 83), (73, 8, some 82), (73, 7, some 81), (73, 6, some 80), (73, 5, some 79), (73, 4, some 78), (73, 3, some 77), (73, 2, some 76), (73, 1, some 75), (73, 0, some 74), (72, 0, some 73), (48, 3, some 71), (48, 2, some 70), (49, 1, none), (49, 0, some 23), (49, 4, some 52), (53, 15, some 69), (53, 14, some 68), (53, 13, some 67), (53, 12, some 66), (53, 11, some 65), (53, 10, some 64), (53, 9, some 63), (53, 8, some 62), (53, 7, some 61), (53, 6, some 60), (53, 5, some 59), (53, 4, some 58), (53, 3, some 57), (53, 2, some 56), (53, 1, some 55), (53, 0, some 54), (52, 0, some 53), (49, 3, some 51), (49, 2, some 50), (0, 0, some 23), (23, 3, some 43), (23, 2, some 26), (23, 1, some 25), (23, 0, some 24), (0, 11, some 22), (0, 8, some 21), (0, 7, some 20), (0, 6, some 19), (0, 5, some 1), (2, 15, some 18), (2, 14, some 17), (2, 13, some 16), (2, 12, some 15), (2, 11, some 14), (2, 10, some 13), (2, 9, some 12), (2, 8, some 11), (2, 7, some 10), (2, 6, some 9), (2, 5, some 8), (2, 4, some 7), (2, 3, some 6), (2, 2, some 5), (2, 1, some 4), (2, 0, some 3), (1, 0, some 2)])) (Bs := []) (rest := [.ref (base + 111), .ref (base + 110)]) (aX4_init 5 rfl) wc_RX4_11 (by decide) rfl wi_yX7_init rfl rfl rfl (Nat.le_of_ble_eq_true rfl) (Nat.le_of_ble_eq_true rfl) ?_ (fun v s hv => ?_)
    · refine hw_aloadn (aX7_init 0 rfl) rfl ?_
      refine hw_obj (aX7_init 1 rfl) (tin_2 (i := 13) rfl rfl) (tin_1 (i := 28) rfl rfl) (tin_1 (i := 29) rfl rfl) (Nat.le_of_ble_eq_true rfl) ?_
      refine hw_aloadn (aX7_init 2 rfl) rfl ?_
      refine hw_sp (v := (1001 : Int32)) (aX7_init 3 rfl) (by decide) ?_
      refine cw_newa (k := 0) (z := 1001) (n2 := 113) (sl2 := 7033) (aX7_init 4 rfl) rfl (by decide) (tin_1 (i := 149) rfl rfl) (by decide) (by decide) (by decide) rfl rfl rfl rfl rfl (by decide) (by decide) ?_
      refine hv_putr (r := some 112) (aX7_init 5 rfl) wf_RX7_9 (by decide : 111 < 113) (rfl : hsF 111 = (7, 0)) (by decide) (by first | exact Or.inl ⟨_, rfl⟩ | exact Or.inr ⟨_, rfl⟩) (Or.inr ⟨rfl, rfl, rfl, wf_RX7_9F⟩) (fun F202 u201 => ?_)
      rw [fR_up] at u201; subst u201
      refine hw_aloadn (aX7_init 6 rfl) rfl ?_
      refine hw_sp (v := (1001 : Int32)) (aX7_init 7 rfl) (by decide) ?_
      refine cw_newa (k := 1) (z := 1001) (n2 := 114) (sl2 := 8034) (aX7_init 8 rfl) rfl (by decide) (tin_1 (i := 150) rfl rfl) (by decide) (by decide) (by decide) rfl rfl rfl rfl rfl (by decide) (by decide) ?_
      refine hv_putr (r := some 113) (aX7_init 9 rfl) wf_RX7_15 (by decide : 111 < 114) (rfl : hsF 111 = (7, 0)) (by decide) (by first | exact Or.inl ⟨_, rfl⟩ | exact Or.inr ⟨_, rfl⟩) (Or.inr ⟨rfl, rfl, rfl, wf_RX7_15F⟩) (fun F204 u203 => ?_)
      rw [fR_up] at u203; subst u203
      refine hw_aloadn (aX7_init 10 rfl) rfl ?_
      refine hw_sp (v := (1001 : Int32)) (aX7_init 11 rfl) (by decide) ?_
      refine cw_newa (k := 0) (z := 1001) (n2 := 115) (sl2 := 9035) (aX7_init 12 rfl) rfl (by decide) (tin_1 (i := 149) rfl rfl) (by decide) (by decide) (by decide) rfl rfl rfl rfl rfl (by decide) (by decide) ?_
      refine hv_putr (r := some 114) (aX7_init 13 rfl) wf_RX7_19 (by decide : 111 < 115) (rfl : hsF 111 = (7, 0)) (by decide) (by first | exact Or.inl ⟨_, rfl⟩ | exact Or.inr ⟨_, rfl⟩) (Or.inr ⟨rfl, rfl, rfl, wf_RX7_19F⟩) (fun F206 u205 => ?_)
      rw [fR_up] at u205; subst u205
      refine hw_aloadn (aX7_init 14 rfl) rfl ?_
      refine hw_sp (v := (1001 : Int32)) (aX7_init 15 rfl) (by decide) ?_
      refine cw_newa (k := 0) (z := 1001) (n2 := 116) (sl2 := 10036) (aX7_init 16 rfl) rfl (by decide) (tin_1 (i := 149) rfl rfl) (by decide) (by decide) (by decide) rfl rfl rfl rfl rfl (by decide) (by decide) ?_
      refine hv_putr (r := some 115) (aX7_init 17 rfl) wf_RX7_22 (by decide : 111 < 116) (rfl : hsF 111 = (7, 0)) (by decide) (by first | exact Or.inl ⟨_, rfl⟩ | exact Or.inr ⟨_, rfl⟩) (Or.inr ⟨rfl, rfl, rfl, wf_RX7_22F⟩) (fun F208 u207 => ?_)
      rw [fR_up] at u207; subst u207
      refine hw_aloadn (aX7_init 18 rfl) rfl ?_
      refine hw_ic (v := (0 : Int32)) (aX7_init 19 rfl) (by decide) ?_
      refine cw_newa (k := 0) (z := 0) (n2 := 117) (sl2 := 10036) (aX7_init 20 rfl) rfl (by decide) (tin_1 (i := 149) rfl rfl) (by decide) (by decide) (by decide) rfl rfl rfl rfl rfl (by decide) (by decide) ?_
      refine hv_putr (r := some 116) (aX7_init 21 rfl) wf_RX7_25 (by decide : 111 < 117) (rfl : hsF 111 = (7, 0)) (by decide) (by first | exact Or.inl ⟨_, rfl⟩ | exact Or.inr ⟨_, rfl⟩) (Or.inl rfl) (fun F210 u209 => ?_)
      rw [fR_up] at u209; subst u209
      refine xw_vret (aX7_init 22 rfl) rfl ?_
      exact ⟨rfl, rfl⟩
    obtain ⟨rfl, rfl⟩ := hv
    show hw sk base _ _ _ _ _ [.ref (base + 111), .ref (base + 110)] _ _
    refine hv_putr (r := some 111) (aX4_init 6 rfl) wf_RX4_12 (by decide : 110 < 117) (rfl : hsF 110 = (4, 0)) (by decide) (by first | exact Or.inl ⟨_, rfl⟩ | exact Or.inr ⟨_, rfl⟩) (Or.inr ⟨rfl, rfl, rfl, wf_RX4_12F⟩) (fun F212 u211 => ?_)
    rw [fR_up] at u211; subst u211
    refine hw_aloadn (aX4_init 7 rfl) rfl ?_
    refine hw_bp (v := (64 : Int32)) (aX4_init 8 rfl) (by decide) ?_
    refine cw_newa (k := 0) (z := 64) (n2 := 118) (sl2 := 10100) (aX4_init 9 rfl) rfl (by decide) (tin_1 (i := 149) rfl rfl) (by decide) (by decide) (by decide) rfl rfl rfl rfl rfl (by decide) (by decide) ?_
    refine hv_putr (r := some 117) (aX4_init 10 rfl) wf_RX4_18 (by decide : 110 < 118) (rfl : hsF 110 = (4, 0)) (by decide) (by first | exact Or.inl ⟨_, rfl⟩ | exact Or.inr ⟨_, rfl⟩) (Or.inr ⟨rfl, rfl, rfl, wf_RX4_18F⟩) (fun F214 u213 => ?_)
    rw [fR_up] at u213; subst u213
    refine hw_aloadn (aX4_init 11 rfl) rfl ?_
    refine hw_ic (v := (0 : Int32)) (aX4_init 12 rfl) (by decide) ?_
    refine cw_newq (k := 4) (z := 0) (n2 := 119) (sl2 := 10100) (aX4_init 13 rfl) rfl (by decide) (tin_2 (i := 52) rfl rfl) (nin_1 (i := 87) rfl rfl) (by decide) (by decide) (by decide) rfl rfl rfl rfl rfl (by decide) (by decide) ?_
    refine hv_putr (r := some 118) (aX4_init 14 rfl) wf_RX4_24 (by decide : 110 < 119) (rfl : hsF 110 = (4, 0)) (by decide) (by first | exact Or.inl ⟨_, rfl⟩ | exact Or.inr ⟨_, rfl⟩) (Or.inl rfl) (fun F216 u215 => ?_)
    rw [fR_up] at u215; subst u215
    refine xw_vret (aX4_init 15 rfl) rfl ?_
    exact ⟨rfl, rfl⟩
  obtain ⟨rfl, rfl⟩ := hv
  show hw sk base _ _ _ _ _ [.ref (base + 110), .ref (base + 0)] _ _
  refine hv_putr (r := some 110) (aX11_init 70 rfl) wf_RX11_58 (by decide : 0 < 119) (rfl : hsF 0 = (11, 0)) (by decide) (by first | exact Or.inl ⟨_, rfl⟩ | exact Or.inr ⟨_, rfl⟩) (Or.inr ⟨rfl, rfl, rfl, wf_RX11_58F⟩) (fun F218 u217 => ?_)
  rw [fR_up] at u217; subst u217
  refine hw_aloadn (aX11_init 71 rfl) rfl ?_
  refine cw_new (t := 0) (n2 := 120) (sl2 := 10102) (aX11_init 72 rfl) rfl (tin_2 (i := 88) rfl rfl) (tin_1 (i := 9) rfl rfl) rfl rfl rfl rfl rfl (by decide) (by decide) ?_
  refine xw_dup (aX11_init 73 rfl) rfl ?_
  refine hw_callN (j2 := 1) (Φ2 := fun v s => v = none ∧ s = (121, 10702, hsF, fI [(23, 5, ((-1) : Int32)), (23, 4, ((-1) : Int32)), (21, 3, ((-1) : Int32)), (21, 2, ((-1) : Int32)), (21, 1, ((-1) : Int32)), (21, 0, ((-1) : Int32))], fZ, fR [(119, 0, some 120), (0, 3, some 110), (110, 2, some 118), (110, 1, some 117), (110, 0, some 111), (111, 5, some 116), (111, 3, some 115), (111, 2, some 114), (111, 1, some 113), (111, 0, some 112), (0, 2, some 90), (90, 1, some 48), (90, 0, some 23), (90, 3, some 109), (90, 2, some 91), (92, 15, some 108), (92, 14, some 107), (92, 13, some 106), (92, 12, some 105), (92, 11, some 104), (92, 10, some 103), (92, 9, some 102), (92, 8, some 101), (92, 7, some 100), (92, 6, some 99), (92, 5, some 98), (92, 4, some 97), (92, 3, some 96), (92, 2, some 95), (92, 1, some 94), (92, 0, some 93), (91, 0, some 92), (0, 1, some 48), (48, 1, some 49), (48, 0, some 23), (48, 4, some 72), (73, 15, some 89), (73, 14, some 88), (73, 13, some 87), (73, 12, some 86), (73, 11, some 85), (73, 10, some 84), (73, 9, some 83), (73, 8, some 82), (73, 7, some 81), (73, 6, some 80), (73, 5, some 79), (73, 4, some 78), (73, 3, some 77), (73, 2, some 76), (73, 1, some 75), (73, 0, some 74), (72, 0, some 73), (48, 3, some 71), (48, 2, some 70), (49, 1, none), (49, 0, some 23), (49, 4, some 52), (53, 15, some 69), (53, 14, some 68), (53, 13, some 67), (53, 12, some 66), (53, 11, some 65), (53, 10, some 64), (53, 9, some 63), (53, 8, some 62), (53, 7, some 61), (53, 6, some 60), (53, 5, some 59), (53, 4, some 58), (53, 3, some 57), (53, 2, some 56), (53, 1, some 55), (53, 0, some 54), (52, 0, some 53), (49, 3, some 51), (49, 2, some 50), (0, 0, some 23), (23, 3, some 43), (23, 2, some 26), (23, 1, some 25), (23, 0, some 24), (0, 11, some 22), (0, 8, some 21), (0, 7, some 20), (0, 6, some 19), (0, 5, some 1), (2, 15, some 18), (2, 14, some 17), (2, 13, some 16), (2, 12, some 15), (2, 11, some 14), (2, 10, some 13), (2, 9, some 12), (2, 8, some 11), (2, 7, some 10), (2, 6, some 9), (2, 5, some 8), (2, 4, some 7), (2, 3, some 6), (2, 2, some 5), (2, 1, some 4), (2, 0, some 3), (1, 0, some 2)])) (Bs := []) (rest := [.ref (base + 119), .ref (base + 0)]) (aX11_init 74 rfl) wc_RX11_64 (by decide) rfl wi_yX0_init rfl rfl rfl (Nat.le_of_ble_eq_true rfl) (Nat.le_of_ble_eq_true rfl) ?_ (fun v s hv => ?_)
  · refine hw_aloadn (aX0_init 0 rfl) rfl ?_
    refine hw_obj (aX0_init 1 rfl) (tin_2 (i := 93) rfl rfl) (tin_1 (i := 28) rfl rfl) (tin_1 (i := 29) rfl rfl) (Nat.le_of_ble_eq_true rfl) ?_
    refine hw_aloadn (aX0_init 2 rfl) rfl ?_
    refine hw_sp (v := (600 : Int32)) (aX0_init 3 rfl) (by decide) ?_
    refine cw_newa (k := 0) (z := 600) (n2 := 121) (sl2 := 10702) (aX0_init 4 rfl) rfl (by decide) (tin_1 (i := 149) rfl rfl) (by decide) (by decide) (by decide) rfl rfl rfl rfl rfl (by decide) (by decide) ?_
    refine hv_putr (r := some 120) (aX0_init 5 rfl) wf_RX0_9 (by decide : 119 < 121) (rfl : hsF 119 = (0, 0)) (by decide) (by first | exact Or.inl ⟨_, rfl⟩ | exact Or.inr ⟨_, rfl⟩) (Or.inr ⟨rfl, rfl, rfl, wf_RX0_9F⟩) (fun F220 u219 => ?_)
    rw [fR_up] at u219; subst u219
    refine xw_vret (aX0_init 6 rfl) rfl ?_
    exact ⟨rfl, rfl⟩
  obtain ⟨rfl, rfl⟩ := hv
  show hw sk base _ _ _ _ _ [.ref (base + 119), .ref (base + 0)] _ _
  refine hv_putr (r := some 119) (aX11_init 75 rfl) wf_RX11_65 (by decide : 0 < 121) (rfl : hsF 0 = (11, 0)) (by decide) (by first | exact Or.inl ⟨_, rfl⟩ | exact Or.inr ⟨_, rfl⟩) (Or.inr ⟨rfl, rfl, rfl, wf_RX11_65F⟩) (fun F222 u221 => ?_)
  rw [fR_up] at u221; subst u221
  refine xw_vret (aX11_init 76 rfl) rfl ?_
  exact ⟨rfl, rfl⟩
set_option maxHeartbeats 8000000 in
set_option maxRecDepth 100000 in
theorem ct_model {sk : xK} {base d : Nat} : hw sk base (d + 1) none 152 0 [(0, .ref (base + 121))] [] (122, 10807, hsF, fI [(23, 5, ((-1) : Int32)), (23, 4, ((-1) : Int32)), (21, 3, ((-1) : Int32)), (21, 2, ((-1) : Int32)), (21, 1, ((-1) : Int32)), (21, 0, ((-1) : Int32))], fZ, fR [(0, 4, some 119), (119, 0, some 120), (0, 3, some 110), (110, 2, some 118), (110, 1, some 117), (110, 0, some 111), (111, 5, some 116), (111, 3, some 115), (111, 2, some 114), (111, 1, some 113), (111, 0, some 112), (0, 2, some 90), (90, 1, some 48), (90, 0, some 23), (90, 3, some 109), (90, 2, some 91), (92, 15, some 108), (92, 14, some 107), (92, 13, some 106), (92, 12, some 105), (92, 11, some 104), (92, 10, some 103), (92, 9, some 102), (92, 8, some 101), (92, 7, some 100), (92, 6, some 99), (92, 5, some 98), (92, 4, some 97), (92, 3, some 96), (92, 2, some 95), (92, 1, some 94), (92, 0, some 93), (91, 0, some 92), (0, 1, some 48), (48, 1, some 49), (48, 0, some 23), (48, 4, some 72), (73, 15, some 89), (73, 14, some 88), (73, 13, some 87), (73, 12, some 86), (73, 11, some 85), (73, 10, some 84), (73, 9, some 83), (73, 8, some 82), (73, 7, some 81), (73, 6, some 80), (73, 5, some 79), (73, 4, some 78), (73, 3, some 77), (73, 2, some 76), (73, 1, some 75), (73, 0, some 74), (72, 0, some 73), (48, 3, some 71), (48, 2, some 70), (49, 1, none), (49, 0, some 23), (49, 4, some 52), (53, 15, some 69), (53, 14, some 68), (53, 13, some 67), (53, 12, some 66), (53, 11, some 65), (53, 10, some 64), (53, 9, some 63), (53, 8, some 62), (53, 7, some 61), (53, 6, some 60), (53, 5, some 59), (53, 4, some 58), (53, 3, some 57), (53, 2, some 56), (53, 1, some 55), (53, 0, some 54), (52, 0, some 53), (49, 3, some 51), (49, 2, some 50), (0, 0, some 23), (23, 3, some 43), (23, 2, some 26), (23, 1, some 25), (23, 0, some 24), (0, 11, some 22), (0, 8, some 21), (0, 7, some 20), (0, 6, some 19), (0, 5, some 1), (2, 15, some 18), (2, 14, some 17), (2, 13, some 16), (2, 12, some 15), (2, 11, some 14), (2, 10, some 13), (2, 9, some 12), (2, 8, some 11), (2, 7, some 10), (2, 6, some 9), (2, 5, some 8), (2, 4, some 7), (2, 3, some 6), (2, 2, some 5), (2, 1, some 4), (2, 0, some 3), (1, 0, some 2)]) (fun v s => v = none ∧ s = (176, 61076, hsF, fI [(121, 55, ((-1) : Int32)), (121, 46, (1 : Int32)), (121, 6, ((-1) : Int32)), (121, 5, ((-1) : Int32)), (23, 5, ((-1) : Int32)), (23, 4, ((-1) : Int32)), (21, 3, ((-1) : Int32)), (21, 2, ((-1) : Int32)), (21, 1, ((-1) : Int32)), (21, 0, ((-1) : Int32))], fZ, fR [(121, 103, some 175), (121, 102, some 174), (121, 100, some 173), (121, 99, some 172), (121, 98, some 171), (121, 97, some 170), (121, 96, some 169), (121, 89, some 168), (121, 88, some 167), (121, 87, some 166), (121, 86, some 165), (121, 85, some 164), (121, 84, some 163), (121, 83, some 162), (121, 82, some 161), (121, 81, some 160), (121, 80, some 159), (121, 79, some 158), (121, 77, some 157), (121, 76, some 156), (121, 75, some 155), (121, 72, some 154), (121, 66, some 153), (121, 65, some 152), (121, 64, some 151), (121, 63, some 150), (121, 62, some 149), (121, 60, some 148), (121, 52, some 147), (121, 51, some 146), (121, 50, some 145), (121, 49, some 144), (121, 48, some 143), (121, 45, some 142), (121, 28, some 141), (121, 27, some 140), (121, 26, some 139), (121, 25, some 138), (121, 24, some 137), (121, 23, some 136), (121, 22, some 135), (121, 21, some 134), (121, 20, some 133), (121, 19, some 132), (121, 18, some 131), (121, 17, some 130), (121, 16, some 129), (121, 15, some 128), (121, 14, some 127), (121, 12, some 126), (121, 4, some 125), (121, 3, some 124), (121, 2, some 123), (121, 1, some 122), (0, 4, some 119), (119, 0, some 120), (0, 3, some 110), (110, 2, some 118), (110, 1, some 117), (110, 0, some 111), (111, 5, some 116), (111, 3, some 115), (111, 2, some 114), (111, 1, some 113), (111, 0, some 112), (0, 2, some 90), (90, 1, some 48), (90, 0, some 23), (90, 3, some 109), (90, 2, some 91), (92, 15, some 108), (92, 14, some 107), (92, 13, some 106), (92, 12, some 105), (92, 11, some 104), (92, 10, some 103), (92, 9, some 102), (92, 8, some 101), (92, 7, some 100), (92, 6, some 99), (92, 5, some 98), (92, 4, some 97), (92, 3, some 96), (92, 2, some 95), (92, 1, some 94), (92, 0, some 93), (91, 0, some 92), (0, 1, some 48), (48, 1, some 49), (48, 0, some 23), (48, 4, some 72), (73, 15, some 89), (73, 14, some 88), (73, 13, some 87), (73, 12, some 86), (73, 11, some 85), (73, 10, some 84), (73, 9, some 83), (73, 8, some 82), (73, 7, some 81), (73, 6, some 80), (73, 5, some 79), (73, 4, some 78), (73, 3, some 77), (73, 2, some 76), (73, 1, some 75), (73, 0, some 74), (72, 0, some 73), (48, 3, some 71), (48, 2, some 70), (49, 1, none), (49, 0, some 23), (49, 4, some 52), (53, 15, some 69), (53, 14, some 68), (53, 13, some 67), (53, 12, some 66), (53, 11, some 65), (53, 10, some 64), (53, 9, some 63), (53, 8, some 62), (53, 7, some 61), (53, 6, some 60), (53, 5, some 59), (53, 4, some 58), (53, 3, some 57), (53, 2, some 56), (53, 1, some 55), (53, 0, some 54), (52, 0, some 53), (49, 3, some 51), (49, 2, some 50), (0, 0, some 23), (23, 3, some 43), (23, 2, some 26), (23, 1, some 25), (23, 0, some 24), (0, 11, some 22), (0, 8, some 21), (0, 7, some 20), (0, 6, some 19), (0, 5, some 1), (2, 15, some 18), (2, 14, some 17), (2, 13, some 16), (2, 12, some 15), (2, 11, some 14), (2, 10, some 13), (2, 9, some 12), (2, 8, some 11), (2, 7, some 10), (2, 6, some 9), (2, 5, some 8), (2, 4, some 7), (2, 3, some 6), (2, 2, some 5), (2, 1, some 4), (2, 0, some 3), (1, 0, some 2)])) := by
  refine hw_aloadn (aX12_init 0 rfl) rfl ?_
  refine hw_obj (aX12_init 1 rfl) (tin_6 (i := 49) rfl rfl) (tin_1 (i := 28) rfl rfl) (tin_1 (i := 29) rfl rfl) (Nat.le_of_ble_eq_true rfl) ?_
  refine hw_aloadn (aX12_init 2 rfl) rfl ?_
  refine hw_bp (v := (32 : Int32)) (aX12_init 3 rfl) (by decide) ?_
  refine cw_newa (k := 1) (z := 32) (n2 := 123) (sl2 := 10839) (aX12_init 4 rfl) rfl (by decide) (tin_1 (i := 150) rfl rfl) (by decide) (by decide) (by decide) rfl rfl rfl rfl rfl (by decide) (by decide) ?_
  refine hv_putr (r := some 122) (aX12_init 5 rfl) wf_RX12_7 (by decide : 121 < 123) (rfl : hsF 121 = (12, 0)) (by decide) (by first | exact Or.inl ⟨_, rfl⟩ | exact Or.inr ⟨_, rfl⟩) (Or.inr ⟨rfl, rfl, rfl, wf_RX12_7F⟩) (fun F224 u223 => ?_)
  rw [fR_up] at u223; subst u223
  refine hw_aloadn (aX12_init 6 rfl) rfl ?_
  refine hw_sp (v := (4096 : Int32)) (aX12_init 7 rfl) (by decide) ?_
  refine cw_newa (k := 0) (z := 4096) (n2 := 124) (sl2 := 14935) (aX12_init 8 rfl) rfl (by decide) (tin_1 (i := 149) rfl rfl) (by decide) (by decide) (by decide) rfl rfl rfl rfl rfl (by decide) (by decide) ?_
  refine hv_putr (r := some 123) (aX12_init 9 rfl) wf_RX12_13 (by decide : 121 < 124) (rfl : hsF 121 = (12, 0)) (by decide) (by first | exact Or.inl ⟨_, rfl⟩ | exact Or.inr ⟨_, rfl⟩) (Or.inr ⟨rfl, rfl, rfl, wf_RX12_13F⟩) (fun F226 u225 => ?_)
  rw [fR_up] at u225; subst u225
  refine hw_aloadn (aX12_init 10 rfl) rfl ?_
  refine hw_sp (v := (19200 : Int32)) (aX12_init 11 rfl) (by decide) ?_
  refine cw_newa (k := 0) (z := 19200) (n2 := 125) (sl2 := 34135) (aX12_init 12 rfl) rfl (by decide) (tin_1 (i := 149) rfl rfl) (by decide) (by decide) (by decide) rfl rfl rfl rfl rfl (by decide) (by decide) ?_
  refine hv_putr (r := some 124) (aX12_init 13 rfl) wf_RX12_17 (by decide : 121 < 125) (rfl : hsF 121 = (12, 0)) (by decide) (by first | exact Or.inl ⟨_, rfl⟩ | exact Or.inr ⟨_, rfl⟩) (Or.inr ⟨rfl, rfl, rfl, wf_RX12_17F⟩) (fun F228 u227 => ?_)
  rw [fR_up] at u227; subst u227
  refine hw_aloadn (aX12_init 14 rfl) rfl ?_
  refine hw_bp (v := (32 : Int32)) (aX12_init 15 rfl) (by decide) ?_
  refine cw_newa (k := 0) (z := 32) (n2 := 126) (sl2 := 34167) (aX12_init 16 rfl) rfl (by decide) (tin_1 (i := 149) rfl rfl) (by decide) (by decide) (by decide) rfl rfl rfl rfl rfl (by decide) (by decide) ?_
  refine hv_putr (r := some 125) (aX12_init 17 rfl) wf_RX12_20 (by decide : 121 < 126) (rfl : hsF 121 = (12, 0)) (by decide) (by first | exact Or.inl ⟨_, rfl⟩ | exact Or.inr ⟨_, rfl⟩) (Or.inr ⟨rfl, rfl, rfl, wf_RX12_20F⟩) (fun F230 u229 => ?_)
  rw [fR_up] at u229; subst u229
  refine hw_aloadn (aX12_init 18 rfl) rfl ?_
  refine hw_ic (v := (-1 : Int32)) (aX12_init 19 rfl) (by decide) ?_
  refine hv_puti (aX12_init 20 rfl) wf_RX12_23 (by decide : 121 < 126) (rfl : hsF 121 = (12, 0)) (by decide) rfl rfl (fun F232 u231 => ?_)
  rw [fI_up] at u231; subst u231
  refine hw_aloadn (aX12_init 21 rfl) rfl ?_
  refine hw_ic (v := (-1 : Int32)) (aX12_init 22 rfl) (by decide) ?_
  refine hv_puti (aX12_init 23 rfl) wf_RX12_27 (by decide : 121 < 126) (rfl : hsF 121 = (12, 0)) (by decide) rfl rfl (fun F234 u233 => ?_)
  rw [fI_up] at u233; subst u233
  refine hw_aloadn (aX12_init 24 rfl) rfl ?_
  refine hw_sp (v := (1000 : Int32)) (aX12_init 25 rfl) (by decide) ?_
  refine cw_newa (k := 0) (z := 1000) (n2 := 127) (sl2 := 35167) (aX12_init 26 rfl) rfl (by decide) (tin_1 (i := 149) rfl rfl) (by decide) (by decide) (by decide) rfl rfl rfl rfl rfl (by decide) (by decide) ?_
  refine hv_putr (r := some 126) (aX12_init 27 rfl) wf_RX12_30 (by decide : 121 < 127) (rfl : hsF 121 = (12, 0)) (by decide) (by first | exact Or.inl ⟨_, rfl⟩ | exact Or.inr ⟨_, rfl⟩) (Or.inr ⟨rfl, rfl, rfl, wf_RX12_30F⟩) (fun F236 u235 => ?_)
  rw [fR_up] at u235; subst u235
  refine hw_aloadn (aX12_init 28 rfl) rfl ?_
  refine hw_sp (v := (256 : Int32)) (aX12_init 29 rfl) (by decide) ?_
  refine cw_newa (k := 1) (z := 256) (n2 := 128) (sl2 := 35423) (aX12_init 30 rfl) rfl (by decide) (tin_1 (i := 150) rfl rfl) (by decide) (by decide) (by decide) rfl rfl rfl rfl rfl (by decide) (by decide) ?_
  refine hv_putr (r := some 127) (aX12_init 31 rfl) wf_RX12_33 (by decide : 121 < 128) (rfl : hsF 121 = (12, 0)) (by decide) (by first | exact Or.inl ⟨_, rfl⟩ | exact Or.inr ⟨_, rfl⟩) (Or.inr ⟨rfl, rfl, rfl, wf_RX12_33F⟩) (fun F238 u237 => ?_)
  rw [fR_up] at u237; subst u237
  refine hw_aloadn (aX12_init 32 rfl) rfl ?_
  refine hw_ic (v := (2 : Int32)) (aX12_init 33 rfl) (by decide) ?_
  refine cw_newa (k := 0) (z := 2) (n2 := 129) (sl2 := 35425) (aX12_init 34 rfl) rfl (by decide) (tin_1 (i := 149) rfl rfl) (by decide) (by decide) (by decide) rfl rfl rfl rfl rfl (by decide) (by decide) ?_
  refine hv_putr (r := some 128) (aX12_init 35 rfl) wf_RX12_36 (by decide : 121 < 129) (rfl : hsF 121 = (12, 0)) (by decide) (by first | exact Or.inl ⟨_, rfl⟩ | exact Or.inr ⟨_, rfl⟩) (Or.inr ⟨rfl, rfl, rfl, wf_RX12_36F⟩) (fun F240 u239 => ?_)
  rw [fR_up] at u239; subst u239
  refine hw_aloadn (aX12_init 36 rfl) rfl ?_
  refine hw_ic (v := (2 : Int32)) (aX12_init 37 rfl) (by decide) ?_
  refine cw_newa (k := 0) (z := 2) (n2 := 130) (sl2 := 35427) (aX12_init 38 rfl) rfl (by decide) (tin_1 (i := 149) rfl rfl) (by decide) (by decide) (by decide) rfl rfl rfl rfl rfl (by decide) (by decide) ?_
  refine hv_putr (r := some 129) (aX12_init 39 rfl) wf_RX12_39 (by decide : 121 < 130) (rfl : hsF 121 = (12, 0)) (by decide) (by first | exact Or.inl ⟨_, rfl⟩ | exact Or.inr ⟨_, rfl⟩) (Or.inr ⟨rfl, rfl, rfl, wf_RX12_39F⟩) (fun F242 u241 => ?_)
  rw [fR_up] at u241; subst u241
  refine hw_aloadn (aX12_init 40 rfl) rfl ?_
  refine hw_bp (v := (32 : Int32)) (aX12_init 41 rfl) (by decide) ?_
  refine cw_newa (k := 0) (z := 32) (n2 := 131) (sl2 := 35459) (aX12_init 42 rfl) rfl (by decide) (tin_1 (i := 149) rfl rfl) (by decide) (by decide) (by decide) rfl rfl rfl rfl rfl (by decide) (by decide) ?_
  refine hv_putr (r := some 130) (aX12_init 43 rfl) wf_RX12_42 (by decide : 121 < 131) (rfl : hsF 121 = (12, 0)) (by decide) (by first | exact Or.inl ⟨_, rfl⟩ | exact Or.inr ⟨_, rfl⟩) (Or.inr ⟨rfl, rfl, rfl, wf_RX12_42F⟩) (fun F244 u243 => ?_)
  rw [fR_up] at u243; subst u243
  refine hw_aloadn (aX12_init 44 rfl) rfl ?_
  refine hw_bp (v := (32 : Int32)) (aX12_init 45 rfl) (by decide) ?_
  refine cw_newa (k := 1) (z := 32) (n2 := 132) (sl2 := 35491) (aX12_init 46 rfl) rfl (by decide) (tin_1 (i := 150) rfl rfl) (by decide) (by decide) (by decide) rfl rfl rfl rfl rfl (by decide) (by decide) ?_
  refine hv_putr (r := some 131) (aX12_init 47 rfl) wf_RX12_45 (by decide : 121 < 132) (rfl : hsF 121 = (12, 0)) (by decide) (by first | exact Or.inl ⟨_, rfl⟩ | exact Or.inr ⟨_, rfl⟩) (Or.inr ⟨rfl, rfl, rfl, wf_RX12_45F⟩) (fun F246 u245 => ?_)
  rw [fR_up] at u245; subst u245
  refine hw_aloadn (aX12_init 48 rfl) rfl ?_
  refine hw_bp (v := (32 : Int32)) (aX12_init 49 rfl) (by decide) ?_
  refine cw_newa (k := 0) (z := 32) (n2 := 133) (sl2 := 35523) (aX12_init 50 rfl) rfl (by decide) (tin_1 (i := 149) rfl rfl) (by decide) (by decide) (by decide) rfl rfl rfl rfl rfl (by decide) (by decide) ?_
  refine hv_putr (r := some 132) (aX12_init 51 rfl) wf_RX12_48 (by decide : 121 < 133) (rfl : hsF 121 = (12, 0)) (by decide) (by first | exact Or.inl ⟨_, rfl⟩ | exact Or.inr ⟨_, rfl⟩) (Or.inr ⟨rfl, rfl, rfl, wf_RX12_48F⟩) (fun F248 u247 => ?_)
  rw [fR_up] at u247; subst u247
  refine hw_aloadn (aX12_init 52 rfl) rfl ?_
  refine hw_bp (v := (32 : Int32)) (aX12_init 53 rfl) (by decide) ?_
  refine cw_newa (k := 0) (z := 32) (n2 := 134) (sl2 := 35555) (aX12_init 54 rfl) rfl (by decide) (tin_1 (i := 149) rfl rfl) (by decide) (by decide) (by decide) rfl rfl rfl rfl rfl (by decide) (by decide) ?_
  refine hv_putr (r := some 133) (aX12_init 55 rfl) wf_RX12_51 (by decide : 121 < 134) (rfl : hsF 121 = (12, 0)) (by decide) (by first | exact Or.inl ⟨_, rfl⟩ | exact Or.inr ⟨_, rfl⟩) (Or.inr ⟨rfl, rfl, rfl, wf_RX12_51F⟩) (fun F250 u249 => ?_)
  rw [fR_up] at u249; subst u249
  refine hw_aloadn (aX12_init 56 rfl) rfl ?_
  refine hw_bp (v := (32 : Int32)) (aX12_init 57 rfl) (by decide) ?_
  refine cw_newa (k := 0) (z := 32) (n2 := 135) (sl2 := 35587) (aX12_init 58 rfl) rfl (by decide) (tin_1 (i := 149) rfl rfl) (by decide) (by decide) (by decide) rfl rfl rfl rfl rfl (by decide) (by decide) ?_
  refine hv_putr (r := some 134) (aX12_init 59 rfl) wf_RX12_54 (by decide : 121 < 135) (rfl : hsF 121 = (12, 0)) (by decide) (by first | exact Or.inl ⟨_, rfl⟩ | exact Or.inr ⟨_, rfl⟩) (Or.inr ⟨rfl, rfl, rfl, wf_RX12_54F⟩) (fun F252 u251 => ?_)
  rw [fR_up] at u251; subst u251
  refine hw_aloadn (aX12_init 60 rfl) rfl ?_
  refine hw_ic (v := (2 : Int32)) (aX12_init 61 rfl) (by decide) ?_
  refine cw_newa (k := 0) (z := 2) (n2 := 136) (sl2 := 35589) (aX12_init 62 rfl) rfl (by decide) (tin_1 (i := 149) rfl rfl) (by decide) (by decide) (by decide) rfl rfl rfl rfl rfl (by decide) (by decide) ?_
  refine hv_putr (r := some 135) (aX12_init 63 rfl) wf_RX12_57 (by decide : 121 < 136) (rfl : hsF 121 = (12, 0)) (by decide) (by first | exact Or.inl ⟨_, rfl⟩ | exact Or.inr ⟨_, rfl⟩) (Or.inr ⟨rfl, rfl, rfl, wf_RX12_57F⟩) (fun F254 u253 => ?_)
  rw [fR_up] at u253; subst u253
  refine hw_aloadn (aX12_init 64 rfl) rfl ?_
  refine hw_ic (v := (2 : Int32)) (aX12_init 65 rfl) (by decide) ?_
  refine cw_newa (k := 0) (z := 2) (n2 := 137) (sl2 := 35591) (aX12_init 66 rfl) rfl (by decide) (tin_1 (i := 149) rfl rfl) (by decide) (by decide) (by decide) rfl rfl rfl rfl rfl (by decide) (by decide) ?_
  refine hv_putr (r := some 136) (aX12_init 67 rfl) wf_RX12_60 (by decide : 121 < 137) (rfl : hsF 121 = (12, 0)) (by decide) (by first | exact Or.inl ⟨_, rfl⟩ | exact Or.inr ⟨_, rfl⟩) (Or.inr ⟨rfl, rfl, rfl, wf_RX12_60F⟩) (fun F256 u255 => ?_)
  rw [fR_up] at u255; subst u255
  refine hw_aloadn (aX12_init 68 rfl) rfl ?_
  refine hw_ic (v := (2 : Int32)) (aX12_init 69 rfl) (by decide) ?_
  refine cw_newa (k := 1) (z := 2) (n2 := 138) (sl2 := 35593) (aX12_init 70 rfl) rfl (by decide) (tin_1 (i := 150) rfl rfl) (by decide) (by decide) (by decide) rfl rfl rfl rfl rfl (by decide) (by decide) ?_
  refine hv_putr (r := some 137) (aX12_init 71 rfl) wf_RX12_63 (by decide : 121 < 138) (rfl : hsF 121 = (12, 0)) (by decide) (by first | exact Or.inl ⟨_, rfl⟩ | exact Or.inr ⟨_, rfl⟩) (Or.inr ⟨rfl, rfl, rfl, wf_RX12_63F⟩) (fun F258 u257 => ?_)
  rw [fR_up] at u257; subst u257
  refine hw_aloadn (aX12_init 72 rfl) rfl ?_
  refine hw_ic (v := (2 : Int32)) (aX12_init 73 rfl) (by decide) ?_
  refine cw_newa (k := 0) (z := 2) (n2 := 139) (sl2 := 35595) (aX12_init 74 rfl) rfl (by decide) (tin_1 (i := 149) rfl rfl) (by decide) (by decide) (by decide) rfl rfl rfl rfl rfl (by decide) (by decide) ?_
  refine hv_putr (r := some 138) (aX12_init 75 rfl) wf_RX12_66 (by decide : 121 < 139) (rfl : hsF 121 = (12, 0)) (by decide) (by first | exact Or.inl ⟨_, rfl⟩ | exact Or.inr ⟨_, rfl⟩) (Or.inr ⟨rfl, rfl, rfl, wf_RX12_66F⟩) (fun F260 u259 => ?_)
  rw [fR_up] at u259; subst u259
  refine hw_aloadn (aX12_init 76 rfl) rfl ?_
  refine hw_bp (v := (16 : Int32)) (aX12_init 77 rfl) (by decide) ?_
  refine cw_newa (k := 0) (z := 16) (n2 := 140) (sl2 := 35611) (aX12_init 78 rfl) rfl (by decide) (tin_1 (i := 149) rfl rfl) (by decide) (by decide) (by decide) rfl rfl rfl rfl rfl (by decide) (by decide) ?_
  refine hv_putr (r := some 139) (aX12_init 79 rfl) wf_RX12_69 (by decide : 121 < 140) (rfl : hsF 121 = (12, 0)) (by decide) (by first | exact Or.inl ⟨_, rfl⟩ | exact Or.inr ⟨_, rfl⟩) (Or.inr ⟨rfl, rfl, rfl, wf_RX12_69F⟩) (fun F262 u261 => ?_)
  rw [fR_up] at u261; subst u261
  refine hw_aloadn (aX12_init 80 rfl) rfl ?_
  refine hw_bp (v := (16 : Int32)) (aX12_init 81 rfl) (by decide) ?_
  refine cw_newa (k := 0) (z := 16) (n2 := 141) (sl2 := 35627) (aX12_init 82 rfl) rfl (by decide) (tin_1 (i := 149) rfl rfl) (by decide) (by decide) (by decide) rfl rfl rfl rfl rfl (by decide) (by decide) ?_
  refine hv_putr (r := some 140) (aX12_init 83 rfl) wf_RX12_72 (by decide : 121 < 141) (rfl : hsF 121 = (12, 0)) (by decide) (by first | exact Or.inl ⟨_, rfl⟩ | exact Or.inr ⟨_, rfl⟩) (Or.inr ⟨rfl, rfl, rfl, wf_RX12_72F⟩) (fun F264 u263 => ?_)
  rw [fR_up] at u263; subst u263
  refine hw_aloadn (aX12_init 84 rfl) rfl ?_
  refine hw_bp (v := (16 : Int32)) (aX12_init 85 rfl) (by decide) ?_
  refine cw_newa (k := 0) (z := 16) (n2 := 142) (sl2 := 35643) (aX12_init 86 rfl) rfl (by decide) (tin_1 (i := 149) rfl rfl) (by decide) (by decide) (by decide) rfl rfl rfl rfl rfl (by decide) (by decide) ?_
  refine hv_putr (r := some 141) (aX12_init 87 rfl) wf_RX12_75 (by decide : 121 < 142) (rfl : hsF 121 = (12, 0)) (by decide) (by first | exact Or.inl ⟨_, rfl⟩ | exact Or.inr ⟨_, rfl⟩) (Or.inr ⟨rfl, rfl, rfl, wf_RX12_75F⟩) (fun F266 u265 => ?_)
  rw [fR_up] at u265; subst u265
  refine hw_aloadn (aX12_init 88 rfl) rfl ?_
  refine hw_ic (v := (2 : Int32)) (aX12_init 89 rfl) (by decide) ?_
  refine cw_newa (k := 0) (z := 2) (n2 := 143) (sl2 := 35645) (aX12_init 90 rfl) rfl (by decide) (tin_1 (i := 149) rfl rfl) (by decide) (by decide) (by decide) rfl rfl rfl rfl rfl (by decide) (by decide) ?_
  refine hv_putr (r := some 142) (aX12_init 91 rfl) wf_RX12_78 (by decide : 121 < 143) (rfl : hsF 121 = (12, 0)) (by decide) (by first | exact Or.inl ⟨_, rfl⟩ | exact Or.inr ⟨_, rfl⟩) (Or.inr ⟨rfl, rfl, rfl, wf_RX12_78F⟩) (fun F268 u267 => ?_)
  rw [fR_up] at u267; subst u267
  refine hw_aloadn (aX12_init 92 rfl) rfl ?_
  refine hw_ic (v := (1 : Int32)) (aX12_init 93 rfl) (by decide) ?_
  refine hv_puti (aX12_init 94 rfl) wf_RX12_81 (by decide : 121 < 143) (rfl : hsF 121 = (12, 0)) (by decide) rfl rfl (fun F270 u269 => ?_)
  rw [fI_up] at u269; subst u269
  refine hw_aloadn (aX12_init 95 rfl) rfl ?_
  refine hw_bp (v := (16 : Int32)) (aX12_init 96 rfl) (by decide) ?_
  refine cw_newa (k := 0) (z := 16) (n2 := 144) (sl2 := 35661) (aX12_init 97 rfl) rfl (by decide) (tin_1 (i := 149) rfl rfl) (by decide) (by decide) (by decide) rfl rfl rfl rfl rfl (by decide) (by decide) ?_
  refine hv_putr (r := some 143) (aX12_init 98 rfl) wf_RX12_84 (by decide : 121 < 144) (rfl : hsF 121 = (12, 0)) (by decide) (by first | exact Or.inl ⟨_, rfl⟩ | exact Or.inr ⟨_, rfl⟩) (Or.inr ⟨rfl, rfl, rfl, wf_RX12_84F⟩) (fun F272 u271 => ?_)
  rw [fR_up] at u271; subst u271
  refine hw_aloadn (aX12_init 99 rfl) rfl ?_
  refine hw_bp (v := (16 : Int32)) (aX12_init 100 rfl) (by decide) ?_
  refine cw_newa (k := 1) (z := 16) (n2 := 145) (sl2 := 35677) (aX12_init 101 rfl) rfl (by decide) (tin_1 (i := 150) rfl rfl) (by decide) (by decide) (by decide) rfl rfl rfl rfl rfl (by decide) (by decide) ?_
  refine hv_putr (r := some 144) (aX12_init 102 rfl) wf_RX12_87 (by decide : 121 < 145) (rfl : hsF 121 = (12, 0)) (by decide) (by first | exact Or.inl ⟨_, rfl⟩ | exact Or.inr ⟨_, rfl⟩) (Or.inr ⟨rfl, rfl, rfl, wf_RX12_87F⟩) (fun F274 u273 => ?_)
  rw [fR_up] at u273; subst u273
  refine hw_aloadn (aX12_init 103 rfl) rfl ?_
  refine hw_bp (v := (16 : Int32)) (aX12_init 104 rfl) (by decide) ?_
  refine cw_newa (k := 0) (z := 16) (n2 := 146) (sl2 := 35693) (aX12_init 105 rfl) rfl (by decide) (tin_1 (i := 149) rfl rfl) (by decide) (by decide) (by decide) rfl rfl rfl rfl rfl (by decide) (by decide) ?_
  refine hv_putr (r := some 145) (aX12_init 106 rfl) wf_RX12_90 (by decide : 121 < 146) (rfl : hsF 121 = (12, 0)) (by decide) (by first | exact Or.inl ⟨_, rfl⟩ | exact Or.inr ⟨_, rfl⟩) (Or.inr ⟨rfl, rfl, rfl, wf_RX12_90F⟩) (fun F276 u275 => ?_)
  rw [fR_up] at u275; subst u275
  refine hw_aloadn (aX12_init 107 rfl) rfl ?_
  refine hw_bp (v := (16 : Int32)) (aX12_init 108 rfl) (by decide) ?_
  refine cw_newa (k := 0) (z := 16) (n2 := 147) (sl2 := 35709) (aX12_init 109 rfl) rfl (by decide) (tin_1 (i := 149) rfl rfl) (by decide) (by decide) (by decide) rfl rfl rfl rfl rfl (by decide) (by decide) ?_
  refine hv_putr (r := some 146) (aX12_init 110 rfl) wf_RX12_93 (by decide : 121 < 147) (rfl : hsF 121 = (12, 0)) (by decide) (by first | exact Or.inl ⟨_, rfl⟩ | exact Or.inr ⟨_, rfl⟩) (Or.inr ⟨rfl, rfl, rfl, wf_RX12_93F⟩) (fun F278 u277 => ?_)
  rw [fR_up] at u277; subst u277
  refine hw_aloadn (aX12_init 111 rfl) rfl ?_
  refine hw_sp (v := (9600 : Int32)) (aX12_init 112 rfl) (by decide) ?_
  refine cw_newa (k := 0) (z := 9600) (n2 := 148) (sl2 := 45309) (aX12_init 113 rfl) rfl (by decide) (tin_1 (i := 149) rfl rfl) (by decide) (by decide) (by decide) rfl rfl rfl rfl rfl (by decide) (by decide) ?_
  refine hv_putr (r := some 147) (aX12_init 114 rfl) wf_RX12_96 (by decide : 121 < 148) (rfl : hsF 121 = (12, 0)) (by decide) (by first | exact Or.inl ⟨_, rfl⟩ | exact Or.inr ⟨_, rfl⟩) (Or.inr ⟨rfl, rfl, rfl, wf_RX12_96F⟩) (fun F280 u279 => ?_)
  rw [fR_up] at u279; subst u279
  refine hw_aloadn (aX12_init 115 rfl) rfl ?_
  refine hw_ic (v := (-1 : Int32)) (aX12_init 116 rfl) (by decide) ?_
  refine hv_puti (aX12_init 117 rfl) wf_RX12_99 (by decide : 121 < 148) (rfl : hsF 121 = (12, 0)) (by decide) rfl rfl (fun F282 u281 => ?_)
  rw [fI_up] at u281; subst u281
  refine hw_aloadn (aX12_init 118 rfl) rfl ?_
  refine hw_bp (v := (64 : Int32)) (aX12_init 119 rfl) (by decide) ?_
  refine cw_newa (k := 0) (z := 64) (n2 := 149) (sl2 := 45373) (aX12_init 120 rfl) rfl (by decide) (tin_1 (i := 149) rfl rfl) (by decide) (by decide) (by decide) rfl rfl rfl rfl rfl (by decide) (by decide) ?_
  refine hv_putr (r := some 148) (aX12_init 121 rfl) wf_RX12_102 (by decide : 121 < 149) (rfl : hsF 121 = (12, 0)) (by decide) (by first | exact Or.inl ⟨_, rfl⟩ | exact Or.inr ⟨_, rfl⟩) (Or.inr ⟨rfl, rfl, rfl, wf_RX12_102F⟩) (fun F284 u283 => ?_)
  rw [fR_up] at u283; subst u283
  refine hw_aloadn (aX12_init 122 rfl) rfl ?_
  refine hw_sp (v := (1002 : Int32)) (aX12_init 123 rfl) (by decide) ?_
  refine cw_newa (k := 0) (z := 1002) (n2 := 150) (sl2 := 46375) (aX12_init 124 rfl) rfl (by decide) (tin_1 (i := 149) rfl rfl) (by decide) (by decide) (by decide) rfl rfl rfl rfl rfl (by decide) (by decide) ?_
  refine hv_putr (r := some 149) (aX12_init 125 rfl) wf_RX12_105 (by decide : 121 < 150) (rfl : hsF 121 = (12, 0)) (by decide) (by first | exact Or.inl ⟨_, rfl⟩ | exact Or.inr ⟨_, rfl⟩) (Or.inr ⟨rfl, rfl, rfl, wf_RX12_105F⟩) (fun F286 u285 => ?_)
  rw [fR_up] at u285; subst u285
  refine hw_aloadn (aX12_init 126 rfl) rfl ?_
  refine hw_sp (v := (1002 : Int32)) (aX12_init 127 rfl) (by decide) ?_
  refine cw_newa (k := 1) (z := 1002) (n2 := 151) (sl2 := 47377) (aX12_init 128 rfl) rfl (by decide) (tin_1 (i := 150) rfl rfl) (by decide) (by decide) (by decide) rfl rfl rfl rfl rfl (by decide) (by decide) ?_
  refine hv_putr (r := some 150) (aX12_init 129 rfl) wf_RX12_108 (by decide : 121 < 151) (rfl : hsF 121 = (12, 0)) (by decide) (by first | exact Or.inl ⟨_, rfl⟩ | exact Or.inr ⟨_, rfl⟩) (Or.inr ⟨rfl, rfl, rfl, wf_RX12_108F⟩) (fun F288 u287 => ?_)
  rw [fR_up] at u287; subst u287
  refine hw_aloadn (aX12_init 130 rfl) rfl ?_
  refine hw_sp (v := (1002 : Int32)) (aX12_init 131 rfl) (by decide) ?_
  refine cw_newa (k := 0) (z := 1002) (n2 := 152) (sl2 := 48379) (aX12_init 132 rfl) rfl (by decide) (tin_1 (i := 149) rfl rfl) (by decide) (by decide) (by decide) rfl rfl rfl rfl rfl (by decide) (by decide) ?_
  refine hv_putr (r := some 151) (aX12_init 133 rfl) wf_RX12_111 (by decide : 121 < 152) (rfl : hsF 121 = (12, 0)) (by decide) (by first | exact Or.inl ⟨_, rfl⟩ | exact Or.inr ⟨_, rfl⟩) (Or.inr ⟨rfl, rfl, rfl, wf_RX12_111F⟩) (fun F290 u289 => ?_)
  rw [fR_up] at u289; subst u289
  refine hw_aloadn (aX12_init 134 rfl) rfl ?_
  refine hw_sp (v := (1002 : Int32)) (aX12_init 135 rfl) (by decide) ?_
  refine cw_newa (k := 0) (z := 1002) (n2 := 153) (sl2 := 49381) (aX12_init 136 rfl) rfl (by decide) (tin_1 (i := 149) rfl rfl) (by decide) (by decide) (by decide) rfl rfl rfl rfl rfl (by decide) (by decide) ?_
  refine hv_putr (r := some 152) (aX12_init 137 rfl) wf_RX12_114 (by decide : 121 < 153) (rfl : hsF 121 = (12, 0)) (by decide) (by first | exact Or.inl ⟨_, rfl⟩ | exact Or.inr ⟨_, rfl⟩) (Or.inr ⟨rfl, rfl, rfl, wf_RX12_114F⟩) (fun F292 u291 => ?_)
  rw [fR_up] at u291; subst u291
  refine hw_aloadn (aX12_init 138 rfl) rfl ?_
  refine hw_sp (v := (1002 : Int32)) (aX12_init 139 rfl) (by decide) ?_
  refine cw_newa (k := 1) (z := 1002) (n2 := 154) (sl2 := 50383) (aX12_init 140 rfl) rfl (by decide) (tin_1 (i := 150) rfl rfl) (by decide) (by decide) (by decide) rfl rfl rfl rfl rfl (by decide) (by decide) ?_
  refine hv_putr (r := some 153) (aX12_init 141 rfl) wf_RX12_117 (by decide : 121 < 154) (rfl : hsF 121 = (12, 0)) (by decide) (by first | exact Or.inl ⟨_, rfl⟩ | exact Or.inr ⟨_, rfl⟩) (Or.inr ⟨rfl, rfl, rfl, wf_RX12_117F⟩) (fun F294 u293 => ?_)
  rw [fR_up] at u293; subst u293
  refine hw_aloadn (aX12_init 142 rfl) rfl ?_
  refine hw_sp (v := (4000 : Int32)) (aX12_init 143 rfl) (by decide) ?_
  refine cw_newa (k := 0) (z := 4000) (n2 := 155) (sl2 := 54383) (aX12_init 144 rfl) rfl (by decide) (tin_1 (i := 149) rfl rfl) (by decide) (by decide) (by decide) rfl rfl rfl rfl rfl (by decide) (by decide) ?_
  refine hv_putr (r := some 154) (aX12_init 145 rfl) wf_RX12_120 (by decide : 121 < 155) (rfl : hsF 121 = (12, 0)) (by decide) (by first | exact Or.inl ⟨_, rfl⟩ | exact Or.inr ⟨_, rfl⟩) (Or.inr ⟨rfl, rfl, rfl, wf_RX12_120F⟩) (fun F296 u295 => ?_)
  rw [fR_up] at u295; subst u295
  refine hw_aloadn (aX12_init 146 rfl) rfl ?_
  refine hw_bp (v := (12 : Int32)) (aX12_init 147 rfl) (by decide) ?_
  refine cw_newa (k := 1) (z := 12) (n2 := 156) (sl2 := 54395) (aX12_init 148 rfl) rfl (by decide) (tin_1 (i := 150) rfl rfl) (by decide) (by decide) (by decide) rfl rfl rfl rfl rfl (by decide) (by decide) ?_
  refine hv_putr (r := some 155) (aX12_init 149 rfl) wf_RX12_123 (by decide : 121 < 156) (rfl : hsF 121 = (12, 0)) (by decide) (by first | exact Or.inl ⟨_, rfl⟩ | exact Or.inr ⟨_, rfl⟩) (Or.inr ⟨rfl, rfl, rfl, wf_RX12_123F⟩) (fun F298 u297 => ?_)
  rw [fR_up] at u297; subst u297
  refine hw_aloadn (aX12_init 150 rfl) rfl ?_
  refine hw_bp (v := (12 : Int32)) (aX12_init 151 rfl) (by decide) ?_
  refine cw_newa (k := 0) (z := 12) (n2 := 157) (sl2 := 54407) (aX12_init 152 rfl) rfl (by decide) (tin_1 (i := 149) rfl rfl) (by decide) (by decide) (by decide) rfl rfl rfl rfl rfl (by decide) (by decide) ?_
  refine hv_putr (r := some 156) (aX12_init 153 rfl) wf_RX12_126 (by decide : 121 < 157) (rfl : hsF 121 = (12, 0)) (by decide) (by first | exact Or.inl ⟨_, rfl⟩ | exact Or.inr ⟨_, rfl⟩) (Or.inr ⟨rfl, rfl, rfl, wf_RX12_126F⟩) (fun F300 u299 => ?_)
  rw [fR_up] at u299; subst u299
  refine hw_aloadn (aX12_init 154 rfl) rfl ?_
  refine hw_bp (v := (12 : Int32)) (aX12_init 155 rfl) (by decide) ?_
  refine cw_newa (k := 0) (z := 12) (n2 := 158) (sl2 := 54419) (aX12_init 156 rfl) rfl (by decide) (tin_1 (i := 149) rfl rfl) (by decide) (by decide) (by decide) rfl rfl rfl rfl rfl (by decide) (by decide) ?_
  refine hv_putr (r := some 157) (aX12_init 157 rfl) wf_RX12_129 (by decide : 121 < 158) (rfl : hsF 121 = (12, 0)) (by decide) (by first | exact Or.inl ⟨_, rfl⟩ | exact Or.inr ⟨_, rfl⟩) (Or.inr ⟨rfl, rfl, rfl, wf_RX12_129F⟩) (fun F302 u301 => ?_)
  rw [fR_up] at u301; subst u301
  refine hw_aloadn (aX12_init 158 rfl) rfl ?_
  refine hw_bp (v := (12 : Int32)) (aX12_init 159 rfl) (by decide) ?_
  refine cw_newa (k := 1) (z := 12) (n2 := 159) (sl2 := 54431) (aX12_init 160 rfl) rfl (by decide) (tin_1 (i := 150) rfl rfl) (by decide) (by decide) (by decide) rfl rfl rfl rfl rfl (by decide) (by decide) ?_
  refine hv_putr (r := some 158) (aX12_init 161 rfl) wf_RX12_132 (by decide : 121 < 159) (rfl : hsF 121 = (12, 0)) (by decide) (by first | exact Or.inl ⟨_, rfl⟩ | exact Or.inr ⟨_, rfl⟩) (Or.inr ⟨rfl, rfl, rfl, wf_RX12_132F⟩) (fun F304 u303 => ?_)
  rw [fR_up] at u303; subst u303
  refine hw_aloadn (aX12_init 162 rfl) rfl ?_
  refine hw_bp (v := (12 : Int32)) (aX12_init 163 rfl) (by decide) ?_
  refine cw_newa (k := 0) (z := 12) (n2 := 160) (sl2 := 54443) (aX12_init 164 rfl) rfl (by decide) (tin_1 (i := 149) rfl rfl) (by decide) (by decide) (by decide) rfl rfl rfl rfl rfl (by decide) (by decide) ?_
  refine hv_putr (r := some 159) (aX12_init 165 rfl) wf_RX12_135 (by decide : 121 < 160) (rfl : hsF 121 = (12, 0)) (by decide) (by first | exact Or.inl ⟨_, rfl⟩ | exact Or.inr ⟨_, rfl⟩) (Or.inr ⟨rfl, rfl, rfl, wf_RX12_135F⟩) (fun F306 u305 => ?_)
  rw [fR_up] at u305; subst u305
  refine hw_aloadn (aX12_init 166 rfl) rfl ?_
  refine hw_bp (v := (12 : Int32)) (aX12_init 167 rfl) (by decide) ?_
  refine cw_newa (k := 0) (z := 12) (n2 := 161) (sl2 := 54455) (aX12_init 168 rfl) rfl (by decide) (tin_1 (i := 149) rfl rfl) (by decide) (by decide) (by decide) rfl rfl rfl rfl rfl (by decide) (by decide) ?_
  refine hv_putr (r := some 160) (aX12_init 169 rfl) wf_RX12_138 (by decide : 121 < 161) (rfl : hsF 121 = (12, 0)) (by decide) (by first | exact Or.inl ⟨_, rfl⟩ | exact Or.inr ⟨_, rfl⟩) (Or.inr ⟨rfl, rfl, rfl, wf_RX12_138F⟩) (fun F308 u307 => ?_)
  rw [fR_up] at u307; subst u307
  refine hw_aloadn (aX12_init 170 rfl) rfl ?_
  refine hw_bp (v := (13 : Int32)) (aX12_init 171 rfl) (by decide) ?_
  refine cw_newa (k := 0) (z := 13) (n2 := 162) (sl2 := 54468) (aX12_init 172 rfl) rfl (by decide) (tin_1 (i := 149) rfl rfl) (by decide) (by decide) (by decide) rfl rfl rfl rfl rfl (by decide) (by decide) ?_
  refine hv_putr (r := some 161) (aX12_init 173 rfl) wf_RX12_141 (by decide : 121 < 162) (rfl : hsF 121 = (12, 0)) (by decide) (by first | exact Or.inl ⟨_, rfl⟩ | exact Or.inr ⟨_, rfl⟩) (Or.inr ⟨rfl, rfl, rfl, wf_RX12_141F⟩) (fun F310 u309 => ?_)
  rw [fR_up] at u309; subst u309
  refine hw_aloadn (aX12_init 174 rfl) rfl ?_
  refine hw_bp (v := (12 : Int32)) (aX12_init 175 rfl) (by decide) ?_
  refine cw_newa (k := 0) (z := 12) (n2 := 163) (sl2 := 54480) (aX12_init 176 rfl) rfl (by decide) (tin_1 (i := 149) rfl rfl) (by decide) (by decide) (by decide) rfl rfl rfl rfl rfl (by decide) (by decide) ?_
  refine hv_putr (r := some 162) (aX12_init 177 rfl) wf_RX12_144 (by decide : 121 < 163) (rfl : hsF 121 = (12, 0)) (by decide) (by first | exact Or.inl ⟨_, rfl⟩ | exact Or.inr ⟨_, rfl⟩) (Or.inr ⟨rfl, rfl, rfl, wf_RX12_144F⟩) (fun F312 u311 => ?_)
  rw [fR_up] at u311; subst u311
  refine hw_aloadn (aX12_init 178 rfl) rfl ?_
  refine hw_bp (v := (12 : Int32)) (aX12_init 179 rfl) (by decide) ?_
  refine cw_newa (k := 2) (z := 12) (n2 := 164) (sl2 := 54492) (aX12_init 180 rfl) rfl (by decide) (tin_7 (i := 126) rfl rfl) (by decide) (by decide) (by decide) rfl rfl rfl rfl rfl (by decide) (by decide) ?_
  refine hv_putr (r := some 163) (aX12_init 181 rfl) wf_RX12_147 (by decide : 121 < 164) (rfl : hsF 121 = (12, 0)) (by decide) (by first | exact Or.inl ⟨_, rfl⟩ | exact Or.inr ⟨_, rfl⟩) (Or.inr ⟨rfl, rfl, rfl, wf_RX12_147F⟩) (fun F314 u313 => ?_)
  rw [fR_up] at u313; subst u313
  refine hw_aloadn (aX12_init 182 rfl) rfl ?_
  refine hw_sp (v := (4000 : Int32)) (aX12_init 183 rfl) (by decide) ?_
  refine cw_newa (k := 0) (z := 4000) (n2 := 165) (sl2 := 58492) (aX12_init 184 rfl) rfl (by decide) (tin_1 (i := 149) rfl rfl) (by decide) (by decide) (by decide) rfl rfl rfl rfl rfl (by decide) (by decide) ?_
  refine hv_putr (r := some 164) (aX12_init 185 rfl) wf_RX12_151 (by decide : 121 < 165) (rfl : hsF 121 = (12, 0)) (by decide) (by first | exact Or.inl ⟨_, rfl⟩ | exact Or.inr ⟨_, rfl⟩) (Or.inr ⟨rfl, rfl, rfl, wf_RX12_151F⟩) (fun F316 u315 => ?_)
  rw [fR_up] at u315; subst u315
  refine hw_aloadn (aX12_init 186 rfl) rfl ?_
  refine hw_sp (v := (256 : Int32)) (aX12_init 187 rfl) (by decide) ?_
  refine cw_newa (k := 0) (z := 256) (n2 := 166) (sl2 := 58748) (aX12_init 188 rfl) rfl (by decide) (tin_1 (i := 149) rfl rfl) (by decide) (by decide) (by decide) rfl rfl rfl rfl rfl (by decide) (by decide) ?_
  refine hv_putr (r := some 165) (aX12_init 189 rfl) wf_RX12_154 (by decide : 121 < 166) (rfl : hsF 121 = (12, 0)) (by decide) (by first | exact Or.inl ⟨_, rfl⟩ | exact Or.inr ⟨_, rfl⟩) (Or.inr ⟨rfl, rfl, rfl, wf_RX12_154F⟩) (fun F318 u317 => ?_)
  rw [fR_up] at u317; subst u317
  refine hw_aloadn (aX12_init 190 rfl) rfl ?_
  refine hw_sp (v := (256 : Int32)) (aX12_init 191 rfl) (by decide) ?_
  refine cw_newa (k := 0) (z := 256) (n2 := 167) (sl2 := 59004) (aX12_init 192 rfl) rfl (by decide) (tin_1 (i := 149) rfl rfl) (by decide) (by decide) (by decide) rfl rfl rfl rfl rfl (by decide) (by decide) ?_
  refine hv_putr (r := some 166) (aX12_init 193 rfl) wf_RX12_157 (by decide : 121 < 167) (rfl : hsF 121 = (12, 0)) (by decide) (by first | exact Or.inl ⟨_, rfl⟩ | exact Or.inr ⟨_, rfl⟩) (Or.inr ⟨rfl, rfl, rfl, wf_RX12_157F⟩) (fun F320 u319 => ?_)
  rw [fR_up] at u319; subst u319
  refine hw_aloadn (aX12_init 194 rfl) rfl ?_
  refine hw_sp (v := (256 : Int32)) (aX12_init 195 rfl) (by decide) ?_
  refine cw_newa (k := 0) (z := 256) (n2 := 168) (sl2 := 59260) (aX12_init 196 rfl) rfl (by decide) (tin_1 (i := 149) rfl rfl) (by decide) (by decide) (by decide) rfl rfl rfl rfl rfl (by decide) (by decide) ?_
  refine hv_putr (r := some 167) (aX12_init 197 rfl) wf_RX12_160 (by decide : 121 < 168) (rfl : hsF 121 = (12, 0)) (by decide) (by first | exact Or.inl ⟨_, rfl⟩ | exact Or.inr ⟨_, rfl⟩) (Or.inr ⟨rfl, rfl, rfl, wf_RX12_160F⟩) (fun F322 u321 => ?_)
  rw [fR_up] at u321; subst u321
  refine hw_aloadn (aX12_init 198 rfl) rfl ?_
  refine hw_sp (v := (256 : Int32)) (aX12_init 199 rfl) (by decide) ?_
  refine cw_newa (k := 0) (z := 256) (n2 := 169) (sl2 := 59516) (aX12_init 200 rfl) rfl (by decide) (tin_1 (i := 149) rfl rfl) (by decide) (by decide) (by decide) rfl rfl rfl rfl rfl (by decide) (by decide) ?_
  refine hv_putr (r := some 168) (aX12_init 201 rfl) wf_RX12_163 (by decide : 121 < 169) (rfl : hsF 121 = (12, 0)) (by decide) (by first | exact Or.inl ⟨_, rfl⟩ | exact Or.inr ⟨_, rfl⟩) (Or.inr ⟨rfl, rfl, rfl, wf_RX12_163F⟩) (fun F324 u323 => ?_)
  rw [fR_up] at u323; subst u323
  refine hw_aloadn (aX12_init 202 rfl) rfl ?_
  refine hw_bp (v := (8 : Int32)) (aX12_init 203 rfl) (by decide) ?_
  refine cw_newa (k := 0) (z := 8) (n2 := 170) (sl2 := 59524) (aX12_init 204 rfl) rfl (by decide) (tin_1 (i := 149) rfl rfl) (by decide) (by decide) (by decide) rfl rfl rfl rfl rfl (by decide) (by decide) ?_
  refine hv_putr (r := some 169) (aX12_init 205 rfl) wf_RX12_166 (by decide : 121 < 170) (rfl : hsF 121 = (12, 0)) (by decide) (by first | exact Or.inl ⟨_, rfl⟩ | exact Or.inr ⟨_, rfl⟩) (Or.inr ⟨rfl, rfl, rfl, wf_RX12_166F⟩) (fun F326 u325 => ?_)
  rw [fR_up] at u325; subst u325
  refine hw_aloadn (aX12_init 206 rfl) rfl ?_
  refine hw_bp (v := (8 : Int32)) (aX12_init 207 rfl) (by decide) ?_
  refine cw_newa (k := 1) (z := 8) (n2 := 171) (sl2 := 59532) (aX12_init 208 rfl) rfl (by decide) (tin_1 (i := 150) rfl rfl) (by decide) (by decide) (by decide) rfl rfl rfl rfl rfl (by decide) (by decide) ?_
  refine hv_putr (r := some 170) (aX12_init 209 rfl) wf_RX12_169 (by decide : 121 < 171) (rfl : hsF 121 = (12, 0)) (by decide) (by first | exact Or.inl ⟨_, rfl⟩ | exact Or.inr ⟨_, rfl⟩) (Or.inr ⟨rfl, rfl, rfl, wf_RX12_169F⟩) (fun F328 u327 => ?_)
  rw [fR_up] at u327; subst u327
  refine hw_aloadn (aX12_init 210 rfl) rfl ?_
  refine hw_bp (v := (8 : Int32)) (aX12_init 211 rfl) (by decide) ?_
  refine cw_newa (k := 0) (z := 8) (n2 := 172) (sl2 := 59540) (aX12_init 212 rfl) rfl (by decide) (tin_1 (i := 149) rfl rfl) (by decide) (by decide) (by decide) rfl rfl rfl rfl rfl (by decide) (by decide) ?_
  refine hv_putr (r := some 171) (aX12_init 213 rfl) wf_RX12_172 (by decide : 121 < 172) (rfl : hsF 121 = (12, 0)) (by decide) (by first | exact Or.inl ⟨_, rfl⟩ | exact Or.inr ⟨_, rfl⟩) (Or.inr ⟨rfl, rfl, rfl, wf_RX12_172F⟩) (fun F330 u329 => ?_)
  rw [fR_up] at u329; subst u329
  refine hw_aloadn (aX12_init 214 rfl) rfl ?_
  refine hw_sp (v := (512 : Int32)) (aX12_init 215 rfl) (by decide) ?_
  refine cw_newa (k := 0) (z := 512) (n2 := 173) (sl2 := 60052) (aX12_init 216 rfl) rfl (by decide) (tin_1 (i := 149) rfl rfl) (by decide) (by decide) (by decide) rfl rfl rfl rfl rfl (by decide) (by decide) ?_
  refine hv_putr (r := some 172) (aX12_init 217 rfl) wf_RX12_175 (by decide : 121 < 173) (rfl : hsF 121 = (12, 0)) (by decide) (by first | exact Or.inl ⟨_, rfl⟩ | exact Or.inr ⟨_, rfl⟩) (Or.inr ⟨rfl, rfl, rfl, wf_RX12_175F⟩) (fun F332 u331 => ?_)
  rw [fR_up] at u331; subst u331
  refine hw_aloadn (aX12_init 218 rfl) rfl ?_
  refine hw_sp (v := (512 : Int32)) (aX12_init 219 rfl) (by decide) ?_
  refine cw_newa (k := 1) (z := 512) (n2 := 174) (sl2 := 60564) (aX12_init 220 rfl) rfl (by decide) (tin_1 (i := 150) rfl rfl) (by decide) (by decide) (by decide) rfl rfl rfl rfl rfl (by decide) (by decide) ?_
  refine hv_putr (r := some 173) (aX12_init 221 rfl) wf_RX12_178 (by decide : 121 < 174) (rfl : hsF 121 = (12, 0)) (by decide) (by first | exact Or.inl ⟨_, rfl⟩ | exact Or.inr ⟨_, rfl⟩) (Or.inr ⟨rfl, rfl, rfl, wf_RX12_178F⟩) (fun F334 u333 => ?_)
  rw [fR_up] at u333; subst u333
  refine hw_aloadn (aX12_init 222 rfl) rfl ?_
  refine hw_sp (v := (256 : Int32)) (aX12_init 223 rfl) (by decide) ?_
  refine cw_newa (k := 2) (z := 256) (n2 := 175) (sl2 := 60820) (aX12_init 224 rfl) rfl (by decide) (tin_7 (i := 126) rfl rfl) (by decide) (by decide) (by decide) rfl rfl rfl rfl rfl (by decide) (by decide) ?_
  refine hv_putr (r := some 174) (aX12_init 225 rfl) wf_RX12_181 (by decide : 121 < 175) (rfl : hsF 121 = (12, 0)) (by decide) (by first | exact Or.inl ⟨_, rfl⟩ | exact Or.inr ⟨_, rfl⟩) (Or.inr ⟨rfl, rfl, rfl, wf_RX12_181F⟩) (fun F336 u335 => ?_)
  rw [fR_up] at u335; subst u335
  refine hw_aloadn (aX12_init 226 rfl) rfl ?_
  refine hw_sp (v := (256 : Int32)) (aX12_init 227 rfl) (by decide) ?_
  refine cw_newa (k := 2) (z := 256) (n2 := 176) (sl2 := 61076) (aX12_init 228 rfl) rfl (by decide) (tin_7 (i := 126) rfl rfl) (by decide) (by decide) (by decide) rfl rfl rfl rfl rfl (by decide) (by decide) ?_
  refine hv_putr (r := some 175) (aX12_init 229 rfl) wf_RX12_184 (by decide : 121 < 176) (rfl : hsF 121 = (12, 0)) (by decide) (by first | exact Or.inl ⟨_, rfl⟩ | exact Or.inr ⟨_, rfl⟩) (Or.inr ⟨rfl, rfl, rfl, wf_RX12_184F⟩) (fun F338 u337 => ?_)
  rw [fR_up] at u337; subst u337
  refine xw_vret (aX12_init 230 rfl) rfl ?_
  exact ⟨rfl, rfl⟩
