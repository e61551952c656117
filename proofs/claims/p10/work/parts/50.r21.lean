def nX12_rows : Nat := 0xb1f901b60810092af901b60810092ac4fea7de01b56004de01b42a2a0d00991b3c030400a704070099e401b62c102a10009adb01b42a4f60042e0302b42a8700b42a0302b42a8700b42a4f7eff00117a08100515600404157800b42a4f7eff0011051504157800b42a2200a3a00f11ed01b42a05366405640415ed01b42a1402b62ab1040099db01b42af901b605092a0436ed01b42a0f02b63a102ade01b56004de01b42a2af901b608102fde01b42a6c00b42a2af901b60810202ab1040099db01b42ae701b6062a08009d94202fde01b42a6c00b42a16009adb01b42ae701b6042a08009f062ede01b42a6900b42a15009adb01b42a0f02b60001112ade01b56004de01b42a2a412fde01b42a6c00b42ab1040099db01b42ae701b606102a0900a008102e0302b42a8700b42a1700a7e701b6042a0b009f062ede01b42a6900b42a37019adb01b42a3e01991b3c04
theorem bX12_rows : cX12_rows.data.toList.map UInt8.toNat = x_un nX12_rows 336 := by decide +kernel
def iX12_rows : List (Nat × Jvm.ClassFile.Instr × Nat) := [(0, .iconst 1, 1), (1, .istore_n 1, 1), (2, .iload_n 1, 1), (3, .ifCond .eq 318, 3), (6, .aload_n 0, 1), (7, .getfield 475, 3), (10, .ifCond .ne 311, 3), (13, .aload_n 0, 1), (14, .getfield 105, 3), (17, .aload_n 0, 1), (18, .getfield 478, 3), (21, .iaload, 1), (22, .iconst 3, 1), (23, .if_icmp .eq 11, 3), (26, .aload_n 0, 1), (27, .iconst 1, 1), (28, .invokevirtual 487, 3), (31, .goto 23, 3), (34, .aload_n 0, 1), (35, .getfield 135, 3), (38, .aload_n 0, 1), (39, .getfield 515, 3), (42, .iaload, 1), (43, .bipush 8, 2), (45, .if_icmp .ne 9, 3), (48, .aload_n 0, 1), (49, .bipush 6, 2), (51, .invokevirtual 487, 3), (54, .aload_n 0, 1), (55, .getfield 475, 3), (58, .ifCond .eq 4, 3), (61, .return_, 1), (62, .aload_n 0, 1), (63, .getfield 108, 3), (66, .aload_n 0, 1), (67, .getfield 478, 3), (70, .laload, 1), (71, .lstore_n 2, 1), (72, .aload_n 0, 1), (73, .aload_n 0, 1), (74, .getfield 478, 3), (77, .iconst 1, 1), (78, .iadd, 1), (79, .putfield 478, 3), (82, .aload_n 0, 1), (83, .sipush 256, 3), (86, .invokevirtual 527, 3), (89, .aload_n 0, 1), (90, .getfield 475, 3), (93, .ifCond .ne 21, 3), (96, .aload_n 0, 1), (97, .getfield 105, 3), (100, .aload_n 0, 1), (101, .getfield 478, 3), (104, .iaload, 1), (105, .iconst 3, 1), (106, .if_icmp .eq 8, 3), (109, .aload_n 0, 1), (110, .iconst 1, 1), (111, .invokevirtual 487, 3), (114, .aload_n 0, 1), (115, .getfield 475, 3), (118, .ifCond .ne 22, 3), (121, .aload_n 0, 1), (122, .getfield 108, 3), (125, .aload_n 0, 1), (126, .getfield 478, 3), (129, .laload, 1), (130, .lload_n 2, 1), (131, .lcmp, 1), (132, .ifCond .gt 8, 3), (135, .aload_n 0, 1), (136, .iconst 3, 1), (137, .invokevirtual 487, 3), (140, .aload_n 0, 1), (141, .getfield 475, 3), (144, .ifCond .eq 4, 3), (147, .return_, 1), (148, .aload_n 0, 1), (149, .lload_n 2, 1), (150, .bipush 8, 2), (152, .invokevirtual 505, 3), (155, .aload_n 0, 1), (156, .aload_n 0, 1), (157, .getfield 108, 3), (160, .aload_n 0, 1), (161, .getfield 478, 3), (164, .laload, 1), (165, .bipush 8, 2), (167, .invokevirtual 505, 3), (170, .aload_n 0, 1), (171, .aload_n 0, 1), (172, .getfield 478, 3), (175, .iconst 1, 1), (176, .iadd, 1), (177, .putfield 478, 3), (180, .aload_n 0, 1), (181, .bipush 58, 2), (183, .invokevirtual 527, 3), (186, .aload_n 0, 1), (187, .getfield 493, 3), (190, .istore 4, 2), (192, .aload_n 0, 1), (193, .lconst 0, 1), (194, .iconst 2, 1), (195, .invokevirtual 505, 3), (198, .aload_n 0, 1), (199, .getfield 475, 3), (202, .ifCond .eq 4, 3), (205, .return_, 1), (206, .aload_n 0, 1), (207, .invokevirtual 532, 3), (210, .aload_n 0, 1), (211, .getfield 493, 3), (214, .iload 4, 2), (216, .isub, 1), (217, .iconst 2, 1), (218, .isub, 1), (219, .istore 5, 2), (221, .aload_n 0, 1), (222, .getfield 493, 3), (225, .sipush 4000, 3), (228, .if_icmp .gt 34, 3), (231, .aload_n 0, 1), (232, .getfield 120, 3), (235, .iload 4, 2), (237, .iload 5, 2), (239, .sipush 255, 3), (242, .iand, 1), (243, .iastore, 1), (244, .aload_n 0, 1), (245, .getfield 120, 3), (248, .iload 4, 2), (250, .iconst 1, 1), (251, .iadd, 1), (252, .iload 5, 2), (254, .bipush 8, 2), (256, .ishr, 1), (257, .sipush 255, 3), (260, .iand, 1), (261, .iastore, 1), (262, .aload_n 0, 1), (263, .getfield 135, 3), (266, .aload_n 0, 1), (267, .getfield 515, 3), (270, .aload_n 0, 1), (271, .getfield 135, 3), (274, .aload_n 0, 1), (275, .getfield 515, 3), (278, .iaload, 1), (279, .iconst 1, 1), (280, .iadd, 1), (281, .iastore, 1), (282, .aload_n 0, 1), (283, .getfield 475, 3), (286, .ifCond .ne 16, 3), (289, .aload_n 0, 1), (290, .bipush 44, 2), (292, .invokevirtual 484, 3), (295, .ifCond .eq 7, 3), (298, .iconst 1, 1), (299, .goto 4, 3), (302, .iconst 0, 1), (303, .istore_n 1, 1), (304, .iload_n 1, 1), (305, .ifCond .eq 13, 3), (308, .aload_n 0, 1), (309, .aload_n 0, 1), (310, .getfield 478, 3), (313, .iconst 1, 1), (314, .iadd, 1), (315, .putfield 478, 3), (318, .goto (-316), 3), (321, .aload_n 0, 1), (322, .lconst 0, 1), (323, .bipush 8, 2), (325, .invokevirtual 505, 3), (328, .aload_n 0, 1), (329, .lconst 0, 1), (330, .bipush 8, 2), (332, .invokevirtual 505, 3), (335, .return_, 1)]
theorem dX12_rows : x_il nX12_rows 336 iX12_rows = true := by decide +kernel
theorem aX12_rows (k : Nat) {pc : Nat} {i : Jvm.ClassFile.Instr} {len : Nat} (hk : iX12_rows[k]? = some (pc, i, len)) : x_at xMM 227 pc i len yX12_rows 6 none := ⟨cX12_rows, rfl, x_il_ok bX12_rows dX12_rows k hk⟩
set_option maxHeartbeats 4000000 in
set_option maxRecDepth 100000 in
theorem n_rows {base d n sl : Nat} {SH : Nat → Nat × Nat} {FI : Nat → Nat → Int32} {FL : Nat → Nat → Int64} {FR : Nat → Nat → Option Nat} (hS : h_S n SH) (hF : h_FR FR) (hI : g_I FI) (g0 : (FI 121 68).toInt < (FI 121 67).toInt - 1) (g1 : (FI 121 69).toInt = 0) (g2 : (FI 121 73).toInt ≤ 20 * (FI 121 68).toInt + 60) (g3 : (FI 121 71).toInt = 0) (g4 : (FI 121 78).toInt ≤ 11) (gg0 : (FI 159 (FI 121 78).toNatClampNeg).toInt = 0) (rel_tend : rl_e (FI 149) (FI 121 67)) (rel_tok : rl_t (FI 149) (FL 150)) : hw base (d + 9) none 227 0 [(0, .ref (base + 121))] [] (n, sl, SH, FI, FL, FR) (h_V (fun s => ∃ FI', s = (n, sl, SH, FI', FL, FR) ∧ g_I FI' ∧ g_fr n SH [(121, 68), (121, 69), (121, 70), (121, 71), (121, 73), (121, 90), (121, 91)] [154, 159, 163, 164, 165, 166, 167, 168] [] FI FI' ∧ ((FI' 121 68).toInt ≤ (FI' 121 67).toInt - 1) ∧ ((FI 121 68).toInt ≤ (FI' 121 68).toInt) ∧ ((FI' 121 73).toInt ≤ (FI 121 73).toInt + 20 * ((FI' 121 68).toInt - (FI 121 68).toInt) + 16) ∧ ((FI 121 73).toInt ≤ (FI' 121 73).toInt) ∧ ((FI' 121 69).toInt = 0 → gr_rws (kf (FI 149)) (wf (FL 150)) ((FI' 159 (FI 121 78).toNatClampNeg).toInt).toNat (FI 121 68).toInt.toNat ((FI' 121 68).toInt.toNat + 1) ∧ 1 ≤ (FI' 159 (FI 121 78).toNatClampNeg).toInt))) := by
  obtain ⟨x1, h2⟩ : ∃ y, FI 121 68 = y := ⟨_, rfl⟩
  have h2l := congrArg Int32.toInt h2
  have b3 := gI_121_68 hI; rw [h2] at b3
  obtain ⟨x4, h5⟩ : ∃ y, FI 121 67 = y := ⟨_, rfl⟩
  have h5l := congrArg Int32.toInt h5
  have b6 := gI_121_67 hI; rw [h5] at b6
  obtain ⟨x7, h8⟩ : ∃ y, FI 121 69 = y := ⟨_, rfl⟩
  have h8l := congrArg Int32.toInt h8
  have := i_rng x7
  obtain ⟨x9, h10⟩ : ∃ y, FI 121 73 = y := ⟨_, rfl⟩
  have h10l := congrArg Int32.toInt h10
  have b11 := gI_121_73 hI; rw [h10] at b11
  obtain ⟨x12, h13⟩ : ∃ y, FI 121 71 = y := ⟨_, rfl⟩
  have h13l := congrArg Int32.toInt h13
  have := i_rng x12
  obtain ⟨x14, h15⟩ : ∃ y, FI 121 78 = y := ⟨_, rfl⟩
  have h15l := congrArg Int32.toInt h15
  have b16 := gI_121_78 hI; rw [h15] at b16
  have e17 : 0 ≤ (x12).toInt ∧ (x12).toInt ≤ 0 := by omega
  have e18 : 0 ≤ (x7).toInt ∧ (x7).toInt ≤ 0 := by omega
  obtain ⟨x19, h20⟩ : ∃ y, FI 159 (x14).toNatClampNeg = y := ⟨_, rfl⟩
  have h20l := congrArg Int32.toInt h20
  have := i_rng x19
  have h159 : (x19).toInt = 0 := by have := gg0; rw [show FI 121 78 = x14 from h15, show FI 159 (x14).toNatClampNeg = x19 from h20] at this; exact this
  refine hw_ic (v := (1 : Int32)) (aX12_rows 0 rfl) (by decide) ?_
  refine xw_istoren (L2 := [(1, .int ((1 : Int32))), (0, .ref (base + 121))]) (aX12_rows 1 rfl) (by decide) rfl ?_
  refine xw_iloadn (aX12_rows 2 rfl) rfl ?_
  refine hw_ifeq (tgt := 321) (aX12_rows 3 rfl) (by decide) (by decide : (1 : Int32).toInt = 1) (fun cd21 => ?_) (fun cd21 => ?_)
  · omega
  · refine hw_aloadn (aX12_rows 4 rfl) rfl ?_
    refine hw_get (v := .int (x7)) (aX12_rows 5 rfl) wf_RX12_475 (c121 hS) (s121 hS) (by decide) (congrArg Value.int (show FI 121 69 = x7 from h8)) ?_
    refine hw_ifne (tgt := 321) (aX12_rows 6 rfl) (by decide) rfl (fun cd22 => ?_) (fun cd22 => ?_)
    · omega
    · have lp38 : ∀ (m : Nat) (FIv23 : Nat → Nat → Int32), (g_fr n SH [(121, 68), (121, 69), (121, 70), (121, 71), (121, 73), (121, 90), (121, 91)] [154, 159, 163, 164, 165, 166, 167, 168] [] FI FIv23) → (g_I FIv23) → (FIv23 121 67 = x4) → (FIv23 121 78 = x14) → (rl_e (FIv23 149) (FIv23 121 67)) → (rl_t (FIv23 149) (FL 150)) → (0 ≤ (FIv23 121 68).toInt ∧ (FIv23 121 68).toInt ≤ 1000) → ((FIv23 121 69).toInt = 0) → ((FIv23 121 68).toInt ≤ (x4).toInt - 1) → ((FI 121 68).toInt ≤ (FIv23 121 68).toInt) → ((FIv23 121 73).toInt ≤ (FI 121 73).toInt + 20 * ((FIv23 121 68).toInt - (FI 121 68).toInt)) → ((FI 121 73).toInt ≤ (FIv23 121 73).toInt) → ((FIv23 121 71).toInt = 0) → (gr_rws (kf (FI 149)) (wf (FL 150)) ((FIv23 159 (FI 121 78).toNatClampNeg).toInt).toNat (FI 121 68).toInt.toNat ((FIv23 121 68).toInt).toNat) → (FIv23 149 = FI 149) → 1001 - (FIv23 121 68).toInt < m → hw base (d + 9) none 227 13 [(0, .ref (base + 121))] [] (n, sl, SH, FIv23, FL, FR) (h_V (fun s => ∃ FI', s = (n, sl, SH, FI', FL, FR) ∧ g_I FI' ∧ g_fr n SH [(121, 68), (121, 69), (121, 70), (121, 71), (121, 73), (121, 90), (121, 91)] [154, 159, 163, 164, 165, 166, 167, 168] [] FI FI' ∧ ((FI' 121 68).toInt ≤ (FI' 121 67).toInt - 1) ∧ ((FI 121 68).toInt ≤ (FI' 121 68).toInt) ∧ ((FI' 121 73).toInt ≤ (FI 121 73).toInt + 20 * ((FI' 121 68).toInt - (FI 121 68).toInt) + 16) ∧ ((FI 121 73).toInt ≤ (FI' 121 73).toInt) ∧ ((FI' 121 69).toInt = 0 → gr_rws (kf (FI 149)) (wf (FL 150)) ((FI' 159 (FI 121 78).toNatClampNeg).toInt).toNat (FI 121 68).toInt.toNat ((FI' 121 68).toInt.toNat + 1) ∧ 1 ≤ (FI' 159 (FI 121 78).toNatClampNeg).toInt))) := by
        intro m
        induction m with
        | zero => intro FIv23 fr24 hI25 kp26 kp27 rl28 rl29 iv30 iv31 iv32 iv33 iv34 iv35 iv36 xi13_0 rw37 hm; omega
        | succ m ih =>
          intro FIv23 fr24 hI25 kp26 kp27 rl28 rl29 iv30 iv31 iv32 iv33 iv34 iv35 iv36 xi13_0 rw37 hm
          have := congrArg Int32.toInt kp26
          have := congrArg Int32.toInt kp27
          obtain ⟨x39, h40⟩ : ∃ y, FIv23 121 68 = y := ⟨_, rfl⟩
          have h40l := congrArg Int32.toInt h40
          have b41 := gI_121_68 hI25; rw [h40] at b41
          obtain ⟨x42, h43⟩ : ∃ y, FIv23 121 69 = y := ⟨_, rfl⟩
          have h43l := congrArg Int32.toInt h43
          have := i_rng x42
          obtain ⟨x44, h45⟩ : ∃ y, FIv23 121 73 = y := ⟨_, rfl⟩
          have h45l := congrArg Int32.toInt h45
          have b46 := gI_121_73 hI25; rw [h45] at b46
          obtain ⟨x47, h48⟩ : ∃ y, FIv23 121 71 = y := ⟨_, rfl⟩
          have h48l := congrArg Int32.toInt h48
          have := i_rng x47
          refine hw_aloadn (aX12_rows 7 rfl) rfl ?_
          have e49 : 0 ≤ (x42).toInt ∧ (x42).toInt ≤ 0 := by omega
          have e50 : 0 ≤ (x47).toInt ∧ (x47).toInt ≤ 0 := by omega
          obtain ⟨x51, h52⟩ : ∃ y, FIv23 159 (x14).toNatClampNeg = y := ⟨_, rfl⟩
          have h52l := congrArg Int32.toInt h52
          have := i_rng x51
          have b159 := gI_159 hI25 (i_lt (x := x14) rfl (by omega) (by omega)); rw [show FIv23 159 (x14).toNatClampNeg = x51 from h52] at b159
          have := congrArg Int32.toInt (show FIv23 121 68 = x39 from h40)
          refine hw_get (v := .ref (base + 149)) (aX12_rows 8 rfl) wf_RX12_105 (c121 hS) (s121 hS) (by decide) (congrArg (fun r => va_rf (h_rf base r)) (r121_62 hF)) ?_
          refine hw_aloadn (aX12_rows 9 rfl) rfl ?_
          refine hw_get (v := .int (x39)) (aX12_rows 10 rfl) wf_RX12_478 (c121 hS) (s121 hS) (by decide) (congrArg Value.int (show FIv23 121 68 = x39 from h40)) ?_
          obtain ⟨x53, h54⟩ : ∃ y, FIv23 149 (x39).toNatClampNeg = y := ⟨_, rfl⟩
          have h54l := congrArg Int32.toInt h54
          have := i_rng x53
          refine hw_iald (v := x53) (aX12_rows 11 rfl) (c149 hS) (s149 hS) (h_in rfl (by omega) (by omega)) (show FIv23 149 (x39).toNatClampNeg = x53 from h54) ?_
          refine hw_ic (v := (3 : Int32)) (aX12_rows 12 rfl) (by decide) ?_
          refine hw_iceq (tgt := 34) (aX12_rows 13 rfl) (by decide) rfl (by decide : (3 : Int32).toInt = 3) (fun cd55 => ?_) (fun cd55 => ?_)
          · have := congrArg Int32.toInt (show FIv23 121 67 = x4 from kp26)
            have hne55 := rl_e_ne rl28 (t := x39) (by omega)
            refine hw_aloadn (aX12_rows 18 rfl) rfl ?_
            refine hw_get (v := .ref (base + 159)) (aX12_rows 19 rfl) wf_RX12_135 (c121 hS) (s121 hS) (by decide) (congrArg (fun r => va_rf (h_rf base r)) (r121_80 hF)) ?_
            refine hw_aloadn (aX12_rows 20 rfl) rfl ?_
            refine hw_get (v := .int (x14)) (aX12_rows 21 rfl) wf_RX12_515 (c121 hS) (s121 hS) (by decide) (congrArg Value.int (show FIv23 121 78 = x14 from kp27)) ?_
            refine hw_iald (v := x51) (aX12_rows 22 rfl) (c159 hS) (s159 hS) (h_in rfl (by omega) (by omega)) (show FIv23 159 (x14).toNatClampNeg = x51 from h52) ?_
            refine hw_bp (v := (8 : Int32)) (aX12_rows 23 rfl) (by decide) ?_
            refine hw_icne (tgt := 54) (aX12_rows 24 rfl) (by decide) rfl (by decide : (8 : Int32).toInt = 8) (fun cd56 => ?_) (fun cd56 => ?_)
            · refine hw_aloadn (aX12_rows 28 rfl) rfl ?_
              refine hw_get (v := .int (x42)) (aX12_rows 29 rfl) wf_RX12_475 (c121 hS) (s121 hS) (by decide) (congrArg Value.int (show FIv23 121 69 = x42 from h43)) ?_
              refine hw_ifeq (tgt := 62) (aX12_rows 30 rfl) (by decide) rfl (fun cd57 => ?_) (fun cd57 => ?_)
              · refine hw_aloadn (aX12_rows 32 rfl) rfl ?_
                refine hw_get (v := .ref (base + 150)) (aX12_rows 33 rfl) wf_RX12_108 (c121 hS) (s121 hS) (by decide) (congrArg (fun r => va_rf (h_rf base r)) (r121_63 hF)) ?_
                refine hw_aloadn (aX12_rows 34 rfl) rfl ?_
                refine hw_get (v := .int (x39)) (aX12_rows 35 rfl) wf_RX12_478 (c121 hS) (s121 hS) (by decide) (congrArg Value.int (show FIv23 121 68 = x39 from h40)) ?_
                obtain ⟨x58, h59⟩ : ∃ y, FL 150 (x39).toNatClampNeg = y := ⟨_, rfl⟩
                have h59l := congrArg Int64.toInt h59
                have := l_rng x58
                refine hw_lald (v := x58) (aX12_rows 36 rfl) (c150 hS) (s150 hS) (h_in rfl (by omega) (by omega)) (show FL 150 (x39).toNatClampNeg = x58 from h59) ?_
                refine xw_lstoren (L2 := [(2, .long (x58)), (0, .ref (base + 121))]) (aX12_rows 37 rfl) (by decide) rfl ?_
                refine hw_aloadn (aX12_rows 38 rfl) rfl ?_
                refine hw_aloadn (aX12_rows 39 rfl) rfl ?_
                refine hw_get (v := .int (x39)) (aX12_rows 40 rfl) wf_RX12_478 (c121 hS) (s121 hS) (by decide) (congrArg Value.int (show FIv23 121 68 = x39 from h40)) ?_
                refine hw_ic (v := (1 : Int32)) (aX12_rows 41 rfl) (by decide) ?_
                refine xw_iadd (aX12_rows 42 rfl) ?_
                refine hw_tie (A := ((x39).toInt) + (1)) (i_add rfl (by decide : (1 : Int32).toInt = 1) (by omega) (by omega)) (fun x60 e61 => ?_)
                refine hv_puti (aX12_rows 43 rfl) wf_RX12_478 (c121 hS) (s121 hS) (by decide) rfl rfl (fun FI62 u63 => ?_)
                have rl64 : rl_e (FI62 149) (FI62 121 67) := by rw [show FI62 149 = FIv23 149 from up_row u63 (by decide) rfl, show FI62 121 67 = FIv23 121 67 from up_k u63 (by decide) rfl]; exact rl28
                have rl65 : rl_t (FI62 149) (FL 150) := by rw [show FI62 149 = FIv23 149 from up_row u63 (by decide) rfl]; exact rl29
                have hI66 : g_I FI62 := gU_121_68 hI25 u63 (by have := (e61 : (x60).toInt = ((x39).toInt) + (1)); omega) (by have := (e61 : (x60).toInt = ((x39).toInt) + (1)); omega)
                refine hw_aloadn (aX12_rows 44 rfl) rfl ?_
                refine hw_sp (v := (256 : Int32)) (aX12_rows 45 rfl) (by decide) ?_
                refine hw_callV (Bs := [.int ((256 : Int32))]) (rest := []) (aX12_rows 46 rfl) wc_RX12_527 (by decide) rfl wi_yX12_need wv_yX12_need (c121 hS) (s121 hS) rfl rfl rfl (Nat.le_of_ble_eq_true rfl) (Nat.le_of_ble_eq_true rfl) (n_need (d := d + 7) hS hF hI66 ((256 : Int32)) (by have := congrArg Int32.toInt (show FI62 121 68 = x60 from up_eq u63); have := (e61 : (x60).toInt = ((x39).toInt) + (1)); have := congrArg Int32.toInt (show FI62 121 67 = x4 from (up_k u63 (by decide) (kp26))); omega) (show rl_e (FI62 149) (FI62 121 67) from rl64)) (fun v67 sv68 p69 => ?_)
                have := congrArg Int32.toInt (show FI62 121 68 = x60 from up_eq u63)
                have := (e61 : (x60).toInt = ((x39).toInt) + (1))
                have := congrArg Int32.toInt (show FI62 121 69 = x42 from (up_k u63 (by decide) (h43)))
                have := congrArg Int32.toInt (show FI62 121 68 = x60 from up_eq u63)
                have := (e61 : (x60).toInt = ((x39).toInt) + (1))
                have := congrArg Int32.toInt (show FI62 121 68 = x60 from up_eq u63)
                have := (e61 : (x60).toInt = ((x39).toInt) + (1))
                obtain ⟨rfl, FI71, rfl, hI72, f73, t74, t75, t76⟩ := p69
                have rl77 : rl_e (FI71 149) (FI71 121 67) := by rw [show FI71 149 = FI62 149 from gf_row f73 (c149 hS) (s149 hS) rfl rfl, show FI71 121 67 = FI62 121 67 from gf_at f73 (c121 hS) (s121 hS) rfl rfl]; exact rl64
                have rl78 : rl_t (FI71 149) (FL 150) := by rw [show FI71 149 = FI62 149 from gf_row f73 (c149 hS) (s149 hS) rfl rfl]; exact rl65
                obtain ⟨x79, h80⟩ : ∃ y, FI71 121 68 = y := ⟨_, rfl⟩
                have h80l := congrArg Int32.toInt h80
                have b81 := gI_121_68 hI72; rw [h80] at b81
                have := congrArg Int32.toInt (show FI71 121 67 = x4 from (gf_at f73 (c121 hS) (s121 hS) rfl ((up_k u63 (by decide) (kp26)))))
                obtain ⟨x82, h83⟩ : ∃ y, FI71 121 69 = y := ⟨_, rfl⟩
                have h83l := congrArg Int32.toInt h83
                have := i_rng x82
                show hw base _ _ _ _ _ [] _ _
                refine hw_aloadn (aX12_rows 47 rfl) rfl ?_
                refine hw_get (v := .int (x82)) (aX12_rows 48 rfl) wf_RX12_475 (c121 hS) (s121 hS) (by decide) (congrArg Value.int (show FI71 121 69 = x82 from h83)) ?_
                refine hw_ifne (tgt := 114) (aX12_rows 49 rfl) (by decide) rfl (fun cd84 => ?_) (fun cd84 => ?_)
                · refine hw_aloadn (aX12_rows 60 rfl) rfl ?_
                  refine hw_get (v := .int (x82)) (aX12_rows 61 rfl) wf_RX12_475 (c121 hS) (s121 hS) (by decide) (congrArg Value.int (show FI71 121 69 = x82 from h83)) ?_
                  refine hw_ifne (tgt := 140) (aX12_rows 62 rfl) (by decide) rfl (fun cd85 => ?_) (fun cd85 => ?_)
                  · refine hw_aloadn (aX12_rows 74 rfl) rfl ?_
                    refine hw_get (v := .int (x82)) (aX12_rows 75 rfl) wf_RX12_475 (c121 hS) (s121 hS) (by decide) (congrArg Value.int (show FI71 121 69 = x82 from h83)) ?_
                    refine hw_ifeq (tgt := 148) (aX12_rows 76 rfl) (by decide) rfl (fun cd86 => ?_) (fun cd86 => ?_)
                    · omega
                    · refine xw_vret (aX12_rows 77 rfl) rfl ?_
                      exact ⟨rfl, FI71, rfl, hI72, (gf_tr ex_rf (gf_f fr24 u63 (by decide)) f73 rfl rfl rfl), (by have := congrArg Int32.toInt (show FI71 121 67 = x4 from (gf_at f73 (c121 hS) (s121 hS) rfl ((up_k u63 (by decide) (kp26))))); have := congrArg Int32.toInt (show FI71 121 68 = x79 from h80); omega), (by have := congrArg Int32.toInt (show FI71 121 68 = x79 from h80); omega), (by have := congrArg Int32.toInt (show FI71 121 68 = x79 from h80); have := congrArg Int32.toInt (show FI71 121 73 = x44 from (gf_at f73 (c121 hS) (s121 hS) rfl ((up_k u63 (by decide) (h45))))); omega), (by have := congrArg Int32.toInt (show FI71 121 73 = x44 from (gf_at f73 (c121 hS) (s121 hS) rfl ((up_k u63 (by decide) (h45))))); omega), (by have := congrArg Int32.toInt (show FI71 121 69 = x82 from h83); exact fun h => absurd h (by omega))⟩
                  · omega
                · refine hw_aloadn (aX12_rows 50 rfl) rfl ?_
                  refine hw_get (v := .ref (base + 149)) (aX12_rows 51 rfl) wf_RX12_105 (c121 hS) (s121 hS) (by decide) (congrArg (fun r => va_rf (h_rf base r)) (r121_62 hF)) ?_
                  refine hw_aloadn (aX12_rows 52 rfl) rfl ?_
                  refine hw_get (v := .int (x79)) (aX12_rows 53 rfl) wf_RX12_478 (c121 hS) (s121 hS) (by decide) (congrArg Value.int (show FI71 121 68 = x79 from h80)) ?_
                  obtain ⟨x87, h88⟩ : ∃ y, FI71 149 (x79).toNatClampNeg = y := ⟨_, rfl⟩
                  have h88l := congrArg Int32.toInt h88
                  have := i_rng x87
                  refine hw_iald (v := x87) (aX12_rows 54 rfl) (c149 hS) (s149 hS) (h_in rfl (by omega) (by omega)) (show FI71 149 (x79).toNatClampNeg = x87 from h88) ?_
                  refine hw_ic (v := (3 : Int32)) (aX12_rows 55 rfl) (by decide) ?_
                  refine hw_iceq (tgt := 114) (aX12_rows 56 rfl) (by decide) rfl (by decide : (3 : Int32).toInt = 3) (fun cd89 => ?_) (fun cd89 => ?_)
                  · refine hw_aloadn (aX12_rows 60 rfl) rfl ?_
                    refine hw_get (v := .int (x82)) (aX12_rows 61 rfl) wf_RX12_475 (c121 hS) (s121 hS) (by decide) (congrArg Value.int (show FI71 121 69 = x82 from h83)) ?_
                    refine hw_ifne (tgt := 140) (aX12_rows 62 rfl) (by decide) rfl (fun cd90 => ?_) (fun cd90 => ?_)
                    · omega
                    · have := congrArg Int32.toInt (show FI71 121 67 = x4 from (gf_at f73 (c121 hS) (s121 hS) rfl ((up_k u63 (by decide) (kp26)))))
                      have hne90 := rl_e_ne rl77 (t := x79) (by omega)
                      refine hw_aloadn (aX12_rows 63 rfl) rfl ?_
                      refine hw_get (v := .ref (base + 150)) (aX12_rows 64 rfl) wf_RX12_108 (c121 hS) (s121 hS) (by decide) (congrArg (fun r => va_rf (h_rf base r)) (r121_63 hF)) ?_
                      refine hw_aloadn (aX12_rows 65 rfl) rfl ?_
                      refine hw_get (v := .int (x79)) (aX12_rows 66 rfl) wf_RX12_478 (c121 hS) (s121 hS) (by decide) (congrArg Value.int (show FI71 121 68 = x79 from h80)) ?_
                      obtain ⟨x91, h92⟩ : ∃ y, FL 150 (x79).toNatClampNeg = y := ⟨_, rfl⟩
                      have h92l := congrArg Int64.toInt h92
                      have := l_rng x91
                      refine hw_lald (v := x91) (aX12_rows 67 rfl) (c150 hS) (s150 hS) (h_in rfl (by omega) (by omega)) (show FL 150 (x79).toNatClampNeg = x91 from h92) ?_
                      refine xw_lloadn (aX12_rows 68 rfl) rfl ?_
                      refine hw_lcgt (tgt := 140) (aX12_rows 69 rfl) (aX12_rows 70 rfl) (by decide) rfl rfl (fun cd93 => ?_) (fun cd93 => ?_)
                      · refine hw_aloadn (aX12_rows 74 rfl) rfl ?_
                        refine hw_get (v := .int (x82)) (aX12_rows 75 rfl) wf_RX12_475 (c121 hS) (s121 hS) (by decide) (congrArg Value.int (show FI71 121 69 = x82 from h83)) ?_
                        refine hw_ifeq (tgt := 148) (aX12_rows 76 rfl) (by decide) rfl (fun cd94 => ?_) (fun cd94 => ?_)
                        · refine hw_aloadn (aX12_rows 78 rfl) rfl ?_
                          refine xw_lloadn (aX12_rows 79 rfl) rfl ?_
                          refine hw_bp (v := (8 : Int32)) (aX12_rows 80 rfl) (by decide) ?_
                          refine hw_callV (Bs := [.long (x58), .int ((8 : Int32))]) (rest := []) (aX12_rows 81 rfl) wc_RX12_505 (by decide) rfl wi_yX12_emits wv_yX12_emits (c121 hS) (s121 hS) rfl rfl rfl (Nat.le_of_ble_eq_true rfl) (Nat.le_of_ble_eq_true rfl) (n_emits0 (d := d + 7) hS hF hI72 (x58) ((8 : Int32)) (by have := congrArg Int32.toInt (show FI71 121 73 = x44 from (gf_at f73 (c121 hS) (s121 hS) rfl ((up_k u63 (by decide) (h45))))); omega) (by have := ((by decide : (8 : Int32).toInt = 8) : ((8 : Int32)).toInt = 8); have := ((by decide : (8 : Int32).toInt = 8) : ((8 : Int32)).toInt = 8); omega)) (fun v95 sv96 p97 => ?_)
                          have := congrArg Int32.toInt (show FI71 121 73 = x44 from (gf_at f73 (c121 hS) (s121 hS) rfl ((up_k u63 (by decide) (h45)))))
                          have := ((by decide : (8 : Int32).toInt = 8) : ((8 : Int32)).toInt = 8)
                          obtain ⟨rfl, FI99, rfl, hI100, f101, t102⟩ := p97
                          have rl103 : rl_e (FI99 149) (FI99 121 67) := by rw [show FI99 149 = FI71 149 from gf_row f101 (c149 hS) (s149 hS) rfl rfl, show FI99 121 67 = FI71 121 67 from gf_at f101 (c121 hS) (s121 hS) rfl rfl]; exact rl77
                          have rl104 : rl_t (FI99 149) (FL 150) := by rw [show FI99 149 = FI71 149 from gf_row f101 (c149 hS) (s149 hS) rfl rfl]; exact rl78
                          obtain ⟨x105, h106⟩ : ∃ y, FI99 121 73 = y := ⟨_, rfl⟩
                          have h106l := congrArg Int32.toInt h106
                          have b107 := gI_121_73 hI100; rw [h106] at b107
                          show hw base _ _ _ _ _ [] _ _
                          refine hw_aloadn (aX12_rows 82 rfl) rfl ?_
                          refine hw_aloadn (aX12_rows 83 rfl) rfl ?_
                          refine hw_get (v := .ref (base + 150)) (aX12_rows 84 rfl) wf_RX12_108 (c121 hS) (s121 hS) (by decide) (congrArg (fun r => va_rf (h_rf base r)) (r121_63 hF)) ?_
                          refine hw_aloadn (aX12_rows 85 rfl) rfl ?_
                          refine hw_get (v := .int (x79)) (aX12_rows 86 rfl) wf_RX12_478 (c121 hS) (s121 hS) (by decide) (congrArg Value.int (show FI99 121 68 = x79 from (gf_at f101 (c121 hS) (s121 hS) rfl (h80)))) ?_
                          refine hw_lald (v := x91) (aX12_rows 87 rfl) (c150 hS) (s150 hS) (h_in rfl (by omega) (by omega)) (show FL 150 (x79).toNatClampNeg = x91 from h92) ?_
                          refine hw_bp (v := (8 : Int32)) (aX12_rows 88 rfl) (by decide) ?_
                          refine hw_callV (Bs := [.long (x91), .int ((8 : Int32))]) (rest := []) (aX12_rows 89 rfl) wc_RX12_505 (by decide) rfl wi_yX12_emits wv_yX12_emits (c121 hS) (s121 hS) rfl rfl rfl (Nat.le_of_ble_eq_true rfl) (Nat.le_of_ble_eq_true rfl) (n_emits0 (d := d + 7) hS hF hI100 (x91) ((8 : Int32)) (by have := congrArg Int32.toInt (show FI99 121 73 = x105 from h106); omega) (by have := ((by decide : (8 : Int32).toInt = 8) : ((8 : Int32)).toInt = 8); have := ((by decide : (8 : Int32).toInt = 8) : ((8 : Int32)).toInt = 8); omega)) (fun v108 sv109 p110 => ?_)
                          have := congrArg Int32.toInt (show FI99 121 73 = x105 from h106)
                          have := ((by decide : (8 : Int32).toInt = 8) : ((8 : Int32)).toInt = 8)
                          obtain ⟨rfl, FI112, rfl, hI113, f114, t115⟩ := p110
                          have rl116 : rl_e (FI112 149) (FI112 121 67) := by rw [show FI112 149 = FI99 149 from gf_row f114 (c149 hS) (s149 hS) rfl rfl, show FI112 121 67 = FI99 121 67 from gf_at f114 (c121 hS) (s121 hS) rfl rfl]; exact rl103
                          have rl117 : rl_t (FI112 149) (FL 150) := by rw [show FI112 149 = FI99 149 from gf_row f114 (c149 hS) (s149 hS) rfl rfl]; exact rl104
                          obtain ⟨x118, h119⟩ : ∃ y, FI112 121 73 = y := ⟨_, rfl⟩
                          have h119l := congrArg Int32.toInt h119
                          have b120 := gI_121_73 hI113; rw [h119] at b120
                          show hw base _ _ _ _ _ [] _ _
                          refine hw_aloadn (aX12_rows 90 rfl) rfl ?_
                          refine hw_aloadn (aX12_rows 91 rfl) rfl ?_
                          refine hw_get (v := .int (x79)) (aX12_rows 92 rfl) wf_RX12_478 (c121 hS) (s121 hS) (by decide) (congrArg Value.int (show FI112 121 68 = x79 from (gf_at f114 (c121 hS) (s121 hS) rfl ((gf_at f101 (c121 hS) (s121 hS) rfl (h80)))))) ?_
                          refine hw_ic (v := (1 : Int32)) (aX12_rows 93 rfl) (by decide) ?_
                          refine xw_iadd (aX12_rows 94 rfl) ?_
                          refine hw_tie (A := ((x79).toInt) + (1)) (i_add rfl (by decide : (1 : Int32).toInt = 1) (by omega) (by omega)) (fun x121 e122 => ?_)
                          refine hv_puti (aX12_rows 95 rfl) wf_RX12_478 (c121 hS) (s121 hS) (by decide) rfl rfl (fun FI123 u124 => ?_)
                          have rl125 : rl_e (FI123 149) (FI123 121 67) := by rw [show FI123 149 = FI112 149 from up_row u124 (by decide) rfl, show FI123 121 67 = FI112 121 67 from up_k u124 (by decide) rfl]; exact rl116
                          have rl126 : rl_t (FI123 149) (FL 150) := by rw [show FI123 149 = FI112 149 from up_row u124 (by decide) rfl]; exact rl117
                          have hI127 : g_I FI123 := gU_121_68 hI113 u124 (by have := (e122 : (x121).toInt = ((x79).toInt) + (1)); omega) (by have := (e122 : (x121).toInt = ((x79).toInt) + (1)); omega)
                          refine hw_aloadn (aX12_rows 96 rfl) rfl ?_
                          refine hw_bp (v := (58 : Int32)) (aX12_rows 97 rfl) (by decide) ?_
                          refine hw_callV (Bs := [.int ((58 : Int32))]) (rest := []) (aX12_rows 98 rfl) wc_RX12_527 (by decide) rfl wi_yX12_need wv_yX12_need (c121 hS) (s121 hS) rfl rfl rfl (Nat.le_of_ble_eq_true rfl) (Nat.le_of_ble_eq_true rfl) (n_need (d := d + 7) hS hF hI127 ((58 : Int32)) (by have := congrArg Int32.toInt (show FI123 121 68 = x121 from up_eq u124); have := (e122 : (x121).toInt = ((x79).toInt) + (1)); have := congrArg Int32.toInt (show FI123 121 67 = x4 from (up_k u124 (by decide) ((gf_at f114 (c121 hS) (s121 hS) rfl ((gf_at f101 (c121 hS) (s121 hS) rfl ((gf_at f73 (c121 hS) (s121 hS) rfl ((up_k u63 (by decide) (kp26))))))))))); omega) (show rl_e (FI123 149) (FI123 121 67) from rl125)) (fun v128 sv129 p130 => ?_)
                          have := congrArg Int32.toInt (show FI123 121 68 = x121 from up_eq u124)
                          have := (e122 : (x121).toInt = ((x79).toInt) + (1))
                          have := congrArg Int32.toInt (show FI123 121 69 = x82 from (up_k u124 (by decide) ((gf_at f114 (c121 hS) (s121 hS) rfl ((gf_at f101 (c121 hS) (s121 hS) rfl (h83)))))))
                          have := congrArg Int32.toInt (show FI123 121 68 = x121 from up_eq u124)
                          have := (e122 : (x121).toInt = ((x79).toInt) + (1))
                          have := congrArg Int32.toInt (show FI123 121 68 = x121 from up_eq u124)
                          have := (e122 : (x121).toInt = ((x79).toInt) + (1))
                          obtain ⟨rfl, FI132, rfl, hI133, f134, t135, t136, t137⟩ := p130
                          have rl138 : rl_e (FI132 149) (FI132 121 67) := by rw [show FI132 149 = FI123 149 from gf_row f134 (c149 hS) (s149 hS) rfl rfl, show FI132 121 67 = FI123 121 67 from gf_at f134 (c121 hS) (s121 hS) rfl rfl]; exact rl125
                          have rl139 : rl_t (FI132 149) (FL 150) := by rw [show FI132 149 = FI123 149 from gf_row f134 (c149 hS) (s149 hS) rfl rfl]; exact rl126
                          obtain ⟨x140, h141⟩ : ∃ y, FI132 121 68 = y := ⟨_, rfl⟩
                          have h141l := congrArg Int32.toInt h141
                          have b142 := gI_121_68 hI133; rw [h141] at b142
                          have := congrArg Int32.toInt (show FI132 121 67 = x4 from (gf_at f134 (c121 hS) (s121 hS) rfl ((up_k u124 (by decide) ((gf_at f114 (c121 hS) (s121 hS) rfl ((gf_at f101 (c121 hS) (s121 hS) rfl ((gf_at f73 (c121 hS) (s121 hS) rfl ((up_k u63 (by decide) (kp26)))))))))))))
                          obtain ⟨x143, h144⟩ : ∃ y, FI132 121 69 = y := ⟨_, rfl⟩
                          have h144l := congrArg Int32.toInt h144
                          have := i_rng x143
                          show hw base _ _ _ _ _ [] _ _
                          refine hw_aloadn (aX12_rows 99 rfl) rfl ?_
                          refine hw_get (v := .int (x118)) (aX12_rows 100 rfl) wf_RX12_493 (c121 hS) (s121 hS) (by decide) (congrArg Value.int (show FI132 121 73 = x118 from (gf_at f134 (c121 hS) (s121 hS) rfl ((up_k u124 (by decide) (h119)))))) ?_
                          refine xw_istore (L2 := [(4, .int (x118)), (2, .long (x58)), (0, .ref (base + 121))]) (aX12_rows 101 rfl) (by decide) rfl ?_
                          refine hw_aloadn (aX12_rows 102 rfl) rfl ?_
                          refine hw_lc (v := (0 : Int64)) (aX12_rows 103 rfl) (by decide) ?_
                          refine hw_ic (v := (2 : Int32)) (aX12_rows 104 rfl) (by decide) ?_
                          refine hw_callV (Bs := [.long ((0 : Int64)), .int ((2 : Int32))]) (rest := []) (aX12_rows 105 rfl) wc_RX12_505 (by decide) rfl wi_yX12_emits wv_yX12_emits (c121 hS) (s121 hS) rfl rfl rfl (Nat.le_of_ble_eq_true rfl) (Nat.le_of_ble_eq_true rfl) (n_emits0 (d := d + 7) hS hF hI133 ((0 : Int64)) ((2 : Int32)) (by have := congrArg Int32.toInt (show FI132 121 73 = x118 from (gf_at f134 (c121 hS) (s121 hS) rfl ((up_k u124 (by decide) (h119))))); omega) (by have := ((by decide : (2 : Int32).toInt = 2) : ((2 : Int32)).toInt = 2); have := ((by decide : (2 : Int32).toInt = 2) : ((2 : Int32)).toInt = 2); omega)) (fun v145 sv146 p147 => ?_)
                          have := congrArg Int32.toInt (show FI132 121 73 = x118 from (gf_at f134 (c121 hS) (s121 hS) rfl ((up_k u124 (by decide) (h119)))))
                          have := ((by decide : (2 : Int32).toInt = 2) : ((2 : Int32)).toInt = 2)
                          obtain ⟨rfl, FI149, rfl, hI150, f151, t152⟩ := p147
                          have rl153 : rl_e (FI149 149) (FI149 121 67) := by rw [show FI149 149 = FI132 149 from gf_row f151 (c149 hS) (s149 hS) rfl rfl, show FI149 121 67 = FI132 121 67 from gf_at f151 (c121 hS) (s121 hS) rfl rfl]; exact rl138
                          have rl154 : rl_t (FI149 149) (FL 150) := by rw [show FI149 149 = FI132 149 from gf_row f151 (c149 hS) (s149 hS) rfl rfl]; exact rl139
                          obtain ⟨x155, h156⟩ : ∃ y, FI149 121 73 = y := ⟨_, rfl⟩
                          have h156l := congrArg Int32.toInt h156
                          have b157 := gI_121_73 hI150; rw [h156] at b157
                          show hw base _ _ _ _ _ [] _ _
                          refine hw_aloadn (aX12_rows 106 rfl) rfl ?_
                          refine hw_get (v := .int (x143)) (aX12_rows 107 rfl) wf_RX12_475 (c121 hS) (s121 hS) (by decide) (congrArg Value.int (show FI149 121 69 = x143 from (gf_at f151 (c121 hS) (s121 hS) rfl (h144)))) ?_
                          refine hw_ifeq (tgt := 206) (aX12_rows 108 rfl) (by decide) rfl (fun cd158 => ?_) (fun cd158 => ?_)
                          · refine hw_aloadn (aX12_rows 110 rfl) rfl ?_
                            have := congrArg Int32.toInt (show FI149 121 68 = x140 from (gf_at f151 (c121 hS) (s121 hS) rfl (h141)))
                            have := congrArg Int32.toInt (show FI149 121 69 = x143 from (gf_at f151 (c121 hS) (s121 hS) rfl (h144)))
                            have := congrArg Int32.toInt (show FI149 121 71 = x47 from (gf_at f151 (c121 hS) (s121 hS) rfl ((gf_at f134 (c121 hS) (s121 hS) rfl ((up_k u124 (by decide) ((gf_at f114 (c121 hS) (s121 hS) rfl ((gf_at f101 (c121 hS) (s121 hS) rfl ((gf_at f73 (c121 hS) (s121 hS) rfl ((up_k u63 (by decide) (h48)))))))))))))))
                            refine hw_callV (Bs := []) (rest := []) (aX12_rows 111 rfl) wc_RX12_532 (by decide) rfl wi_yX12_location wv_yX12_location (c121 hS) (s121 hS) rfl rfl rfl (Nat.le_of_ble_eq_true rfl) (Nat.le_of_ble_eq_true rfl) (n_location (d := d) hS hF hI150 (by have := congrArg Int32.toInt (show FI149 121 68 = x140 from (gf_at f151 (c121 hS) (s121 hS) rfl (h141))); have := congrArg Int32.toInt (show FI149 121 67 = x4 from (gf_at f151 (c121 hS) (s121 hS) rfl ((gf_at f134 (c121 hS) (s121 hS) rfl ((up_k u124 (by decide) ((gf_at f114 (c121 hS) (s121 hS) rfl ((gf_at f101 (c121 hS) (s121 hS) rfl ((gf_at f73 (c121 hS) (s121 hS) rfl ((up_k u63 (by decide) (kp26))))))))))))))); omega) (by have := congrArg Int32.toInt (show FI149 121 69 = x143 from (gf_at f151 (c121 hS) (s121 hS) rfl (h144))); omega) (by have := congrArg Int32.toInt (show FI149 121 73 = x155 from h156); have := congrArg Int32.toInt (show FI149 121 68 = x140 from (gf_at f151 (c121 hS) (s121 hS) rfl (h141))); omega) (by have := congrArg Int32.toInt (show FI149 121 71 = x47 from (gf_at f151 (c121 hS) (s121 hS) rfl ((gf_at f134 (c121 hS) (s121 hS) rfl ((up_k u124 (by decide) ((gf_at f114 (c121 hS) (s121 hS) rfl ((gf_at f101 (c121 hS) (s121 hS) rfl ((gf_at f73 (c121 hS) (s121 hS) rfl ((up_k u63 (by decide) (h48))))))))))))))); omega) (by have := congrArg Int32.toInt (show FI149 121 78 = x14 from (gf_at f151 (c121 hS) (s121 hS) rfl ((gf_at f134 (c121 hS) (s121 hS) rfl ((up_k u124 (by decide) ((gf_at f114 (c121 hS) (s121 hS) rfl ((gf_at f101 (c121 hS) (s121 hS) rfl ((gf_at f73 (c121 hS) (s121 hS) rfl ((up_k u63 (by decide) (kp27))))))))))))))); omega) (show rl_e (FI149 149) (FI149 121 67) from rl153) (show rl_t (FI149 149) (FL 150) from rl154)) (fun v159 sv160 p161 => ?_)
                            have := congrArg Int32.toInt (show FI149 121 68 = x140 from (gf_at f151 (c121 hS) (s121 hS) rfl (h141)))
                            have := congrArg Int32.toInt (show FI149 121 73 = x155 from h156)
                            have := congrArg Int32.toInt (show FI149 121 68 = x140 from (gf_at f151 (c121 hS) (s121 hS) rfl (h141)))
                            have := congrArg Int32.toInt (show FI149 121 73 = x155 from h156)
                            obtain ⟨rfl, FI163, rfl, hI164, f165, t166, t167, t168, t169, t170, u171, u172⟩ := p161
                            have rl173 : rl_e (FI163 149) (FI163 121 67) := by rw [show FI163 149 = FI149 149 from gf_row f165 (c149 hS) (s149 hS) rfl rfl, show FI163 121 67 = FI149 121 67 from gf_at f165 (c121 hS) (s121 hS) rfl rfl]; exact rl153
                            have rl174 : rl_t (FI163 149) (FL 150) := by rw [show FI163 149 = FI149 149 from gf_row f165 (c149 hS) (s149 hS) rfl rfl]; exact rl154
                            obtain ⟨x175, h176⟩ : ∃ y, FI163 121 68 = y := ⟨_, rfl⟩
                            have h176l := congrArg Int32.toInt h176
                            have b177 := gI_121_68 hI164; rw [h176] at b177
                            have := congrArg Int32.toInt (show FI163 121 67 = x4 from (gf_at f165 (c121 hS) (s121 hS) rfl ((gf_at f151 (c121 hS) (s121 hS) rfl ((gf_at f134 (c121 hS) (s121 hS) rfl ((up_k u124 (by decide) ((gf_at f114 (c121 hS) (s121 hS) rfl ((gf_at f101 (c121 hS) (s121 hS) rfl ((gf_at f73 (c121 hS) (s121 hS) rfl ((up_k u63 (by decide) (kp26)))))))))))))))))
                            obtain ⟨x178, h179⟩ : ∃ y, FI163 121 73 = y := ⟨_, rfl⟩
                            have h179l := congrArg Int32.toInt h179
                            have b180 := gI_121_73 hI164; rw [h179] at b180
                            obtain ⟨x181, h182⟩ : ∃ y, FI163 121 71 = y := ⟨_, rfl⟩
                            have h182l := congrArg Int32.toInt h182
                            have := i_rng x181
                            show hw base _ _ _ _ _ [] _ _
                            obtain ⟨x183, h184⟩ : ∃ y, FI163 121 69 = y := ⟨_, rfl⟩
                            have h184l := congrArg Int32.toInt h184
                            have := i_rng x183
                            have := congrArg Int32.toInt (show FI163 121 69 = x183 from h184)
                            have := congrArg Int32.toInt (show FI163 121 68 = x175 from h176)
                            have := congrArg Int32.toInt (show FI163 121 71 = x181 from h182)
                            have hgl := u171; rw [show FI149 149 = FI 149 from (gf_row f151 (c149 hS) (s149 hS) rfl ((gf_row f134 (c149 hS) (s149 hS) rfl ((up_row u124 (by decide) ((gf_row f114 (c149 hS) (s149 hS) rfl ((gf_row f101 (c149 hS) (s149 hS) rfl ((gf_row f73 (c149 hS) (s149 hS) rfl ((up_row u63 (by decide) (rw37)))))))))))))), show (FI149 121 68).toInt.toNat = (FIv23 121 68).toInt.toNat + 4 by omega] at hgl
                            have ho71 := u172
                            have hsn := fun h => gr_rws_snoc xi13_0 (hgl h)
                            refine hw_aloadn (aX12_rows 112 rfl) rfl ?_
                            refine hw_get (v := .int (x178)) (aX12_rows 113 rfl) wf_RX12_493 (c121 hS) (s121 hS) (by decide) (congrArg Value.int (show FI163 121 73 = x178 from h179)) ?_
                            refine xw_iload (aX12_rows 114 rfl) rfl ?_
                            refine xw_isub (aX12_rows 115 rfl) ?_
                            refine hw_tie (A := ((x178).toInt) - ((x118).toInt)) (i_sub rfl rfl (by omega) (by omega)) (fun x185 e186 => ?_)
                            refine hw_ic (v := (2 : Int32)) (aX12_rows 116 rfl) (by decide) ?_
                            refine xw_isub (aX12_rows 117 rfl) ?_
                            refine hw_tie (A := (((x178).toInt) - ((x118).toInt)) - (2)) (i_sub e186 (by decide : (2 : Int32).toInt = 2) (by omega) (by omega)) (fun x187 e188 => ?_)
                            refine xw_istore (L2 := [(5, .int (x187)), (4, .int (x118)), (2, .long (x58)), (0, .ref (base + 121))]) (aX12_rows 118 rfl) (by decide) rfl ?_
                            refine hw_aloadn (aX12_rows 119 rfl) rfl ?_
                            refine hw_get (v := .int (x178)) (aX12_rows 120 rfl) wf_RX12_493 (c121 hS) (s121 hS) (by decide) (congrArg Value.int (show FI163 121 73 = x178 from h179)) ?_
                            refine hw_sp (v := (4000 : Int32)) (aX12_rows 121 rfl) (by decide) ?_
                            refine hw_icgt (tgt := 262) (aX12_rows 122 rfl) (by decide) rfl (by decide : (4000 : Int32).toInt = 4000) (fun cd189 => ?_) (fun cd189 => ?_)
                            · refine hw_aloadn (aX12_rows 141 rfl) rfl ?_
                              refine hw_get (v := .ref (base + 159)) (aX12_rows 142 rfl) wf_RX12_135 (c121 hS) (s121 hS) (by decide) (congrArg (fun r => va_rf (h_rf base r)) (r121_80 hF)) ?_
                              refine hw_aloadn (aX12_rows 143 rfl) rfl ?_
                              refine hw_get (v := .int (x14)) (aX12_rows 144 rfl) wf_RX12_515 (c121 hS) (s121 hS) (by decide) (congrArg Value.int (show FI163 121 78 = x14 from (gf_at f165 (c121 hS) (s121 hS) rfl ((gf_at f151 (c121 hS) (s121 hS) rfl ((gf_at f134 (c121 hS) (s121 hS) rfl ((up_k u124 (by decide) ((gf_at f114 (c121 hS) (s121 hS) rfl ((gf_at f101 (c121 hS) (s121 hS) rfl ((gf_at f73 (c121 hS) (s121 hS) rfl ((up_k u63 (by decide) (kp27)))))))))))))))))) ?_
                              refine hw_aloadn (aX12_rows 145 rfl) rfl ?_
                              refine hw_get (v := .ref (base + 159)) (aX12_rows 146 rfl) wf_RX12_135 (c121 hS) (s121 hS) (by decide) (congrArg (fun r => va_rf (h_rf base r)) (r121_80 hF)) ?_
                              refine hw_aloadn (aX12_rows 147 rfl) rfl ?_
                              refine hw_get (v := .int (x14)) (aX12_rows 148 rfl) wf_RX12_515 (c121 hS) (s121 hS) (by decide) (congrArg Value.int (show FI163 121 78 = x14 from (gf_at f165 (c121 hS) (s121 hS) rfl ((gf_at f151 (c121 hS) (s121 hS) rfl ((gf_at f134 (c121 hS) (s121 hS) rfl ((up_k u124 (by decide) ((gf_at f114 (c121 hS) (s121 hS) rfl ((gf_at f101 (c121 hS) (s121 hS) rfl ((gf_at f73 (c121 hS) (s121 hS) rfl ((up_k u63 (by decide) (kp27)))))))))))))))))) ?_
                              refine hw_iald (v := x51) (aX12_rows 149 rfl) (c159 hS) (s159 hS) (h_in rfl (by omega) (by omega)) (show FI163 159 (x14).toNatClampNeg = x51 from (gf_at f165 (c159 hS) (s159 hS) rfl ((gf_at f151 (c159 hS) (s159 hS) rfl ((gf_at f134 (c159 hS) (s159 hS) rfl ((up_c u124 (by decide) ((gf_at f114 (c159 hS) (s159 hS) rfl ((gf_at f101 (c159 hS) (s159 hS) rfl ((gf_at f73 (c159 hS) (s159 hS) rfl ((up_c u63 (by decide) (h52))))))))))))))))) ?_
                              refine hw_ic (v := (1 : Int32)) (aX12_rows 150 rfl) (by decide) ?_
                              refine xw_iadd (aX12_rows 151 rfl) ?_
                              refine hw_tie (A := ((x51).toInt) + (1)) (i_add rfl (by decide : (1 : Int32).toInt = 1) (by omega) (by omega)) (fun x190 e191 => ?_)
                              refine hv_iast (k := (x14).toNatClampNeg) (aX12_rows 152 rfl) (c159 hS) (s159 hS) (h_in rfl (by omega) (by omega)) rfl (fun FI192 u193 => ?_)
                              have rl194 : rl_e (FI192 149) (FI192 121 67) := by rw [show FI192 149 = FI163 149 from up_row u193 (by decide) rfl, show FI192 121 67 = FI163 121 67 from up_c u193 (by decide) rfl]; exact rl173
                              have rl195 : rl_t (FI192 149) (FL 150) := by rw [show FI192 149 = FI163 149 from up_row u193 (by decide) rfl]; exact rl174
                              have hI196 : g_I FI192 := gU_159 hI164 u193 (by have := (e191 : (x190).toInt = ((x51).toInt) + (1)); omega) (by have := (e191 : (x190).toInt = ((x51).toInt) + (1)); omega)
                              refine hw_aloadn (aX12_rows 153 rfl) rfl ?_
                              refine hw_get (v := .int (x183)) (aX12_rows 154 rfl) wf_RX12_475 (c121 hS) (s121 hS) (by decide) (congrArg Value.int (show FI192 121 69 = x183 from (up_c u193 (by decide) (h184)))) ?_
                              refine hw_ifne (tgt := 302) (aX12_rows 155 rfl) (by decide) rfl (fun cd197 => ?_) (fun cd197 => ?_)
                              · refine hw_ic (v := (0 : Int32)) (aX12_rows 162 rfl) (by decide) ?_
                                refine xw_istoren (L2 := [(1, .int ((0 : Int32))), (5, .int (x187)), (4, .int (x118)), (2, .long (x58)), (0, .ref (base + 121))]) (aX12_rows 163 rfl) (by decide) rfl ?_
                                refine xw_iloadn (aX12_rows 164 rfl) rfl ?_
                                refine hw_ifeq (tgt := 318) (aX12_rows 165 rfl) (by decide) (by decide : (0 : Int32).toInt = 0) (fun cd198 => ?_) (fun cd198 => ?_)
                                · refine xw_goto (tgt := 2) (aX12_rows 172 rfl) (by decide) ?_
                                  refine xw_iloadn (aX12_rows 2 rfl) rfl ?_
                                  refine hw_ifeq (tgt := 321) (aX12_rows 3 rfl) (by decide) (by decide : (0 : Int32).toInt = 0) (fun cd199 => ?_) (fun cd199 => ?_)
                                  · refine hw_aloadn (aX12_rows 173 rfl) rfl ?_
                                    refine hw_lc (v := (0 : Int64)) (aX12_rows 174 rfl) (by decide) ?_
                                    refine hw_bp (v := (8 : Int32)) (aX12_rows 175 rfl) (by decide) ?_
                                    refine hw_callV (Bs := [.long ((0 : Int64)), .int ((8 : Int32))]) (rest := []) (aX12_rows 176 rfl) wc_RX12_505 (by decide) rfl wi_yX12_emits wv_yX12_emits (c121 hS) (s121 hS) rfl rfl rfl (Nat.le_of_ble_eq_true rfl) (Nat.le_of_ble_eq_true rfl) (n_emits0 (d := d + 7) hS hF hI196 ((0 : Int64)) ((8 : Int32)) (by have := congrArg Int32.toInt (show FI192 121 73 = x178 from (up_c u193 (by decide) (h179))); omega) (by have := ((by decide : (8 : Int32).toInt = 8) : ((8 : Int32)).toInt = 8); have := ((by decide : (8 : Int32).toInt = 8) : ((8 : Int32)).toInt = 8); omega)) (fun v200 sv201 p202 => ?_)
                                    have := congrArg Int32.toInt (show FI192 121 73 = x178 from (up_c u193 (by decide) (h179)))
                                    have := ((by decide : (8 : Int32).toInt = 8) : ((8 : Int32)).toInt = 8)
                                    obtain ⟨rfl, FI204, rfl, hI205, f206, t207⟩ := p202
                                    have rl208 : rl_e (FI204 149) (FI204 121 67) := by rw [show FI204 149 = FI192 149 from gf_row f206 (c149 hS) (s149 hS) rfl rfl, show FI204 121 67 = FI192 121 67 from gf_at f206 (c121 hS) (s121 hS) rfl rfl]; exact rl194
                                    have rl209 : rl_t (FI204 149) (FL 150) := by rw [show FI204 149 = FI192 149 from gf_row f206 (c149 hS) (s149 hS) rfl rfl]; exact rl195
                                    obtain ⟨x210, h211⟩ : ∃ y, FI204 121 73 = y := ⟨_, rfl⟩
                                    have h211l := congrArg Int32.toInt h211
                                    have b212 := gI_121_73 hI205; rw [h211] at b212
                                    show hw base _ _ _ _ _ [] _ _
                                    refine hw_aloadn (aX12_rows 177 rfl) rfl ?_
                                    refine hw_lc (v := (0 : Int64)) (aX12_rows 178 rfl) (by decide) ?_
                                    refine hw_bp (v := (8 : Int32)) (aX12_rows 179 rfl) (by decide) ?_
                                    refine hw_callV (Bs := [.long ((0 : Int64)), .int ((8 : Int32))]) (rest := []) (aX12_rows 180 rfl) wc_RX12_505 (by decide) rfl wi_yX12_emits wv_yX12_emits (c121 hS) (s121 hS) rfl rfl rfl (Nat.le_of_ble_eq_true rfl) (Nat.le_of_ble_eq_true rfl) (n_emits0 (d := d + 7) hS hF hI205 ((0 : Int64)) ((8 : Int32)) (by have := congrArg Int32.toInt (show FI204 121 73 = x210 from h211); omega) (by have := ((by decide : (8 : Int32).toInt = 8) : ((8 : Int32)).toInt = 8); have := ((by decide : (8 : Int32).toInt = 8) : ((8 : Int32)).toInt = 8); omega)) (fun v213 sv214 p215 => ?_)
                                    have := congrArg Int32.toInt (show FI204 121 73 = x210 from h211)
                                    have := ((by decide : (8 : Int32).toInt = 8) : ((8 : Int32)).toInt = 8)
                                    obtain ⟨rfl, FI217, rfl, hI218, f219, t220⟩ := p215
                                    have rl221 : rl_e (FI217 149) (FI217 121 67) := by rw [show FI217 149 = FI204 149 from gf_row f219 (c149 hS) (s149 hS) rfl rfl, show FI217 121 67 = FI204 121 67 from gf_at f219 (c121 hS) (s121 hS) rfl rfl]; exact rl208
                                    have rl222 : rl_t (FI217 149) (FL 150) := by rw [show FI217 149 = FI204 149 from gf_row f219 (c149 hS) (s149 hS) rfl rfl]; exact rl209
                                    obtain ⟨x223, h224⟩ : ∃ y, FI217 121 73 = y := ⟨_, rfl⟩
                                    have h224l := congrArg Int32.toInt h224
                                    have b225 := gI_121_73 hI218; rw [h224] at b225
                                    show hw base _ _ _ _ _ [] _ _
                                    refine xw_vret (aX12_rows 181 rfl) rfl ?_
                                    exact ⟨rfl, FI217, rfl, hI218, (gf_tr ex_rf (gf_tr ex_rf (gf_a (gf_tr ex_rf (gf_tr ex_rf (gf_tr ex_rf (gf_f (gf_tr ex_rf (gf_tr ex_rf (gf_tr ex_rf (gf_f fr24 u63 (by decide)) f73 rfl rfl rfl) f101 rfl rfl rfl) f114 rfl rfl rfl) u124 (by decide)) f134 rfl rfl rfl) f151 rfl rfl rfl) f165 rfl rfl rfl) u193 (by decide)) f206 rfl rfl rfl) f219 rfl rfl rfl), (by have := congrArg Int32.toInt (show FI217 121 67 = x4 from (gf_at f219 (c121 hS) (s121 hS) rfl ((gf_at f206 (c121 hS) (s121 hS) rfl ((up_c u193 (by decide) ((gf_at f165 (c121 hS) (s121 hS) rfl ((gf_at f151 (c121 hS) (s121 hS) rfl ((gf_at f134 (c121 hS) (s121 hS) rfl ((up_k u124 (by decide) ((gf_at f114 (c121 hS) (s121 hS) rfl ((gf_at f101 (c121 hS) (s121 hS) rfl ((gf_at f73 (c121 hS) (s121 hS) rfl ((up_k u63 (by decide) (kp26))))))))))))))))))))))); have := congrArg Int32.toInt (show FI217 121 68 = x175 from (gf_at f219 (c121 hS) (s121 hS) rfl ((gf_at f206 (c121 hS) (s121 hS) rfl ((up_c u193 (by decide) (h176))))))); omega), (by have := congrArg Int32.toInt (show FI217 121 68 = x175 from (gf_at f219 (c121 hS) (s121 hS) rfl ((gf_at f206 (c121 hS) (s121 hS) rfl ((up_c u193 (by decide) (h176))))))); omega), (by have := congrArg Int32.toInt (show FI217 121 68 = x175 from (gf_at f219 (c121 hS) (s121 hS) rfl ((gf_at f206 (c121 hS) (s121 hS) rfl ((up_c u193 (by decide) (h176))))))); have := congrArg Int32.toInt (show FI217 121 73 = x223 from h224); omega), (by have := congrArg Int32.toInt (show FI217 121 73 = x223 from h224); omega), (by have := congrArg Int32.toInt (show FI217 121 69 = x183 from (gf_at f219 (c121 hS) (s121 hS) rfl ((gf_at f206 (c121 hS) (s121 hS) rfl ((up_c u193 (by decide) (h184))))))); exact fun h => absurd h (by omega))⟩
                                  · omega
                                · omega
                              · have ho0 := ho71 (by omega)
                                refine hw_aloadn (aX12_rows 156 rfl) rfl ?_
                                refine hw_bp (v := (44 : Int32)) (aX12_rows 157 rfl) (by decide) ?_
                                refine hw_callV (Bs := [.int ((44 : Int32))]) (rest := []) (aX12_rows 158 rfl) wc_RX12_484 (by decide) rfl wi_yX12_isSign wv_yX12_isSign (c121 hS) (s121 hS) rfl rfl rfl (Nat.le_of_ble_eq_true rfl) (Nat.le_of_ble_eq_true rfl) (n_isSign (d := d + 8) hS hF hI196 ((44 : Int32)) (by have := congrArg Int32.toInt (show FI192 121 68 = x175 from (up_c u193 (by decide) (h176))); have := congrArg Int32.toInt (show FI192 121 67 = x4 from (up_c u193 (by decide) ((gf_at f165 (c121 hS) (s121 hS) rfl ((gf_at f151 (c121 hS) (s121 hS) rfl ((gf_at f134 (c121 hS) (s121 hS) rfl ((up_k u124 (by decide) ((gf_at f114 (c121 hS) (s121 hS) rfl ((gf_at f101 (c121 hS) (s121 hS) rfl ((gf_at f73 (c121 hS) (s121 hS) rfl ((up_k u63 (by decide) (kp26))))))))))))))))))); omega) (show rl_e (FI192 149) (FI192 121 67) from rl194)) (fun v226 sv227 p228 => ?_)
                                have := congrArg Int32.toInt (show FI192 121 68 = x175 from (up_c u193 (by decide) (h176)))
                                have := congrArg Int32.toInt (show FI192 121 67 = x4 from (up_c u193 (by decide) ((gf_at f165 (c121 hS) (s121 hS) rfl ((gf_at f151 (c121 hS) (s121 hS) rfl ((gf_at f134 (c121 hS) (s121 hS) rfl ((up_k u124 (by decide) ((gf_at f114 (c121 hS) (s121 hS) rfl ((gf_at f101 (c121 hS) (s121 hS) rfl ((gf_at f73 (c121 hS) (s121 hS) rfl ((up_k u63 (by decide) (kp26)))))))))))))))))))
                                obtain ⟨r229, rfl, rfl, t231, t232, u233⟩ := p228
                                show hw base _ _ _ _ _ [.int (r229)] _ _
                                refine hw_ifeq (tgt := 302) (aX12_rows 159 rfl) (by decide) rfl (fun cd234 => ?_) (fun cd234 => ?_)
                                · clear t231
                                  refine hw_ic (v := (0 : Int32)) (aX12_rows 162 rfl) (by decide) ?_
                                  refine xw_istoren (L2 := [(1, .int ((0 : Int32))), (5, .int (x187)), (4, .int (x118)), (2, .long (x58)), (0, .ref (base + 121))]) (aX12_rows 163 rfl) (by decide) rfl ?_
                                  refine xw_iloadn (aX12_rows 164 rfl) rfl ?_
                                  refine hw_ifeq (tgt := 318) (aX12_rows 165 rfl) (by decide) (by decide : (0 : Int32).toInt = 0) (fun cd235 => ?_) (fun cd235 => ?_)
                                  · refine xw_goto (tgt := 2) (aX12_rows 172 rfl) (by decide) ?_
                                    refine xw_iloadn (aX12_rows 2 rfl) rfl ?_
                                    refine hw_ifeq (tgt := 321) (aX12_rows 3 rfl) (by decide) (by decide : (0 : Int32).toInt = 0) (fun cd236 => ?_) (fun cd236 => ?_)
                                    · refine hw_aloadn (aX12_rows 173 rfl) rfl ?_
                                      refine hw_lc (v := (0 : Int64)) (aX12_rows 174 rfl) (by decide) ?_
                                      refine hw_bp (v := (8 : Int32)) (aX12_rows 175 rfl) (by decide) ?_
                                      refine hw_callV (Bs := [.long ((0 : Int64)), .int ((8 : Int32))]) (rest := []) (aX12_rows 176 rfl) wc_RX12_505 (by decide) rfl wi_yX12_emits wv_yX12_emits (c121 hS) (s121 hS) rfl rfl rfl (Nat.le_of_ble_eq_true rfl) (Nat.le_of_ble_eq_true rfl) (n_emits0 (d := d + 7) hS hF hI196 ((0 : Int64)) ((8 : Int32)) (by have := congrArg Int32.toInt (show FI192 121 73 = x178 from (up_c u193 (by decide) (h179))); omega) (by have := ((by decide : (8 : Int32).toInt = 8) : ((8 : Int32)).toInt = 8); have := ((by decide : (8 : Int32).toInt = 8) : ((8 : Int32)).toInt = 8); omega)) (fun v237 sv238 p239 => ?_)
                                      have := congrArg Int32.toInt (show FI192 121 73 = x178 from (up_c u193 (by decide) (h179)))
                                      have := ((by decide : (8 : Int32).toInt = 8) : ((8 : Int32)).toInt = 8)
                                      obtain ⟨rfl, FI241, rfl, hI242, f243, t244⟩ := p239
                                      have rl245 : rl_e (FI241 149) (FI241 121 67) := by rw [show FI241 149 = FI192 149 from gf_row f243 (c149 hS) (s149 hS) rfl rfl, show FI241 121 67 = FI192 121 67 from gf_at f243 (c121 hS) (s121 hS) rfl rfl]; exact rl194
                                      have rl246 : rl_t (FI241 149) (FL 150) := by rw [show FI241 149 = FI192 149 from gf_row f243 (c149 hS) (s149 hS) rfl rfl]; exact rl195
                                      obtain ⟨x247, h248⟩ : ∃ y, FI241 121 73 = y := ⟨_, rfl⟩
                                      have h248l := congrArg Int32.toInt h248
                                      have b249 := gI_121_73 hI242; rw [h248] at b249
                                      show hw base _ _ _ _ _ [] _ _
                                      refine hw_aloadn (aX12_rows 177 rfl) rfl ?_
                                      refine hw_lc (v := (0 : Int64)) (aX12_rows 178 rfl) (by decide) ?_
                                      refine hw_bp (v := (8 : Int32)) (aX12_rows 179 rfl) (by decide) ?_
                                      refine hw_callV (Bs := [.long ((0 : Int64)), .int ((8 : Int32))]) (rest := []) (aX12_rows 180 rfl) wc_RX12_505 (by decide) rfl wi_yX12_emits wv_yX12_emits (c121 hS) (s121 hS) rfl rfl rfl (Nat.le_of_ble_eq_true rfl) (Nat.le_of_ble_eq_true rfl) (n_emits0 (d := d + 7) hS hF hI242 ((0 : Int64)) ((8 : Int32)) (by have := congrArg Int32.toInt (show FI241 121 73 = x247 from h248); omega) (by have := ((by decide : (8 : Int32).toInt = 8) : ((8 : Int32)).toInt = 8); have := ((by decide : (8 : Int32).toInt = 8) : ((8 : Int32)).toInt = 8); omega)) (fun v250 sv251 p252 => ?_)
                                      have := congrArg Int32.toInt (show FI241 121 73 = x247 from h248)
                                      have := ((by decide : (8 : Int32).toInt = 8) : ((8 : Int32)).toInt = 8)
                                      obtain ⟨rfl, FI254, rfl, hI255, f256, t257⟩ := p252
                                      have rl258 : rl_e (FI254 149) (FI254 121 67) := by rw [show FI254 149 = FI241 149 from gf_row f256 (c149 hS) (s149 hS) rfl rfl, show FI254 121 67 = FI241 121 67 from gf_at f256 (c121 hS) (s121 hS) rfl rfl]; exact rl245
                                      have rl259 : rl_t (FI254 149) (FL 150) := by rw [show FI254 149 = FI241 149 from gf_row f256 (c149 hS) (s149 hS) rfl rfl]; exact rl246
                                      obtain ⟨x260, h261⟩ : ∃ y, FI254 121 73 = y := ⟨_, rfl⟩
                                      have h261l := congrArg Int32.toInt h261
                                      have b262 := gI_121_73 hI255; rw [h261] at b262
                                      show hw base _ _ _ _ _ [] _ _
                                      refine xw_vret (aX12_rows 181 rfl) rfl ?_
                                      exact ⟨rfl, FI254, rfl, hI255, (gf_tr ex_rf (gf_tr ex_rf (gf_a (gf_tr ex_rf (gf_tr ex_rf (gf_tr ex_rf (gf_f (gf_tr ex_rf (gf_tr ex_rf (gf_tr ex_rf (gf_f fr24 u63 (by decide)) f73 rfl rfl rfl) f101 rfl rfl rfl) f114 rfl rfl rfl) u124 (by decide)) f134 rfl rfl rfl) f151 rfl rfl rfl) f165 rfl rfl rfl) u193 (by decide)) f243 rfl rfl rfl) f256 rfl rfl rfl), (by have := congrArg Int32.toInt (show FI254 121 67 = x4 from (gf_at f256 (c121 hS) (s121 hS) rfl ((gf_at f243 (c121 hS) (s121 hS) rfl ((up_c u193 (by decide) ((gf_at f165 (c121 hS) (s121 hS) rfl ((gf_at f151 (c121 hS) (s121 hS) rfl ((gf_at f134 (c121 hS) (s121 hS) rfl ((up_k u124 (by decide) ((gf_at f114 (c121 hS) (s121 hS) rfl ((gf_at f101 (c121 hS) (s121 hS) rfl ((gf_at f73 (c121 hS) (s121 hS) rfl ((up_k u63 (by decide) (kp26))))))))))))))))))))))); have := congrArg Int32.toInt (show FI254 121 68 = x175 from (gf_at f256 (c121 hS) (s121 hS) rfl ((gf_at f243 (c121 hS) (s121 hS) rfl ((up_c u193 (by decide) (h176))))))); omega), (by have := congrArg Int32.toInt (show FI254 121 68 = x175 from (gf_at f256 (c121 hS) (s121 hS) rfl ((gf_at f243 (c121 hS) (s121 hS) rfl ((up_c u193 (by decide) (h176))))))); omega), (by have := congrArg Int32.toInt (show FI254 121 68 = x175 from (gf_at f256 (c121 hS) (s121 hS) rfl ((gf_at f243 (c121 hS) (s121 hS) rfl ((up_c u193 (by decide) (h176))))))); have := congrArg Int32.toInt (show FI254 121 73 = x260 from h261); omega), (by have := congrArg Int32.toInt (show FI254 121 73 = x260 from h261); omega), (by have := congrArg Int32.toInt (show FI254 121 68 = x175 from (gf_at f256 (c121 hS) (s121 hS) rfl ((gf_at f243 (c121 hS) (s121 hS) rfl ((up_c u193 (by decide) (h176))))))); have := congrArg Int32.toInt (show FI254 121 69 = x183 from (gf_at f256 (c121 hS) (s121 hS) rfl ((gf_at f243 (c121 hS) (s121 hS) rfl ((up_c u193 (by decide) (h184))))))); have := congrArg Int32.toInt (show FI254 159 (FI 121 78).toNatClampNeg = x190 from (by rw [show FI 121 78 = x14 from h15]; exact (gf_at f256 (c159 hS) (s159 hS) rfl ((gf_at f243 (c159 hS) (s159 hS) rfl (up_eq u193)))))); have := (e191 : (x190).toInt = ((x51).toInt) + (1)); have := congrArg Int32.toInt (show FIv23 159 (FI 121 78).toNatClampNeg = x51 from (by rw [show FI 121 78 = x14 from h15]; exact h52)); intro h69; refine ⟨?_, by omega⟩; rw [show ((FI254 159 (FI 121 78).toNatClampNeg).toInt).toNat = ((FIv23 159 (FI 121 78).toNatClampNeg).toInt).toNat + 1 by omega, show (FI254 121 68).toInt.toNat = (FI163 121 68).toInt.toNat by omega]; exact hsn (by omega))⟩
                                    · omega
                                  · omega
                                · replace t231 := t231 (by omega)
                                  refine hw_ic (v := (1 : Int32)) (aX12_rows 160 rfl) (by decide) ?_
                                  refine xw_goto (tgt := 303) (aX12_rows 161 rfl) (by decide) ?_
                                  refine xw_istoren (L2 := [(1, .int ((1 : Int32))), (5, .int (x187)), (4, .int (x118)), (2, .long (x58)), (0, .ref (base + 121))]) (aX12_rows 163 rfl) (by decide) rfl ?_
                                  refine xw_iloadn (aX12_rows 164 rfl) rfl ?_
                                  refine hw_ifeq (tgt := 318) (aX12_rows 165 rfl) (by decide) (by decide : (1 : Int32).toInt = 1) (fun cd263 => ?_) (fun cd263 => ?_)
                                  · omega
                                  · refine hw_aloadn (aX12_rows 166 rfl) rfl ?_
                                    refine hw_aloadn (aX12_rows 167 rfl) rfl ?_
                                    refine hw_get (v := .int (x175)) (aX12_rows 168 rfl) wf_RX12_478 (c121 hS) (s121 hS) (by decide) (congrArg Value.int (show FI192 121 68 = x175 from (up_c u193 (by decide) (h176)))) ?_
                                    refine hw_ic (v := (1 : Int32)) (aX12_rows 169 rfl) (by decide) ?_
                                    refine xw_iadd (aX12_rows 170 rfl) ?_
                                    refine hw_tie (A := ((x175).toInt) + (1)) (i_add rfl (by decide : (1 : Int32).toInt = 1) (by omega) (by omega)) (fun x264 e265 => ?_)
                                    refine hv_puti (aX12_rows 171 rfl) wf_RX12_478 (c121 hS) (s121 hS) (by decide) rfl rfl (fun FI266 u267 => ?_)
                                    have rl268 : rl_e (FI266 149) (FI266 121 67) := by rw [show FI266 149 = FI192 149 from up_row u267 (by decide) rfl, show FI266 121 67 = FI192 121 67 from up_k u267 (by decide) rfl]; exact rl194
                                    have rl269 : rl_t (FI266 149) (FL 150) := by rw [show FI266 149 = FI192 149 from up_row u267 (by decide) rfl]; exact rl195
                                    have hI270 : g_I FI266 := gU_121_68 hI196 u267 (by have := (e265 : (x264).toInt = ((x175).toInt) + (1)); omega) (by have := (e265 : (x264).toInt = ((x175).toInt) + (1)); omega)
                                    refine xw_goto (tgt := 2) (aX12_rows 172 rfl) (by decide) ?_
                                    refine xw_iloadn (aX12_rows 2 rfl) rfl ?_
                                    refine hw_ifeq (tgt := 321) (aX12_rows 3 rfl) (by decide) (by decide : (1 : Int32).toInt = 1) (fun cd271 => ?_) (fun cd271 => ?_)
                                    · omega
                                    · refine hw_aloadn (aX12_rows 4 rfl) rfl ?_
                                      refine hw_get (v := .int (x183)) (aX12_rows 5 rfl) wf_RX12_475 (c121 hS) (s121 hS) (by decide) (congrArg Value.int (show FI266 121 69 = x183 from (up_k u267 (by decide) ((up_c u193 (by decide) (h184)))))) ?_
                                      refine hw_ifne (tgt := 321) (aX12_rows 6 rfl) (by decide) rfl (fun cd272 => ?_) (fun cd272 => ?_)
                                      · omega
                                      · exact hw_L (ih FI266 (gf_f (gf_a (gf_tr ex_rf (gf_tr ex_rf (gf_tr ex_rf (gf_f (gf_tr ex_rf (gf_tr ex_rf (gf_tr ex_rf (gf_f fr24 u63 (by decide)) f73 rfl rfl rfl) f101 rfl rfl rfl) f114 rfl rfl rfl) u124 (by decide)) f134 rfl rfl rfl) f151 rfl rfl rfl) f165 rfl rfl rfl) u193 (by decide)) u267 (by decide)) hI270 (show FI266 121 67 = x4 from (up_k u267 (by decide) ((up_c u193 (by decide) ((gf_at f165 (c121 hS) (s121 hS) rfl ((gf_at f151 (c121 hS) (s121 hS) rfl ((gf_at f134 (c121 hS) (s121 hS) rfl ((up_k u124 (by decide) ((gf_at f114 (c121 hS) (s121 hS) rfl ((gf_at f101 (c121 hS) (s121 hS) rfl ((gf_at f73 (c121 hS) (s121 hS) rfl ((up_k u63 (by decide) (kp26))))))))))))))))))))) (show FI266 121 78 = x14 from (up_k u267 (by decide) ((up_c u193 (by decide) ((gf_at f165 (c121 hS) (s121 hS) rfl ((gf_at f151 (c121 hS) (s121 hS) rfl ((gf_at f134 (c121 hS) (s121 hS) rfl ((up_k u124 (by decide) ((gf_at f114 (c121 hS) (s121 hS) rfl ((gf_at f101 (c121 hS) (s121 hS) rfl ((gf_at f73 (c121 hS) (s121 hS) rfl ((up_k u63 (by decide) (kp27))))))))))))))))))))) (show rl_e (FI266 149) (FI266 121 67) from rl268) (show rl_t (FI266 149) (FL 150) from rl269) (by have := congrArg Int32.toInt (show FI266 121 68 = x264 from up_eq u267); have := (e265 : (x264).toInt = ((x175).toInt) + (1)); omega) (by have := congrArg Int32.toInt (show FI266 121 69 = x183 from (up_k u267 (by decide) ((up_c u193 (by decide) (h184))))); omega) (by have := congrArg Int32.toInt (show FI266 121 67 = x4 from (up_k u267 (by decide) ((up_c u193 (by decide) ((gf_at f165 (c121 hS) (s121 hS) rfl ((gf_at f151 (c121 hS) (s121 hS) rfl ((gf_at f134 (c121 hS) (s121 hS) rfl ((up_k u124 (by decide) ((gf_at f114 (c121 hS) (s121 hS) rfl ((gf_at f101 (c121 hS) (s121 hS) rfl ((gf_at f73 (c121 hS) (s121 hS) rfl ((up_k u63 (by decide) (kp26))))))))))))))))))))); have := congrArg Int32.toInt (show FI266 121 68 = x264 from up_eq u267); have := (e265 : (x264).toInt = ((x175).toInt) + (1)); omega) (by have := congrArg Int32.toInt (show FI266 121 68 = x264 from up_eq u267); have := (e265 : (x264).toInt = ((x175).toInt) + (1)); omega) (by have := congrArg Int32.toInt (show FI266 121 68 = x264 from up_eq u267); have := (e265 : (x264).toInt = ((x175).toInt) + (1)); have := congrArg Int32.toInt (show FI266 121 73 = x178 from (up_k u267 (by decide) ((up_c u193 (by decide) (h179))))); omega) (by have := congrArg Int32.toInt (show FI266 121 73 = x178 from (up_k u267 (by decide) ((up_c u193 (by decide) (h179))))); omega) (by have := congrArg Int32.toInt (show FI266 121 71 = x181 from (up_k u267 (by decide) ((up_c u193 (by decide) (h182))))); omega) (show gr_rws (kf (FI 149)) (wf (FL 150)) ((FI266 159 (FI 121 78).toNatClampNeg).toInt).toNat (FI 121 68).toInt.toNat ((FI266 121 68).toInt).toNat from (by have := congrArg Int32.toInt (show FI266 121 68 = x264 from up_eq u267); have := (e265 : (x264).toInt = ((x175).toInt) + (1)); exact (by { have := congrArg Int32.toInt (show FI266 159 (FI 121 78).toNatClampNeg = x190 from (by rw [show FI 121 78 = x14 from h15]; exact (up_c u267 (by decide) (up_eq u193)))); have := (e191 : (x190).toInt = ((x51).toInt) + (1)); have := congrArg Int32.toInt (show FIv23 159 (FI 121 78).toNatClampNeg = x51 from (by rw [show FI 121 78 = x14 from h15]; exact h52)); rw [show ((FI266 159 (FI 121 78).toNatClampNeg).toInt).toNat = ((FIv23 159 (FI 121 78).toNatClampNeg).toInt).toNat + 1 by omega, show ((FI266 121 68).toInt).toNat = (FI163 121 68).toInt.toNat + 1 by omega]; exact hsn (by omega) }))) (show FI266 149 = FI 149 from (up_row u267 (by decide) ((up_row u193 (by decide) ((gf_row f165 (c149 hS) (s149 hS) rfl ((gf_row f151 (c149 hS) (s149 hS) rfl ((gf_row f134 (c149 hS) (s149 hS) rfl ((up_row u124 (by decide) ((gf_row f114 (c149 hS) (s149 hS) rfl ((gf_row f101 (c149 hS) (s149 hS) rfl ((gf_row f73 (c149 hS) (s149 hS) rfl ((up_row u63 (by decide) (rw37))))))))))))))))))))) (by have := congrArg Int32.toInt (show FI266 121 68 = x264 from up_eq u267); have := (e265 : (x264).toInt = ((x175).toInt) + (1)); omega)) ⟨rfl, trivial⟩
                            · refine hw_aloadn (aX12_rows 123 rfl) rfl ?_
                              refine hw_get (v := .ref (base + 154)) (aX12_rows 124 rfl) wf_RX12_120 (c121 hS) (s121 hS) (by decide) (congrArg (fun r => va_rf (h_rf base r)) (r121_72 hF)) ?_
                              refine xw_iload (aX12_rows 125 rfl) rfl ?_
                              refine xw_iload (aX12_rows 126 rfl) rfl ?_
                              refine hw_sp (v := (255 : Int32)) (aX12_rows 127 rfl) (by decide) ?_
                              refine xw_iand (aX12_rows 128 rfl) ?_
                              refine hw_tib (lo := 0) (hi := 255) (i_and (x := x187) (m := (255 : Int32)) (M := 255) (by decide) (by decide)) (fun x273 b274 => ?_)
                              refine hv_iast (k := (x118).toNatClampNeg) (aX12_rows 129 rfl) (c154 hS) (s154 hS) (h_in rfl (by omega) (by omega)) rfl (fun FI275 u276 => ?_)
                              have rl277 : rl_e (FI275 149) (FI275 121 67) := by rw [show FI275 149 = FI163 149 from up_row u276 (by decide) rfl, show FI275 121 67 = FI163 121 67 from up_c u276 (by decide) rfl]; exact rl173
                              have rl278 : rl_t (FI275 149) (FL 150) := by rw [show FI275 149 = FI163 149 from up_row u276 (by decide) rfl]; exact rl174
                              have hI279 : g_I FI275 := gU_F hI164 u276 rfl
                              refine hw_aloadn (aX12_rows 130 rfl) rfl ?_
                              refine hw_get (v := .ref (base + 154)) (aX12_rows 131 rfl) wf_RX12_120 (c121 hS) (s121 hS) (by decide) (congrArg (fun r => va_rf (h_rf base r)) (r121_72 hF)) ?_
                              refine xw_iload (aX12_rows 132 rfl) rfl ?_
                              refine hw_ic (v := (1 : Int32)) (aX12_rows 133 rfl) (by decide) ?_
                              refine xw_iadd (aX12_rows 134 rfl) ?_
                              refine hw_tie (A := ((x118).toInt) + (1)) (i_add rfl (by decide : (1 : Int32).toInt = 1) (by omega) (by omega)) (fun x280 e281 => ?_)
                              refine xw_iload (aX12_rows 135 rfl) rfl ?_
                              refine hw_bp (v := (8 : Int32)) (aX12_rows 136 rfl) (by decide) ?_
                              refine xw_ishr (aX12_rows 137 rfl) ?_
                              refine hw_ti (fun x282 => ?_)
                              have b283 := i_rng x282
                              refine hw_sp (v := (255 : Int32)) (aX12_rows 138 rfl) (by decide) ?_
                              refine xw_iand (aX12_rows 139 rfl) ?_
                              refine hw_tib (lo := 0) (hi := 255) (i_and (x := x282) (m := (255 : Int32)) (M := 255) (by decide) (by decide)) (fun x284 b285 => ?_)
                              refine hv_iast (k := (x280).toNatClampNeg) (aX12_rows 140 rfl) (c154 hS) (s154 hS) (h_in e281 (by omega) (by omega)) rfl (fun FI286 u287 => ?_)
                              have rl288 : rl_e (FI286 149) (FI286 121 67) := by rw [show FI286 149 = FI275 149 from up_row u287 (by decide) rfl, show FI286 121 67 = FI275 121 67 from up_c u287 (by decide) rfl]; exact rl277
                              have rl289 : rl_t (FI286 149) (FL 150) := by rw [show FI286 149 = FI275 149 from up_row u287 (by decide) rfl]; exact rl278
                              have hI290 : g_I FI286 := gU_F hI279 u287 rfl
                              refine hw_aloadn (aX12_rows 141 rfl) rfl ?_
                              refine hw_get (v := .ref (base + 159)) (aX12_rows 142 rfl) wf_RX12_135 (c121 hS) (s121 hS) (by decide) (congrArg (fun r => va_rf (h_rf base r)) (r121_80 hF)) ?_
                              refine hw_aloadn (aX12_rows 143 rfl) rfl ?_
                              refine hw_get (v := .int (x14)) (aX12_rows 144 rfl) wf_RX12_515 (c121 hS) (s121 hS) (by decide) (congrArg Value.int (show FI286 121 78 = x14 from (up_c u287 (by decide) ((up_c u276 (by decide) ((gf_at f165 (c121 hS) (s121 hS) rfl ((gf_at f151 (c121 hS) (s121 hS) rfl ((gf_at f134 (c121 hS) (s121 hS) rfl ((up_k u124 (by decide) ((gf_at f114 (c121 hS) (s121 hS) rfl ((gf_at f101 (c121 hS) (s121 hS) rfl ((gf_at f73 (c121 hS) (s121 hS) rfl ((up_k u63 (by decide) (kp27)))))))))))))))))))))) ?_
                              refine hw_aloadn (aX12_rows 145 rfl) rfl ?_
                              refine hw_get (v := .ref (base + 159)) (aX12_rows 146 rfl) wf_RX12_135 (c121 hS) (s121 hS) (by decide) (congrArg (fun r => va_rf (h_rf base r)) (r121_80 hF)) ?_
                              refine hw_aloadn (aX12_rows 147 rfl) rfl ?_
                              refine hw_get (v := .int (x14)) (aX12_rows 148 rfl) wf_RX12_515 (c121 hS) (s121 hS) (by decide) (congrArg Value.int (show FI286 121 78 = x14 from (up_c u287 (by decide) ((up_c u276 (by decide) ((gf_at f165 (c121 hS) (s121 hS) rfl ((gf_at f151 (c121 hS) (s121 hS) rfl ((gf_at f134 (c121 hS) (s121 hS) rfl ((up_k u124 (by decide) ((gf_at f114 (c121 hS) (s121 hS) rfl ((gf_at f101 (c121 hS) (s121 hS) rfl ((gf_at f73 (c121 hS) (s121 hS) rfl ((up_k u63 (by decide) (kp27)))))))))))))))))))))) ?_
                              refine hw_iald (v := x51) (aX12_rows 149 rfl) (c159 hS) (s159 hS) (h_in rfl (by omega) (by omega)) (show FI286 159 (x14).toNatClampNeg = x51 from (up_c u287 (by decide) ((up_c u276 (by decide) ((gf_at f165 (c159 hS) (s159 hS) rfl ((gf_at f151 (c159 hS) (s159 hS) rfl ((gf_at f134 (c159 hS) (s159 hS) rfl ((up_c u124 (by decide) ((gf_at f114 (c159 hS) (s159 hS) rfl ((gf_at f101 (c159 hS) (s159 hS) rfl ((gf_at f73 (c159 hS) (s159 hS) rfl ((up_c u63 (by decide) (h52))))))))))))))))))))) ?_
                              refine hw_ic (v := (1 : Int32)) (aX12_rows 150 rfl) (by decide) ?_
                              refine xw_iadd (aX12_rows 151 rfl) ?_
                              refine hw_tie (A := ((x51).toInt) + (1)) (i_add rfl (by decide : (1 : Int32).toInt = 1) (by omega) (by omega)) (fun x291 e292 => ?_)
                              refine hv_iast (k := (x14).toNatClampNeg) (aX12_rows 152 rfl) (c159 hS) (s159 hS) (h_in rfl (by omega) (by omega)) rfl (fun FI293 u294 => ?_)
                              have rl295 : rl_e (FI293 149) (FI293 121 67) := by rw [show FI293 149 = FI286 149 from up_row u294 (by decide) rfl, show FI293 121 67 = FI286 121 67 from up_c u294 (by decide) rfl]; exact rl288
                              have rl296 : rl_t (FI293 149) (FL 150) := by rw [show FI293 149 = FI286 149 from up_row u294 (by decide) rfl]; exact rl289
                              have hI297 : g_I FI293 := gU_159 hI290 u294 (by have := (e292 : (x291).toInt = ((x51).toInt) + (1)); omega) (by have := (e292 : (x291).toInt = ((x51).toInt) + (1)); omega)
                              refine hw_aloadn (aX12_rows 153 rfl) rfl ?_
                              refine hw_get (v := .int (x183)) (aX12_rows 154 rfl) wf_RX12_475 (c121 hS) (s121 hS) (by decide) (congrArg Value.int (show FI293 121 69 = x183 from (up_c u294 (by decide) ((up_c u287 (by decide) ((up_c u276 (by decide) (h184)))))))) ?_
                              refine hw_ifne (tgt := 302) (aX12_rows 155 rfl) (by decide) rfl (fun cd298 => ?_) (fun cd298 => ?_)
                              · refine hw_ic (v := (0 : Int32)) (aX12_rows 162 rfl) (by decide) ?_
                                refine xw_istoren (L2 := [(1, .int ((0 : Int32))), (5, .int (x187)), (4, .int (x118)), (2, .long (x58)), (0, .ref (base + 121))]) (aX12_rows 163 rfl) (by decide) rfl ?_
                                refine xw_iloadn (aX12_rows 164 rfl) rfl ?_
                                refine hw_ifeq (tgt := 318) (aX12_rows 165 rfl) (by decide) (by decide : (0 : Int32).toInt = 0) (fun cd299 => ?_) (fun cd299 => ?_)
                                · refine xw_goto (tgt := 2) (aX12_rows 172 rfl) (by decide) ?_
                                  refine xw_iloadn (aX12_rows 2 rfl) rfl ?_
                                  refine hw_ifeq (tgt := 321) (aX12_rows 3 rfl) (by decide) (by decide : (0 : Int32).toInt = 0) (fun cd300 => ?_) (fun cd300 => ?_)
                                  · refine hw_aloadn (aX12_rows 173 rfl) rfl ?_
                                    refine hw_lc (v := (0 : Int64)) (aX12_rows 174 rfl) (by decide) ?_
                                    refine hw_bp (v := (8 : Int32)) (aX12_rows 175 rfl) (by decide) ?_
                                    refine hw_callV (Bs := [.long ((0 : Int64)), .int ((8 : Int32))]) (rest := []) (aX12_rows 176 rfl) wc_RX12_505 (by decide) rfl wi_yX12_emits wv_yX12_emits (c121 hS) (s121 hS) rfl rfl rfl (Nat.le_of_ble_eq_true rfl) (Nat.le_of_ble_eq_true rfl) (n_emits0 (d := d + 7) hS hF hI297 ((0 : Int64)) ((8 : Int32)) (by have := congrArg Int32.toInt (show FI293 121 73 = x178 from (up_c u294 (by decide) ((up_c u287 (by decide) ((up_c u276 (by decide) (h179))))))); omega) (by have := ((by decide : (8 : Int32).toInt = 8) : ((8 : Int32)).toInt = 8); have := ((by decide : (8 : Int32).toInt = 8) : ((8 : Int32)).toInt = 8); omega)) (fun v301 sv302 p303 => ?_)
                                    have := congrArg Int32.toInt (show FI293 121 73 = x178 from (up_c u294 (by decide) ((up_c u287 (by decide) ((up_c u276 (by decide) (h179)))))))
                                    have := ((by decide : (8 : Int32).toInt = 8) : ((8 : Int32)).toInt = 8)
                                    obtain ⟨rfl, FI305, rfl, hI306, f307, t308⟩ := p303
                                    have rl309 : rl_e (FI305 149) (FI305 121 67) := by rw [show FI305 149 = FI293 149 from gf_row f307 (c149 hS) (s149 hS) rfl rfl, show FI305 121 67 = FI293 121 67 from gf_at f307 (c121 hS) (s121 hS) rfl rfl]; exact rl295
                                    have rl310 : rl_t (FI305 149) (FL 150) := by rw [show FI305 149 = FI293 149 from gf_row f307 (c149 hS) (s149 hS) rfl rfl]; exact rl296
                                    obtain ⟨x311, h312⟩ : ∃ y, FI305 121 73 = y := ⟨_, rfl⟩
                                    have h312l := congrArg Int32.toInt h312
                                    have b313 := gI_121_73 hI306; rw [h312] at b313
                                    show hw base _ _ _ _ _ [] _ _
                                    refine hw_aloadn (aX12_rows 177 rfl) rfl ?_
                                    refine hw_lc (v := (0 : Int64)) (aX12_rows 178 rfl) (by decide) ?_
                                    refine hw_bp (v := (8 : Int32)) (aX12_rows 179 rfl) (by decide) ?_
                                    refine hw_callV (Bs := [.long ((0 : Int64)), .int ((8 : Int32))]) (rest := []) (aX12_rows 180 rfl) wc_RX12_505 (by decide) rfl wi_yX12_emits wv_yX12_emits (c121 hS) (s121 hS) rfl rfl rfl (Nat.le_of_ble_eq_true rfl) (Nat.le_of_ble_eq_true rfl) (n_emits0 (d := d + 7) hS hF hI306 ((0 : Int64)) ((8 : Int32)) (by have := congrArg Int32.toInt (show FI305 121 73 = x311 from h312); omega) (by have := ((by decide : (8 : Int32).toInt = 8) : ((8 : Int32)).toInt = 8); have := ((by decide : (8 : Int32).toInt = 8) : ((8 : Int32)).toInt = 8); omega)) (fun v314 sv315 p316 => ?_)
                                    have := congrArg Int32.toInt (show FI305 121 73 = x311 from h312)
                                    have := ((by decide : (8 : Int32).toInt = 8) : ((8 : Int32)).toInt = 8)
                                    obtain ⟨rfl, FI318, rfl, hI319, f320, t321⟩ := p316
                                    have rl322 : rl_e (FI318 149) (FI318 121 67) := by rw [show FI318 149 = FI305 149 from gf_row f320 (c149 hS) (s149 hS) rfl rfl, show FI318 121 67 = FI305 121 67 from gf_at f320 (c121 hS) (s121 hS) rfl rfl]; exact rl309
                                    have rl323 : rl_t (FI318 149) (FL 150) := by rw [show FI318 149 = FI305 149 from gf_row f320 (c149 hS) (s149 hS) rfl rfl]; exact rl310
                                    obtain ⟨x324, h325⟩ : ∃ y, FI318 121 73 = y := ⟨_, rfl⟩
                                    have h325l := congrArg Int32.toInt h325
                                    have b326 := gI_121_73 hI319; rw [h325] at b326
                                    show hw base _ _ _ _ _ [] _ _
                                    refine xw_vret (aX12_rows 181 rfl) rfl ?_
                                    exact ⟨rfl, FI318, rfl, hI319, (gf_tr ex_rf (gf_tr ex_rf (gf_a (gf_a (gf_a (gf_tr ex_rf (gf_tr ex_rf (gf_tr ex_rf (gf_f (gf_tr ex_rf (gf_tr ex_rf (gf_tr ex_rf (gf_f fr24 u63 (by decide)) f73 rfl rfl rfl) f101 rfl rfl rfl) f114 rfl rfl rfl) u124 (by decide)) f134 rfl rfl rfl) f151 rfl rfl rfl) f165 rfl rfl rfl) u276 (by decide)) u287 (by decide)) u294 (by decide)) f307 rfl rfl rfl) f320 rfl rfl rfl), (by have := congrArg Int32.toInt (show FI318 121 67 = x4 from (gf_at f320 (c121 hS) (s121 hS) rfl ((gf_at f307 (c121 hS) (s121 hS) rfl ((up_c u294 (by decide) ((up_c u287 (by decide) ((up_c u276 (by decide) ((gf_at f165 (c121 hS) (s121 hS) rfl ((gf_at f151 (c121 hS) (s121 hS) rfl ((gf_at f134 (c121 hS) (s121 hS) rfl ((up_k u124 (by decide) ((gf_at f114 (c121 hS) (s121 hS) rfl ((gf_at f101 (c121 hS) (s121 hS) rfl ((gf_at f73 (c121 hS) (s121 hS) rfl ((up_k u63 (by decide) (kp26))))))))))))))))))))))))))); have := congrArg Int32.toInt (show FI318 121 68 = x175 from (gf_at f320 (c121 hS) (s121 hS) rfl ((gf_at f307 (c121 hS) (s121 hS) rfl ((up_c u294 (by decide) ((up_c u287 (by decide) ((up_c u276 (by decide) (h176))))))))))); omega), (by have := congrArg Int32.toInt (show FI318 121 68 = x175 from (gf_at f320 (c121 hS) (s121 hS) rfl ((gf_at f307 (c121 hS) (s121 hS) rfl ((up_c u294 (by decide) ((up_c u287 (by decide) ((up_c u276 (by decide) (h176))))))))))); omega), (by have := congrArg Int32.toInt (show FI318 121 68 = x175 from (gf_at f320 (c121 hS) (s121 hS) rfl ((gf_at f307 (c121 hS) (s121 hS) rfl ((up_c u294 (by decide) ((up_c u287 (by decide) ((up_c u276 (by decide) (h176))))))))))); have := congrArg Int32.toInt (show FI318 121 73 = x324 from h325); omega), (by have := congrArg Int32.toInt (show FI318 121 73 = x324 from h325); omega), (by have := congrArg Int32.toInt (show FI318 121 69 = x183 from (gf_at f320 (c121 hS) (s121 hS) rfl ((gf_at f307 (c121 hS) (s121 hS) rfl ((up_c u294 (by decide) ((up_c u287 (by decide) ((up_c u276 (by decide) (h184))))))))))); exact fun h => absurd h (by omega))⟩
                                  · omega
                                · omega
                              · have ho0 := ho71 (by omega)
                                refine hw_aloadn (aX12_rows 156 rfl) rfl ?_
                                refine hw_bp (v := (44 : Int32)) (aX12_rows 157 rfl) (by decide) ?_
                                refine hw_callV (Bs := [.int ((44 : Int32))]) (rest := []) (aX12_rows 158 rfl) wc_RX12_484 (by decide) rfl wi_yX12_isSign wv_yX12_isSign (c121 hS) (s121 hS) rfl rfl rfl (Nat.le_of_ble_eq_true rfl) (Nat.le_of_ble_eq_true rfl) (n_isSign (d := d + 8) hS hF hI297 ((44 : Int32)) (by have := congrArg Int32.toInt (show FI293 121 68 = x175 from (up_c u294 (by decide) ((up_c u287 (by decide) ((up_c u276 (by decide) (h176))))))); have := congrArg Int32.toInt (show FI293 121 67 = x4 from (up_c u294 (by decide) ((up_c u287 (by decide) ((up_c u276 (by decide) ((gf_at f165 (c121 hS) (s121 hS) rfl ((gf_at f151 (c121 hS) (s121 hS) rfl ((gf_at f134 (c121 hS) (s121 hS) rfl ((up_k u124 (by decide) ((gf_at f114 (c121 hS) (s121 hS) rfl ((gf_at f101 (c121 hS) (s121 hS) rfl ((gf_at f73 (c121 hS) (s121 hS) rfl ((up_k u63 (by decide) (kp26))))))))))))))))))))))); omega) (show rl_e (FI293 149) (FI293 121 67) from rl295)) (fun v327 sv328 p329 => ?_)
                                have := congrArg Int32.toInt (show FI293 121 68 = x175 from (up_c u294 (by decide) ((up_c u287 (by decide) ((up_c u276 (by decide) (h176)))))))
                                have := congrArg Int32.toInt (show FI293 121 67 = x4 from (up_c u294 (by decide) ((up_c u287 (by decide) ((up_c u276 (by decide) ((gf_at f165 (c121 hS) (s121 hS) rfl ((gf_at f151 (c121 hS) (s121 hS) rfl ((gf_at f134 (c121 hS) (s121 hS) rfl ((up_k u124 (by decide) ((gf_at f114 (c121 hS) (s121 hS) rfl ((gf_at f101 (c121 hS) (s121 hS) rfl ((gf_at f73 (c121 hS) (s121 hS) rfl ((up_k u63 (by decide) (kp26)))))))))))))))))))))))
                                obtain ⟨r330, rfl, rfl, t332, t333, u334⟩ := p329
                                show hw base _ _ _ _ _ [.int (r330)] _ _
                                refine hw_ifeq (tgt := 302) (aX12_rows 159 rfl) (by decide) rfl (fun cd335 => ?_) (fun cd335 => ?_)
                                · clear t332
                                  refine hw_ic (v := (0 : Int32)) (aX12_rows 162 rfl) (by decide) ?_
                                  refine xw_istoren (L2 := [(1, .int ((0 : Int32))), (5, .int (x187)), (4, .int (x118)), (2, .long (x58)), (0, .ref (base + 121))]) (aX12_rows 163 rfl) (by decide) rfl ?_
                                  refine xw_iloadn (aX12_rows 164 rfl) rfl ?_
                                  refine hw_ifeq (tgt := 318) (aX12_rows 165 rfl) (by decide) (by decide : (0 : Int32).toInt = 0) (fun cd336 => ?_) (fun cd336 => ?_)
                                  · refine xw_goto (tgt := 2) (aX12_rows 172 rfl) (by decide) ?_
                                    refine xw_iloadn (aX12_rows 2 rfl) rfl ?_
                                    refine hw_ifeq (tgt := 321) (aX12_rows 3 rfl) (by decide) (by decide : (0 : Int32).toInt = 0) (fun cd337 => ?_) (fun cd337 => ?_)
                                    · refine hw_aloadn (aX12_rows 173 rfl) rfl ?_
                                      refine hw_lc (v := (0 : Int64)) (aX12_rows 174 rfl) (by decide) ?_
                                      refine hw_bp (v := (8 : Int32)) (aX12_rows 175 rfl) (by decide) ?_
                                      refine hw_callV (Bs := [.long ((0 : Int64)), .int ((8 : Int32))]) (rest := []) (aX12_rows 176 rfl) wc_RX12_505 (by decide) rfl wi_yX12_emits wv_yX12_emits (c121 hS) (s121 hS) rfl rfl rfl (Nat.le_of_ble_eq_true rfl) (Nat.le_of_ble_eq_true rfl) (n_emits0 (d := d + 7) hS hF hI297 ((0 : Int64)) ((8 : Int32)) (by have := congrArg Int32.toInt (show FI293 121 73 = x178 from (up_c u294 (by decide) ((up_c u287 (by decide) ((up_c u276 (by decide) (h179))))))); omega) (by have := ((by decide : (8 : Int32).toInt = 8) : ((8 : Int32)).toInt = 8); have := ((by decide : (8 : Int32).toInt = 8) : ((8 : Int32)).toInt = 8); omega)) (fun v338 sv339 p340 => ?_)
                                      have := congrArg Int32.toInt (show FI293 121 73 = x178 from (up_c u294 (by decide) ((up_c u287 (by decide) ((up_c u276 (by decide) (h179)))))))
                                      have := ((by decide : (8 : Int32).toInt = 8) : ((8 : Int32)).toInt = 8)
                                      obtain ⟨rfl, FI342, rfl, hI343, f344, t345⟩ := p340
                                      have rl346 : rl_e (FI342 149) (FI342 121 67) := by rw [show FI342 149 = FI293 149 from gf_row f344 (c149 hS) (s149 hS) rfl rfl, show FI342 121 67 = FI293 121 67 from gf_at f344 (c121 hS) (s121 hS) rfl rfl]; exact rl295
                                      have rl347 : rl_t (FI342 149) (FL 150) := by rw [show FI342 149 = FI293 149 from gf_row f344 (c149 hS) (s149 hS) rfl rfl]; exact rl296
                                      obtain ⟨x348, h349⟩ : ∃ y, FI342 121 73 = y := ⟨_, rfl⟩
                                      have h349l := congrArg Int32.toInt h349
                                      have b350 := gI_121_73 hI343; rw [h349] at b350
                                      show hw base _ _ _ _ _ [] _ _
                                      refine hw_aloadn (aX12_rows 177 rfl) rfl ?_
                                      refine hw_lc (v := (0 : Int64)) (aX12_rows 178 rfl) (by decide) ?_
                                      refine hw_bp (v := (8 : Int32)) (aX12_rows 179 rfl) (by decide) ?_
                                      refine hw_callV (Bs := [.long ((0 : Int64)), .int ((8 : Int32))]) (rest := []) (aX12_rows 180 rfl) wc_RX12_505 (by decide) rfl wi_yX12_emits wv_yX12_emits (c121 hS) (s121 hS) rfl rfl rfl (Nat.le_of_ble_eq_true rfl) (Nat.le_of_ble_eq_true rfl) (n_emits0 (d := d + 7) hS hF hI343 ((0 : Int64)) ((8 : Int32)) (by have := congrArg Int32.toInt (show FI342 121 73 = x348 from h349); omega) (by have := ((by decide : (8 : Int32).toInt = 8) : ((8 : Int32)).toInt = 8); have := ((by decide : (8 : Int32).toInt = 8) : ((8 : Int32)).toInt = 8); omega)) (fun v351 sv352 p353 => ?_)
                                      have := congrArg Int32.toInt (show FI342 121 73 = x348 from h349)
                                      have := ((by decide : (8 : Int32).toInt = 8) : ((8 : Int32)).toInt = 8)
                                      obtain ⟨rfl, FI355, rfl, hI356, f357, t358⟩ := p353
                                      have rl359 : rl_e (FI355 149) (FI355 121 67) := by rw [show FI355 149 = FI342 149 from gf_row f357 (c149 hS) (s149 hS) rfl rfl, show FI355 121 67 = FI342 121 67 from gf_at f357 (c121 hS) (s121 hS) rfl rfl]; exact rl346
                                      have rl360 : rl_t (FI355 149) (FL 150) := by rw [show FI355 149 = FI342 149 from gf_row f357 (c149 hS) (s149 hS) rfl rfl]; exact rl347
                                      obtain ⟨x361, h362⟩ : ∃ y, FI355 121 73 = y := ⟨_, rfl⟩
                                      have h362l := congrArg Int32.toInt h362
                                      have b363 := gI_121_73 hI356; rw [h362] at b363
                                      show hw base _ _ _ _ _ [] _ _
                                      refine xw_vret (aX12_rows 181 rfl) rfl ?_
                                      exact ⟨rfl, FI355, rfl, hI356, (gf_tr ex_rf (gf_tr ex_rf (gf_a (gf_a (gf_a (gf_tr ex_rf (gf_tr ex_rf (gf_tr ex_rf (gf_f (gf_tr ex_rf (gf_tr ex_rf (gf_tr ex_rf (gf_f fr24 u63 (by decide)) f73 rfl rfl rfl) f101 rfl rfl rfl) f114 rfl rfl rfl) u124 (by decide)) f134 rfl rfl rfl) f151 rfl rfl rfl) f165 rfl rfl rfl) u276 (by decide)) u287 (by decide)) u294 (by decide)) f344 rfl rfl rfl) f357 rfl rfl rfl), (by have := congrArg Int32.toInt (show FI355 121 67 = x4 from (gf_at f357 (c121 hS) (s121 hS) rfl ((gf_at f344 (c121 hS) (s121 hS) rfl ((up_c u294 (by decide) ((up_c u287 (by decide) ((up_c u276 (by decide) ((gf_at f165 (c121 hS) (s121 hS) rfl ((gf_at f151 (c121 hS) (s121 hS) rfl ((gf_at f134 (c121 hS) (s121 hS) rfl ((up_k u124 (by decide) ((gf_at f114 (c121 hS) (s121 hS) rfl ((gf_at f101 (c121 hS) (s121 hS) rfl ((gf_at f73 (c121 hS) (s121 hS) rfl ((up_k u63 (by decide) (kp26))))))))))))))))))))))))))); have := congrArg Int32.toInt (show FI355 121 68 = x175 from (gf_at f357 (c121 hS) (s121 hS) rfl ((gf_at f344 (c121 hS) (s121 hS) rfl ((up_c u294 (by decide) ((up_c u287 (by decide) ((up_c u276 (by decide) (h176))))))))))); omega), (by have := congrArg Int32.toInt (show FI355 121 68 = x175 from (gf_at f357 (c121 hS) (s121 hS) rfl ((gf_at f344 (c121 hS) (s121 hS) rfl ((up_c u294 (by decide) ((up_c u287 (by decide) ((up_c u276 (by decide) (h176))))))))))); omega), (by have := congrArg Int32.toInt (show FI355 121 68 = x175 from (gf_at f357 (c121 hS) (s121 hS) rfl ((gf_at f344 (c121 hS) (s121 hS) rfl ((up_c u294 (by decide) ((up_c u287 (by decide) ((up_c u276 (by decide) (h176))))))))))); have := congrArg Int32.toInt (show FI355 121 73 = x361 from h362); omega), (by have := congrArg Int32.toInt (show FI355 121 73 = x361 from h362); omega), (by have := congrArg Int32.toInt (show FI355 121 68 = x175 from (gf_at f357 (c121 hS) (s121 hS) rfl ((gf_at f344 (c121 hS) (s121 hS) rfl ((up_c u294 (by decide) ((up_c u287 (by decide) ((up_c u276 (by decide) (h176))))))))))); have := congrArg Int32.toInt (show FI355 121 69 = x183 from (gf_at f357 (c121 hS) (s121 hS) rfl ((gf_at f344 (c121 hS) (s121 hS) rfl ((up_c u294 (by decide) ((up_c u287 (by decide) ((up_c u276 (by decide) (h184))))))))))); have := congrArg Int32.toInt (show FI355 159 (FI 121 78).toNatClampNeg = x291 from (by rw [show FI 121 78 = x14 from h15]; exact (gf_at f357 (c159 hS) (s159 hS) rfl ((gf_at f344 (c159 hS) (s159 hS) rfl (up_eq u294)))))); have := (e292 : (x291).toInt = ((x51).toInt) + (1)); have := congrArg Int32.toInt (show FIv23 159 (FI 121 78).toNatClampNeg = x51 from (by rw [show FI 121 78 = x14 from h15]; exact h52)); intro h69; refine ⟨?_, by omega⟩; rw [show ((FI355 159 (FI 121 78).toNatClampNeg).toInt).toNat = ((FIv23 159 (FI 121 78).toNatClampNeg).toInt).toNat + 1 by omega, show (FI355 121 68).toInt.toNat = (FI163 121 68).toInt.toNat by omega]; exact hsn (by omega))⟩
                                    · omega
                                  · omega
                                · replace t332 := t332 (by omega)
                                  refine hw_ic (v := (1 : Int32)) (aX12_rows 160 rfl) (by decide) ?_
                                  refine xw_goto (tgt := 303) (aX12_rows 161 rfl) (by decide) ?_
                                  refine xw_istoren (L2 := [(1, .int ((1 : Int32))), (5, .int (x187)), (4, .int (x118)), (2, .long (x58)), (0, .ref (base + 121))]) (aX12_rows 163 rfl) (by decide) rfl ?_
                                  refine xw_iloadn (aX12_rows 164 rfl) rfl ?_
                                  refine hw_ifeq (tgt := 318) (aX12_rows 165 rfl) (by decide) (by decide : (1 : Int32).toInt = 1) (fun cd364 => ?_) (fun cd364 => ?_)
                                  · omega
                                  · refine hw_aloadn (aX12_rows 166 rfl) rfl ?_
                                    refine hw_aloadn (aX12_rows 167 rfl) rfl ?_
                                    refine hw_get (v := .int (x175)) (aX12_rows 168 rfl) wf_RX12_478 (c121 hS) (s121 hS) (by decide) (congrArg Value.int (show FI293 121 68 = x175 from (up_c u294 (by decide) ((up_c u287 (by decide) ((up_c u276 (by decide) (h176)))))))) ?_
                                    refine hw_ic (v := (1 : Int32)) (aX12_rows 169 rfl) (by decide) ?_
                                    refine xw_iadd (aX12_rows 170 rfl) ?_
                                    refine hw_tie (A := ((x175).toInt) + (1)) (i_add rfl (by decide : (1 : Int32).toInt = 1) (by omega) (by omega)) (fun x365 e366 => ?_)
                                    refine hv_puti (aX12_rows 171 rfl) wf_RX12_478 (c121 hS) (s121 hS) (by decide) rfl rfl (fun FI367 u368 => ?_)
                                    have rl369 : rl_e (FI367 149) (FI367 121 67) := by rw [show FI367 149 = FI293 149 from up_row u368 (by decide) rfl, show FI367 121 67 = FI293 121 67 from up_k u368 (by decide) rfl]; exact rl295
                                    have rl370 : rl_t (FI367 149) (FL 150) := by rw [show FI367 149 = FI293 149 from up_row u368 (by decide) rfl]; exact rl296
                                    have hI371 : g_I FI367 := gU_121_68 hI297 u368 (by have := (e366 : (x365).toInt = ((x175).toInt) + (1)); omega) (by have := (e366 : (x365).toInt = ((x175).toInt) + (1)); omega)
                                    refine xw_goto (tgt := 2) (aX12_rows 172 rfl) (by decide) ?_
                                    refine xw_iloadn (aX12_rows 2 rfl) rfl ?_
                                    refine hw_ifeq (tgt := 321) (aX12_rows 3 rfl) (by decide) (by decide : (1 : Int32).toInt = 1) (fun cd372 => ?_) (fun cd372 => ?_)
                                    · omega
                                    · refine hw_aloadn (aX12_rows 4 rfl) rfl ?_
                                      refine hw_get (v := .int (x183)) (aX12_rows 5 rfl) wf_RX12_475 (c121 hS) (s121 hS) (by decide) (congrArg Value.int (show FI367 121 69 = x183 from (up_k u368 (by decide) ((up_c u294 (by decide) ((up_c u287 (by decide) ((up_c u276 (by decide) (h184)))))))))) ?_
                                      refine hw_ifne (tgt := 321) (aX12_rows 6 rfl) (by decide) rfl (fun cd373 => ?_) (fun cd373 => ?_)
                                      · omega
                                      · exact hw_L (ih FI367 (gf_f (gf_a (gf_a (gf_a (gf_tr ex_rf (gf_tr ex_rf (gf_tr ex_rf (gf_f (gf_tr ex_rf (gf_tr ex_rf (gf_tr ex_rf (gf_f fr24 u63 (by decide)) f73 rfl rfl rfl) f101 rfl rfl rfl) f114 rfl rfl rfl) u124 (by decide)) f134 rfl rfl rfl) f151 rfl rfl rfl) f165 rfl rfl rfl) u276 (by decide)) u287 (by decide)) u294 (by decide)) u368 (by decide)) hI371 (show FI367 121 67 = x4 from (up_k u368 (by decide) ((up_c u294 (by decide) ((up_c u287 (by decide) ((up_c u276 (by decide) ((gf_at f165 (c121 hS) (s121 hS) rfl ((gf_at f151 (c121 hS) (s121 hS) rfl ((gf_at f134 (c121 hS) (s121 hS) rfl ((up_k u124 (by decide) ((gf_at f114 (c121 hS) (s121 hS) rfl ((gf_at f101 (c121 hS) (s121 hS) rfl ((gf_at f73 (c121 hS) (s121 hS) rfl ((up_k u63 (by decide) (kp26))))))))))))))))))))))))) (show FI367 121 78 = x14 from (up_k u368 (by decide) ((up_c u294 (by decide) ((up_c u287 (by decide) ((up_c u276 (by decide) ((gf_at f165 (c121 hS) (s121 hS) rfl ((gf_at f151 (c121 hS) (s121 hS) rfl ((gf_at f134 (c121 hS) (s121 hS) rfl ((up_k u124 (by decide) ((gf_at f114 (c121 hS) (s121 hS) rfl ((gf_at f101 (c121 hS) (s121 hS) rfl ((gf_at f73 (c121 hS) (s121 hS) rfl ((up_k u63 (by decide) (kp27))))))))))))))))))))))))) (show rl_e (FI367 149) (FI367 121 67) from rl369) (show rl_t (FI367 149) (FL 150) from rl370) (by have := congrArg Int32.toInt (show FI367 121 68 = x365 from up_eq u368); have := (e366 : (x365).toInt = ((x175).toInt) + (1)); omega) (by have := congrArg Int32.toInt (show FI367 121 69 = x183 from (up_k u368 (by decide) ((up_c u294 (by decide) ((up_c u287 (by decide) ((up_c u276 (by decide) (h184))))))))); omega) (by have := congrArg Int32.toInt (show FI367 121 67 = x4 from (up_k u368 (by decide) ((up_c u294 (by decide) ((up_c u287 (by decide) ((up_c u276 (by decide) ((gf_at f165 (c121 hS) (s121 hS) rfl ((gf_at f151 (c121 hS) (s121 hS) rfl ((gf_at f134 (c121 hS) (s121 hS) rfl ((up_k u124 (by decide) ((gf_at f114 (c121 hS) (s121 hS) rfl ((gf_at f101 (c121 hS) (s121 hS) rfl ((gf_at f73 (c121 hS) (s121 hS) rfl ((up_k u63 (by decide) (kp26))))))))))))))))))))))))); have := congrArg Int32.toInt (show FI367 121 68 = x365 from up_eq u368); have := (e366 : (x365).toInt = ((x175).toInt) + (1)); omega) (by have := congrArg Int32.toInt (show FI367 121 68 = x365 from up_eq u368); have := (e366 : (x365).toInt = ((x175).toInt) + (1)); omega) (by have := congrArg Int32.toInt (show FI367 121 68 = x365 from up_eq u368); have := (e366 : (x365).toInt = ((x175).toInt) + (1)); have := congrArg Int32.toInt (show FI367 121 73 = x178 from (up_k u368 (by decide) ((up_c u294 (by decide) ((up_c u287 (by decide) ((up_c u276 (by decide) (h179))))))))); omega) (by have := congrArg Int32.toInt (show FI367 121 73 = x178 from (up_k u368 (by decide) ((up_c u294 (by decide) ((up_c u287 (by decide) ((up_c u276 (by decide) (h179))))))))); omega) (by have := congrArg Int32.toInt (show FI367 121 71 = x181 from (up_k u368 (by decide) ((up_c u294 (by decide) ((up_c u287 (by decide) ((up_c u276 (by decide) (h182))))))))); omega) (show gr_rws (kf (FI 149)) (wf (FL 150)) ((FI367 159 (FI 121 78).toNatClampNeg).toInt).toNat (FI 121 68).toInt.toNat ((FI367 121 68).toInt).toNat from (by have := congrArg Int32.toInt (show FI367 121 68 = x365 from up_eq u368); have := (e366 : (x365).toInt = ((x175).toInt) + (1)); exact (by { have := congrArg Int32.toInt (show FI367 159 (FI 121 78).toNatClampNeg = x291 from (by rw [show FI 121 78 = x14 from h15]; exact (up_c u368 (by decide) (up_eq u294)))); have := (e292 : (x291).toInt = ((x51).toInt) + (1)); have := congrArg Int32.toInt (show FIv23 159 (FI 121 78).toNatClampNeg = x51 from (by rw [show FI 121 78 = x14 from h15]; exact h52)); rw [show ((FI367 159 (FI 121 78).toNatClampNeg).toInt).toNat = ((FIv23 159 (FI 121 78).toNatClampNeg).toInt).toNat + 1 by omega, show ((FI367 121 68).toInt).toNat = (FI163 121 68).toInt.toNat + 1 by omega]; exact hsn (by omega) }))) (show FI367 149 = FI 149 from (up_row u368 (by decide) ((up_row u294 (by decide) ((up_row u287 (by decide) ((up_row u276 (by decide) ((gf_row f165 (c149 hS) (s149 hS) rfl ((gf_row f151 (c149 hS) (s149 hS) rfl ((gf_row f134 (c149 hS) (s149 hS) rfl ((up_row u124 (by decide) ((gf_row f114 (c149 hS) (s149 hS) rfl ((gf_row f101 (c149 hS) (s149 hS) rfl ((gf_row f73 (c149 hS) (s149 hS) rfl ((up_row u63 (by decide) (rw37))))))))))))))))))))))))) (by have := congrArg Int32.toInt (show FI367 121 68 = x365 from up_eq u368); have := (e366 : (x365).toInt = ((x175).toInt) + (1)); omega)) ⟨rfl, trivial⟩
                          · refine xw_vret (aX12_rows 109 rfl) rfl ?_
                            exact ⟨rfl, FI149, rfl, hI150, (gf_tr ex_rf (gf_tr ex_rf (gf_f (gf_tr ex_rf (gf_tr ex_rf (gf_tr ex_rf (gf_f fr24 u63 (by decide)) f73 rfl rfl rfl) f101 rfl rfl rfl) f114 rfl rfl rfl) u124 (by decide)) f134 rfl rfl rfl) f151 rfl rfl rfl), (by have := congrArg Int32.toInt (show FI149 121 67 = x4 from (gf_at f151 (c121 hS) (s121 hS) rfl ((gf_at f134 (c121 hS) (s121 hS) rfl ((up_k u124 (by decide) ((gf_at f114 (c121 hS) (s121 hS) rfl ((gf_at f101 (c121 hS) (s121 hS) rfl ((gf_at f73 (c121 hS) (s121 hS) rfl ((up_k u63 (by decide) (kp26))))))))))))))); have := congrArg Int32.toInt (show FI149 121 68 = x140 from (gf_at f151 (c121 hS) (s121 hS) rfl (h141))); omega), (by have := congrArg Int32.toInt (show FI149 121 68 = x140 from (gf_at f151 (c121 hS) (s121 hS) rfl (h141))); omega), (by have := congrArg Int32.toInt (show FI149 121 68 = x140 from (gf_at f151 (c121 hS) (s121 hS) rfl (h141))); have := congrArg Int32.toInt (show FI149 121 73 = x155 from h156); omega), (by have := congrArg Int32.toInt (show FI149 121 73 = x155 from h156); omega), (by have := congrArg Int32.toInt (show FI149 121 69 = x143 from (gf_at f151 (c121 hS) (s121 hS) rfl (h144))); exact fun h => absurd h (by omega))⟩
                        · omega
                      · refine hw_aloadn (aX12_rows 71 rfl) rfl ?_
                        refine hw_ic (v := (3 : Int32)) (aX12_rows 72 rfl) (by decide) ?_
                        refine hw_callV (Bs := [.int ((3 : Int32))]) (rest := []) (aX12_rows 73 rfl) wc_RX12_487 (by decide) rfl wi_yX12_fail wv_yX12_fail (c121 hS) (s121 hS) rfl rfl rfl (Nat.le_of_ble_eq_true rfl) (Nat.le_of_ble_eq_true rfl) (n_fail (d := d + 8) hS hF hI72 ((3 : Int32)) (by have := ((by decide : (3 : Int32).toInt = 3) : ((3 : Int32)).toInt = 3); omega)) (fun v374 sv375 p376 => ?_)
                        obtain ⟨rfl, FI378, rfl, hI379, f380, t381⟩ := p376
                        have rl382 : rl_e (FI378 149) (FI378 121 67) := by rw [show FI378 149 = FI71 149 from gf_row f380 (c149 hS) (s149 hS) rfl rfl, show FI378 121 67 = FI71 121 67 from gf_at f380 (c121 hS) (s121 hS) rfl rfl]; exact rl77
                        have rl383 : rl_t (FI378 149) (FL 150) := by rw [show FI378 149 = FI71 149 from gf_row f380 (c149 hS) (s149 hS) rfl rfl]; exact rl78
                        obtain ⟨x384, h385⟩ : ∃ y, FI378 121 69 = y := ⟨_, rfl⟩
                        have h385l := congrArg Int32.toInt h385
                        have := i_rng x384
                        show hw base _ _ _ _ _ [] _ _
                        refine hw_aloadn (aX12_rows 74 rfl) rfl ?_
                        refine hw_get (v := .int (x384)) (aX12_rows 75 rfl) wf_RX12_475 (c121 hS) (s121 hS) (by decide) (congrArg Value.int (show FI378 121 69 = x384 from h385)) ?_
                        refine hw_ifeq (tgt := 148) (aX12_rows 76 rfl) (by decide) rfl (fun cd386 => ?_) (fun cd386 => ?_)
                        · omega
                        · refine xw_vret (aX12_rows 77 rfl) rfl ?_
                          exact ⟨rfl, FI378, rfl, hI379, (gf_tr ex_rf (gf_tr ex_rf (gf_f fr24 u63 (by decide)) f73 rfl rfl rfl) f380 rfl rfl rfl), (by have := congrArg Int32.toInt (show FI378 121 67 = x4 from (gf_at f380 (c121 hS) (s121 hS) rfl ((gf_at f73 (c121 hS) (s121 hS) rfl ((up_k u63 (by decide) (kp26))))))); have := congrArg Int32.toInt (show FI378 121 68 = x79 from (gf_at f380 (c121 hS) (s121 hS) rfl (h80))); omega), (by have := congrArg Int32.toInt (show FI378 121 68 = x79 from (gf_at f380 (c121 hS) (s121 hS) rfl (h80))); omega), (by have := congrArg Int32.toInt (show FI378 121 68 = x79 from (gf_at f380 (c121 hS) (s121 hS) rfl (h80))); have := congrArg Int32.toInt (show FI378 121 73 = x44 from (gf_at f380 (c121 hS) (s121 hS) rfl ((gf_at f73 (c121 hS) (s121 hS) rfl ((up_k u63 (by decide) (h45))))))); omega), (by have := congrArg Int32.toInt (show FI378 121 73 = x44 from (gf_at f380 (c121 hS) (s121 hS) rfl ((gf_at f73 (c121 hS) (s121 hS) rfl ((up_k u63 (by decide) (h45))))))); omega), (by have := congrArg Int32.toInt (show FI378 121 69 = x384 from h385); exact fun h => absurd h (by omega))⟩
                  · refine hw_aloadn (aX12_rows 57 rfl) rfl ?_
                    refine hw_ic (v := (1 : Int32)) (aX12_rows 58 rfl) (by decide) ?_
                    refine hw_callV (Bs := [.int ((1 : Int32))]) (rest := []) (aX12_rows 59 rfl) wc_RX12_487 (by decide) rfl wi_yX12_fail wv_yX12_fail (c121 hS) (s121 hS) rfl rfl rfl (Nat.le_of_ble_eq_true rfl) (Nat.le_of_ble_eq_true rfl) (n_fail (d := d + 8) hS hF hI72 ((1 : Int32)) (by have := ((by decide : (1 : Int32).toInt = 1) : ((1 : Int32)).toInt = 1); omega)) (fun v387 sv388 p389 => ?_)
                    obtain ⟨rfl, FI391, rfl, hI392, f393, t394⟩ := p389
                    have rl395 : rl_e (FI391 149) (FI391 121 67) := by rw [show FI391 149 = FI71 149 from gf_row f393 (c149 hS) (s149 hS) rfl rfl, show FI391 121 67 = FI71 121 67 from gf_at f393 (c121 hS) (s121 hS) rfl rfl]; exact rl77
                    have rl396 : rl_t (FI391 149) (FL 150) := by rw [show FI391 149 = FI71 149 from gf_row f393 (c149 hS) (s149 hS) rfl rfl]; exact rl78
                    obtain ⟨x397, h398⟩ : ∃ y, FI391 121 69 = y := ⟨_, rfl⟩
                    have h398l := congrArg Int32.toInt h398
                    have := i_rng x397
                    show hw base _ _ _ _ _ [] _ _
                    refine hw_aloadn (aX12_rows 60 rfl) rfl ?_
                    refine hw_get (v := .int (x397)) (aX12_rows 61 rfl) wf_RX12_475 (c121 hS) (s121 hS) (by decide) (congrArg Value.int (show FI391 121 69 = x397 from h398)) ?_
                    refine hw_ifne (tgt := 140) (aX12_rows 62 rfl) (by decide) rfl (fun cd399 => ?_) (fun cd399 => ?_)
                    · refine hw_aloadn (aX12_rows 74 rfl) rfl ?_
                      refine hw_get (v := .int (x397)) (aX12_rows 75 rfl) wf_RX12_475 (c121 hS) (s121 hS) (by decide) (congrArg Value.int (show FI391 121 69 = x397 from h398)) ?_
                      refine hw_ifeq (tgt := 148) (aX12_rows 76 rfl) (by decide) rfl (fun cd400 => ?_) (fun cd400 => ?_)
                      · omega
                      · refine xw_vret (aX12_rows 77 rfl) rfl ?_
                        exact ⟨rfl, FI391, rfl, hI392, (gf_tr ex_rf (gf_tr ex_rf (gf_f fr24 u63 (by decide)) f73 rfl rfl rfl) f393 rfl rfl rfl), (by have := congrArg Int32.toInt (show FI391 121 67 = x4 from (gf_at f393 (c121 hS) (s121 hS) rfl ((gf_at f73 (c121 hS) (s121 hS) rfl ((up_k u63 (by decide) (kp26))))))); have := congrArg Int32.toInt (show FI391 121 68 = x79 from (gf_at f393 (c121 hS) (s121 hS) rfl (h80))); omega), (by have := congrArg Int32.toInt (show FI391 121 68 = x79 from (gf_at f393 (c121 hS) (s121 hS) rfl (h80))); omega), (by have := congrArg Int32.toInt (show FI391 121 68 = x79 from (gf_at f393 (c121 hS) (s121 hS) rfl (h80))); have := congrArg Int32.toInt (show FI391 121 73 = x44 from (gf_at f393 (c121 hS) (s121 hS) rfl ((gf_at f73 (c121 hS) (s121 hS) rfl ((up_k u63 (by decide) (h45))))))); omega), (by have := congrArg Int32.toInt (show FI391 121 73 = x44 from (gf_at f393 (c121 hS) (s121 hS) rfl ((gf_at f73 (c121 hS) (s121 hS) rfl ((up_k u63 (by decide) (h45))))))); omega), (by have := congrArg Int32.toInt (show FI391 121 69 = x397 from h398); exact fun h => absurd h (by omega))⟩
                    · omega
              · omega
            · refine hw_aloadn (aX12_rows 25 rfl) rfl ?_
              refine hw_bp (v := (6 : Int32)) (aX12_rows 26 rfl) (by decide) ?_
              refine hw_callV (Bs := [.int ((6 : Int32))]) (rest := []) (aX12_rows 27 rfl) wc_RX12_487 (by decide) rfl wi_yX12_fail wv_yX12_fail (c121 hS) (s121 hS) rfl rfl rfl (Nat.le_of_ble_eq_true rfl) (Nat.le_of_ble_eq_true rfl) (n_fail (d := d + 8) hS hF hI25 ((6 : Int32)) (by have := ((by decide : (6 : Int32).toInt = 6) : ((6 : Int32)).toInt = 6); omega)) (fun v401 sv402 p403 => ?_)
              obtain ⟨rfl, FI405, rfl, hI406, f407, t408⟩ := p403
              have rl409 : rl_e (FI405 149) (FI405 121 67) := by rw [show FI405 149 = FIv23 149 from gf_row f407 (c149 hS) (s149 hS) rfl rfl, show FI405 121 67 = FIv23 121 67 from gf_at f407 (c121 hS) (s121 hS) rfl rfl]; exact rl28
              have rl410 : rl_t (FI405 149) (FL 150) := by rw [show FI405 149 = FIv23 149 from gf_row f407 (c149 hS) (s149 hS) rfl rfl]; exact rl29
              obtain ⟨x411, h412⟩ : ∃ y, FI405 121 69 = y := ⟨_, rfl⟩
              have h412l := congrArg Int32.toInt h412
              have := i_rng x411
              show hw base _ _ _ _ _ [] _ _
              refine hw_aloadn (aX12_rows 28 rfl) rfl ?_
              refine hw_get (v := .int (x411)) (aX12_rows 29 rfl) wf_RX12_475 (c121 hS) (s121 hS) (by decide) (congrArg Value.int (show FI405 121 69 = x411 from h412)) ?_
              refine hw_ifeq (tgt := 62) (aX12_rows 30 rfl) (by decide) rfl (fun cd413 => ?_) (fun cd413 => ?_)
              · omega
              · refine xw_vret (aX12_rows 31 rfl) rfl ?_
                exact ⟨rfl, FI405, rfl, hI406, (gf_tr ex_rf fr24 f407 rfl rfl rfl), (by have := congrArg Int32.toInt (show FI405 121 67 = x4 from (gf_at f407 (c121 hS) (s121 hS) rfl (kp26))); have := congrArg Int32.toInt (show FI405 121 68 = x39 from (gf_at f407 (c121 hS) (s121 hS) rfl (h40))); omega), (by have := congrArg Int32.toInt (show FI405 121 68 = x39 from (gf_at f407 (c121 hS) (s121 hS) rfl (h40))); omega), (by have := congrArg Int32.toInt (show FI405 121 68 = x39 from (gf_at f407 (c121 hS) (s121 hS) rfl (h40))); have := congrArg Int32.toInt (show FI405 121 73 = x44 from (gf_at f407 (c121 hS) (s121 hS) rfl (h45))); omega), (by have := congrArg Int32.toInt (show FI405 121 73 = x44 from (gf_at f407 (c121 hS) (s121 hS) rfl (h45))); omega), (by have := congrArg Int32.toInt (show FI405 121 69 = x411 from h412); exact fun h => absurd h (by omega))⟩
          · refine hw_aloadn (aX12_rows 14 rfl) rfl ?_
            refine hw_ic (v := (1 : Int32)) (aX12_rows 15 rfl) (by decide) ?_
            refine hw_callV (Bs := [.int ((1 : Int32))]) (rest := []) (aX12_rows 16 rfl) wc_RX12_487 (by decide) rfl wi_yX12_fail wv_yX12_fail (c121 hS) (s121 hS) rfl rfl rfl (Nat.le_of_ble_eq_true rfl) (Nat.le_of_ble_eq_true rfl) (n_fail (d := d + 8) hS hF hI25 ((1 : Int32)) (by have := ((by decide : (1 : Int32).toInt = 1) : ((1 : Int32)).toInt = 1); omega)) (fun v414 sv415 p416 => ?_)
            obtain ⟨rfl, FI418, rfl, hI419, f420, t421⟩ := p416
            have rl422 : rl_e (FI418 149) (FI418 121 67) := by rw [show FI418 149 = FIv23 149 from gf_row f420 (c149 hS) (s149 hS) rfl rfl, show FI418 121 67 = FIv23 121 67 from gf_at f420 (c121 hS) (s121 hS) rfl rfl]; exact rl28
            have rl423 : rl_t (FI418 149) (FL 150) := by rw [show FI418 149 = FIv23 149 from gf_row f420 (c149 hS) (s149 hS) rfl rfl]; exact rl29
            obtain ⟨x424, h425⟩ : ∃ y, FI418 121 69 = y := ⟨_, rfl⟩
            have h425l := congrArg Int32.toInt h425
            have := i_rng x424
            show hw base _ _ _ _ _ [] _ _
            refine xw_goto (tgt := 54) (aX12_rows 17 rfl) (by decide) ?_
            refine hw_aloadn (aX12_rows 28 rfl) rfl ?_
            refine hw_get (v := .int (x424)) (aX12_rows 29 rfl) wf_RX12_475 (c121 hS) (s121 hS) (by decide) (congrArg Value.int (show FI418 121 69 = x424 from h425)) ?_
            refine hw_ifeq (tgt := 62) (aX12_rows 30 rfl) (by decide) rfl (fun cd426 => ?_) (fun cd426 => ?_)
            · omega
            · refine xw_vret (aX12_rows 31 rfl) rfl ?_
              exact ⟨rfl, FI418, rfl, hI419, (gf_tr ex_rf fr24 f420 rfl rfl rfl), (by have := congrArg Int32.toInt (show FI418 121 67 = x4 from (gf_at f420 (c121 hS) (s121 hS) rfl (kp26))); have := congrArg Int32.toInt (show FI418 121 68 = x39 from (gf_at f420 (c121 hS) (s121 hS) rfl (h40))); omega), (by have := congrArg Int32.toInt (show FI418 121 68 = x39 from (gf_at f420 (c121 hS) (s121 hS) rfl (h40))); omega), (by have := congrArg Int32.toInt (show FI418 121 68 = x39 from (gf_at f420 (c121 hS) (s121 hS) rfl (h40))); have := congrArg Int32.toInt (show FI418 121 73 = x44 from (gf_at f420 (c121 hS) (s121 hS) rfl (h45))); omega), (by have := congrArg Int32.toInt (show FI418 121 73 = x44 from (gf_at f420 (c121 hS) (s121 hS) rfl (h45))); omega), (by have := congrArg Int32.toInt (show FI418 121 69 = x424 from h425); exact fun h => absurd h (by omega))⟩
      exact hw_L (lp38 ((1001 - (x1).toInt : Int).toNat + 1) FI gf_rf hI (show FI 121 67 = x4 from h5) (show FI 121 78 = x14 from h15) (show rl_e (FI 149) (FI 121 67) from rel_tend) (show rl_t (FI 149) (FL 150) from rel_tok) (by have := congrArg Int32.toInt (show FI 121 68 = x1 from h2); omega) (by have := congrArg Int32.toInt (show FI 121 69 = x7 from h8); omega) (by have := congrArg Int32.toInt (show FI 121 67 = x4 from h5); have := congrArg Int32.toInt (show FI 121 68 = x1 from h2); omega) (by have := congrArg Int32.toInt (show FI 121 68 = x1 from h2); omega) (by have := congrArg Int32.toInt (show FI 121 68 = x1 from h2); have := congrArg Int32.toInt (show FI 121 73 = x9 from h10); omega) (by have := congrArg Int32.toInt (show FI 121 73 = x9 from h10); omega) (by have := congrArg Int32.toInt (show FI 121 71 = x12 from h13); omega) (show gr_rws (kf (FI 149)) (wf (FL 150)) ((FI 159 (FI 121 78).toNatClampNeg).toInt).toNat (FI 121 68).toInt.toNat ((FI 121 68).toInt).toNat from (by have := congrArg Int32.toInt (show FI 121 68 = x1 from h2); exact (by { have := congrArg Int32.toInt (show FI 159 (FI 121 78).toNatClampNeg = x19 from (by rw [show FI 121 78 = x14 from h15]; exact h20)); rw [show ((FI 159 (FI 121 78).toNatClampNeg).toInt).toNat = 0 by omega, show ((FI 121 68).toInt).toNat = (FI 121 68).toInt.toNat by omega]; rfl }))) (show FI 149 = FI 149 from rfl) (by have := congrArg Int32.toInt (show FI 121 68 = x1 from h2); omega)) ⟨rfl, trivial⟩
