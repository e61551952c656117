def nX12_rows : Nat := 0xb1f901b60810092af901b60810092ac4fea7de01b56004de01b42a2a0d00991b3c030400a704070099e401b62c102a10009adb01b42a4f60042e0302b42a8700b42a0302b42a8700b42a4f7eff00117a08100515600404157800b42a4f7eff0011051504157800b42a2200a3a00f11ed01b42a05366405640415ed01b42a1402b62ab1040099db01b42af901b605092a0436ed01b42a0f02b63a102ade01b56004de01b42a2af901b608102fde01b42a6c00b42a2af901b60810202ab1040099db01b42ae701b6062a08009d94202fde01b42a6c00b42a16009adb01b42ae701b6042a08009f062ede01b42a6900b42a15009adb01b42a0f02b60001112ade01b56004de01b42a2a412fde01b42a6c00b42ab1040099db01b42ae701b606102a0900a008102e0302b42a8700b42a1700a7e701b6042a0b009f062ede01b42a6900b42a37019adb01b42a3e01991b3c04
theorem bX12_rows : cX12_rows.data.toList.map UInt8.toNat = x_un nX12_rows 336 := by decide +kernel
def iX12_rows : List (Nat × Jvm.ClassFile.Instr × Nat) := [(0, .iconst 1, 1), (1, .istore_n 1, 1), (2, .iload_n 1, 1), (3, .ifCond .eq 318, 3), (6, .aload_n 0, 1), (7, .getfield 475, 3), (10, .ifCond .ne 311, 3), (13, .aload_n 0, 1), (14, .getfield 105, 3), (17, .aload_n 0, 1), (18, .getfield 478, 3), (21, .iaload, 1), (22, .iconst 3, 1), (23, .if_icmp .eq 11, 3), (26, .aload_n 0, 1), (27, .iconst 1, 1), (28, .invokevirtual 487, 3), (31, .goto 23, 3), (34, .aload_n 0, 1), (35, .getfield 135, 3), (38, .aload_n 0, 1), (39, .getfield 515, 3), (42, .iaload, 1), (43, .bipush 8, 2), (45, .if_icmp .ne 9, 3), (48, .aload_n 0, 1), (49, .bipush 6, 2), (51, .invokevirtual 487, 3), (54, .aload_n 0, 1), (55, .getfield 475, 3), (58, .ifCond .eq 4, 3), (61, .return_, 1), (62, .aload_n 0, 1), (63, .getfield 108, 3), (66, .aload_n 0, 1), (67, .getfield 478, 3), (70, .laload, 1), (71, .lstore_n 2, 1), (72, .aload_n 0, 1), (73, .aload_n 0, 1), (74, .getfield 478, 3), (77, .iconst 1, 1), (78, .iadd, 1), (79, .putfield 478, 3), (82, .aload_n 0, 1), (83, .sipush 256, 3), (86, .invokevirtual 527, 3), (89, .aload_n 0, 1), (90, .getfield 475, 3), (93, .ifCond .ne 21, 3), (96, .aload_n 0, 1), (97, .getfield 105, 3), (100, .aload_n 0, 1), (101, .getfield 478, 3), (104, .iaload, 1), (105, .iconst 3, 1), (106, .if_icmp .eq 8, 3), (109, .aload_n 0, 1), (110, .iconst 1, 1), (111, .invokevirtual 487, 3), (114, .aload_n 0, 1), (115, .getfield 475, 3), (118, .ifCond .ne 22, 3), (121, .aload_n 0, 1), (122, .getfield 108, 3), (125, .aload_n 0, 1), (126, .getfield 478, 3), (129, .laload, 1), (130, .lload_n 2, 1), (131, .lcmp, 1), (132, .ifCond .gt 8, 3), (135, .aload_n 0, 1), (136, .iconst 3, 1), (137, .invokevirtual 487, 3), (140, .aload_n 0, 1), (141, .getfield 475, 3), (144, .ifCond .eq 4, 3), (147, .return_, 1), (148, .aload_n 0, 1), (149, .lload_n 2, 1), (150, .bipush 8, 2), (152, .invokevirtual 505, 3), (155, .aload_n 0, 1), (156, .aload_n 0, 1), (157, .getfield 108, 3), (160, .aload_n 0, 1), (161, .getfield 478, 3), (164, .laload, 1), (165, .bipush 8, 2), (167, .invokevirtual 505, 3), (170, .aload_n 0, 1), (171, .aload_n 0, 1), (172, .getfield 478, 3), (175, .iconst 1, 1), (176, .iadd, 1), (177, .putfield 478, 3), (180, .aload_n 0, 1), (181, .bipush 58, 2), (183, .invokevirtual 527, 3), (186, .aload_n 0, 1), (187, .getfield 493, 3), (190, .istore 4, 2), (192, .aload_n 0, 1), (193, .lconst 0, 1), (194, .iconst 2, 1), (195, .invokevirtual 505, 3), (198, .aload_n 0, 1), (199, .getfield 475, 3), (202, .ifCond .eq 4, 3), (205, .return_, 1), (206, .aload_n 0, 1), (207, .invokevirtual 532, 3), (210, .aload_n 0, 1), (211, .getfield 493, 3), (214, .iload 4, 2), (216, .isub, 1), (217, .iconst 2, 1), (218, .isub, 1), (219, .istore 5, 2), (221, .aload_n 0, 1), (222, .getfield 493, 3), (225, .sipush 4000, 3), (228, .if_icmp .gt 34, 3), (231, .aload_n 0, 1), (232, .getfield 120, 3), (235, .iload 4, 2), (237, .iload 5, 2), (239, .sipush 255, 3), (242, .iand, 1), (243, .iastore, 1), (244, .aload_n 0, 1), (245, .getfield 120, 3), (248, .iload 4, 2), (250, .iconst 1, 1), (251, .iadd, 1), (252, .iload 5, 2), (254, .bipush 8, 2), (256, .ishr, 1), (257, .sipush 255, 3), (260, .iand, 1), (261, .iastore, 1), (262, .aload_n 0, 1), (263, .getfield 135, 3), (266, .aload_n 0, 1), (267, .getfield 515, 3), (270, .aload_n 0, 1), (271, .getfield 135, 3), (274, .aload_n 0, 1), (275, .getfield 515, 3), (278, .iaload, 1), (279, .iconst 1, 1), (280, .iadd, 1), (281, .iastore, 1), (282, .aload_n 0, 1), (283, .getfield 475, 3), (286, .ifCond .ne 16, 3), (289, .aload_n 0, 1), (290, .bipush 44, 2), (292, .invokevirtual 484, 3), (295, .ifCond .eq 7, 3), (298, .iconst 1, 1), (299, .goto 4, 3), (302, .iconst 0, 1), (303, .istore_n 1, 1), (304, .iload_n 1, 1), (305, .ifCond .eq 13, 3), (308, .aload_n 0, 1), (309, .aload_n 0, 1), (310, .getfield 478, 3), (313, .iconst 1, 1), (314, .iadd, 1), (315, .putfield 478, 3), (318, .goto (-316), 3), (321, .aload_n 0, 1), (322, .lconst 0, 1), (323, .bipush 8, 2), (325, .invokevirtual 505, 3), (328, .aload_n 0, 1), (329, .lconst 0, 1), (330, .bipush 8, 2), (332, .invokevirtual 505, 3), (335, .return_, 1)]
theorem dX12_rows : x_il nX12_rows 336 iX12_rows = true := by decide +kernel
theorem aX12_rows (k : Nat) {pc : Nat} {i : Jvm.ClassFile.Instr} {len : Nat} (hk : iX12_rows[k]? = some (pc, i, len)) : x_at xMM 227 pc i len yX12_rows 6 none := ⟨cX12_rows, rfl, x_il_ok bX12_rows dX12_rows k hk⟩
set_option maxHeartbeats 4000000 in
set_option maxRecDepth 100000 in
theorem n_rows {base d n sl : Nat} {SH : Nat → Nat × Nat} {FI : Nat → Nat → Int32} {FL : Nat → Nat → Int64} {FR : Nat → Nat → Option Nat} (hS : h_S n SH) (hF : h_FR FR) (hI : g_I FI) (g0 : (FI 121 68).toInt < (FI 121 67).toInt - 1) (g1 : (FI 121 69).toInt = 0) (g2 : (FI 121 73).toInt ≤ 20 * (FI 121 68).toInt + 60) (g3 : (FI 121 71).toInt = 0) (g4 : (FI 121 78).toInt ≤ 11) (gg0 : (FI 159 (FI 121 78).toNatClampNeg).toInt = 0) (rel_tend : rl_e (FI 149) (FI 121 67)) (rel_tok : rl_t (FI 149) (FL 150)) (rel_pm : rl_pm (FI 121 90) (FI 121 73) (FI 166) (FI 167) (FI 168)) : hw base (d + 9) none 227 0 [(0, .ref (base + 121))] [] (n, sl, SH, FI, FL, FR) (h_V (fun s => ∃ FI', s = (n, sl, SH, FI', FL, FR) ∧ g_I FI' ∧ g_fr n SH [(121, 68), (121, 69), (121, 70), (121, 71), (121, 73), (121, 90), (121, 91)] [154, 159, 163, 164, 165, 166, 167, 168] [] FI FI' ∧ ((FI' 121 68).toInt ≤ (FI' 121 67).toInt - 1) ∧ ((FI 121 68).toInt ≤ (FI' 121 68).toInt) ∧ ((FI' 121 73).toInt ≤ (FI 121 73).toInt + 20 * ((FI' 121 68).toInt - (FI 121 68).toInt) + 16) ∧ ((FI 121 73).toInt ≤ (FI' 121 73).toInt) ∧ ((FI' 121 69).toInt = 0 → gr_rws (kf (FI 149)) (wf (FL 150)) ((FI' 159 (FI 121 78).toNatClampNeg).toInt).toNat (FI 121 68).toInt.toNat ((FI' 121 68).toInt.toNat + 1) ∧ 1 ≤ (FI' 159 (FI 121 78).toNatClampNeg).toInt) ∧ (rl_pm (FI' 121 90) (FI' 121 73) (FI' 166) (FI' 167) (FI' 168)))) := by
  obtain ⟨x1, h2⟩ : ∃ y, FI 121 68 = y := ⟨_, rfl⟩
  have h2l := congrArg Int32.toInt h2
  have b3 := gI_121_68 hI; rw [h2] at b3
  obtain ⟨x4, h5⟩ : ∃ y, FI 121 67 = y := ⟨_, rfl⟩
  have h5l := congrArg Int32.toInt h5
  have b6 := gI_121_67 hI; rw [h5] at b6
  obtain ⟨x7, h8⟩ : ∃ y, FI 121 69 = y := ⟨_, rfl⟩
  have h8l := congrArg Int32.toInt h8
  have := i_rng x7
  obtain ⟨x9, h10⟩ : ∃ y, FI 121 73 = y := ⟨_, rfl⟩
  have h10l := congrArg Int32.toInt h10
  have b11 := gI_121_73 hI; rw [h10] at b11
  obtain ⟨x12, h13⟩ : ∃ y, FI 121 71 = y := ⟨_, rfl⟩
  have h13l := congrArg Int32.toInt h13
  have := i_rng x12
  obtain ⟨x14, h15⟩ : ∃ y, FI 121 78 = y := ⟨_, rfl⟩
  have h15l := congrArg Int32.toInt h15
  have b16 := gI_121_78 hI; rw [h15] at b16
  have e17 : 0 ≤ (x12).toInt ∧ (x12).toInt ≤ 0 := by omega
  have e18 : 0 ≤ (x7).toInt ∧ (x7).toInt ≤ 0 := by omega
  obtain ⟨x19, h20⟩ : ∃ y, FI 159 (x14).toNatClampNeg = y := ⟨_, rfl⟩
  have h20l := congrArg Int32.toInt h20
  have := i_rng x19
  have h159 : (x19).toInt = 0 := by have := gg0; rw [show FI 121 78 = x14 from h15, show FI 159 (x14).toNatClampNeg = x19 from h20] at this; exact this
  refine hw_ic (v := (1 : Int32)) (aX12_rows 0 rfl) (by decide) ?_
  refine xw_istoren (L2 := [(1, .int ((1 : Int32))), (0, .ref (base + 121))]) (aX12_rows 1 rfl) (by decide) rfl ?_
  refine xw_iloadn (aX12_rows 2 rfl) rfl ?_
  refine hw_ifeq (tgt := 321) (aX12_rows 3 rfl) (by decide) (by decide : (1 : Int32).toInt = 1) (fun cd21 => ?_) (fun cd21 => ?_)
  · omega
  · refine hw_aloadn (aX12_rows 4 rfl) rfl ?_
    refine hw_get (v := .int (x7)) (aX12_rows 5 rfl) wf_RX12_475 (c121 hS) (s121 hS) (by decide) (congrArg Value.int (show FI 121 69 = x7 from h8)) ?_
    refine hw_ifne (tgt := 321) (aX12_rows 6 rfl) (by decide) rfl (fun cd22 => ?_) (fun cd22 => ?_)
    · omega
    · have lp39 : ∀ (m : Nat) (FIv23 : Nat → Nat → Int32), (g_fr n SH [(121, 68), (121, 69), (121, 70), (121, 71), (121, 73), (121, 90), (121, 91)] [154, 159, 163, 164, 165, 166, 167, 168] [] FI FIv23) → (g_I FIv23) → (FIv23 121 67 = x4) → (FIv23 121 78 = x14) → (rl_e (FIv23 149) (FIv23 121 67)) → (rl_t (FIv23 149) (FL 150)) → (rl_pm (FIv23 121 90) (FIv23 121 73) (FIv23 166) (FIv23 167) (FIv23 168)) → (0 ≤ (FIv23 121 68).toInt ∧ (FIv23 121 68).toInt ≤ 1000) → ((FIv23 121 69).toInt = 0) → ((FIv23 121 68).toInt ≤ (x4).toInt - 1) → ((FI 121 68).toInt ≤ (FIv23 121 68).toInt) → ((FIv23 121 73).toInt ≤ (FI 121 73).toInt + 20 * ((FIv23 121 68).toInt - (FI 121 68).toInt)) → ((FI 121 73).toInt ≤ (FIv23 121 73).toInt) → ((FIv23 121 71).toInt = 0) → (gr_rws (kf (FI 149)) (wf (FL 150)) ((FIv23 159 (FI 121 78).toNatClampNeg).toInt).toNat (FI 121 68).toInt.toNat ((FIv23 121 68).toInt).toNat) → (FIv23 149 = FI 149) → 1001 - (FIv23 121 68).toInt < m → hw base (d + 9) none 227 13 [(0, .ref (base + 121))] [] (n, sl, SH, FIv23, FL, FR) (h_V (fun s => ∃ FI', s = (n, sl, SH, FI', FL, FR) ∧ g_I FI' ∧ g_fr n SH [(121, 68), (121, 69), (121, 70), (121, 71), (121, 73), (121, 90), (121, 91)] [154, 159, 163, 164, 165, 166, 167, 168] [] FI FI' ∧ ((FI' 121 68).toInt ≤ (FI' 121 67).toInt - 1) ∧ ((FI 121 68).toInt ≤ (FI' 121 68).toInt) ∧ ((FI' 121 73).toInt ≤ (FI 121 73).toInt + 20 * ((FI' 121 68).toInt - (FI 121 68).toInt) + 16) ∧ ((FI 121 73).toInt ≤ (FI' 121 73).toInt) ∧ ((FI' 121 69).toInt = 0 → gr_rws (kf (FI 149)) (wf (FL 150)) ((FI' 159 (FI 121 78).toNatClampNeg).toInt).toNat (FI 121 68).toInt.toNat ((FI' 121 68).toInt.toNat + 1) ∧ 1 ≤ (FI' 159 (FI 121 78).toNatClampNeg).toInt) ∧ (rl_pm (FI' 121 90) (FI' 121 73) (FI' 166) (FI' 167) (FI' 168)))) := by
        intro m
        induction m with
        | zero => intro FIv23 fr24 hI25 kp26 kp27 rl28 rl29 rl30 iv31 iv32 iv33 iv34 iv35 iv36 iv37 xi13_0 rw38 hm; omega
        | succ m ih =>
          intro FIv23 fr24 hI25 kp26 kp27 rl28 rl29 rl30 iv31 iv32 iv33 iv34 iv35 iv36 iv37 xi13_0 rw38 hm
          have := congrArg Int32.toInt kp26
          have := congrArg Int32.toInt kp27
          obtain ⟨x40, h41⟩ : ∃ y, FIv23 121 68 = y := ⟨_, rfl⟩
          have h41l := congrArg Int32.toInt h41
          have b42 := gI_121_68 hI25; rw [h41] at b42
          obtain ⟨x43, h44⟩ : ∃ y, FIv23 121 69 = y := ⟨_, rfl⟩
          have h44l := congrArg Int32.toInt h44
          have := i_rng x43
          obtain ⟨x45, h46⟩ : ∃ y, FIv23 121 73 = y := ⟨_, rfl⟩
          have h46l := congrArg Int32.toInt h46
          have b47 := gI_121_73 hI25; rw [h46] at b47
          obtain ⟨x48, h49⟩ : ∃ y, FIv23 121 71 = y := ⟨_, rfl⟩
          have h49l := congrArg Int32.toInt h49
          have := i_rng x48
          refine hw_aloadn (aX12_rows 7 rfl) rfl ?_
          have e50 : 0 ≤ (x43).toInt ∧ (x43).toInt ≤ 0 := by omega
          have e51 : 0 ≤ (x48).toInt ∧ (x48).toInt ≤ 0 := by omega
          obtain ⟨x52, h53⟩ : ∃ y, FIv23 159 (x14).toNatClampNeg = y := ⟨_, rfl⟩
          have h53l := congrArg Int32.toInt h53
          have := i_rng x52
          have b159 := gI_159 hI25 (i_lt (x := x14) rfl (by omega) (by omega)); rw [show FIv23 159 (x14).toNatClampNeg = x52 from h53] at b159
          have := congrArg Int32.toInt (show FIv23 121 68 = x40 from h41)
          refine hw_get (v := .ref (base + 149)) (aX12_rows 8 rfl) wf_RX12_105 (c121 hS) (s121 hS) (by decide) (congrArg (fun r => va_rf (h_rf base r)) (r121_62 hF)) ?_
          refine hw_aloadn (aX12_rows 9 rfl) rfl ?_
          refine hw_get (v := .int (x40)) (aX12_rows 10 rfl) wf_RX12_478 (c121 hS) (s121 hS) (by decide) (congrArg Value.int (show FIv23 121 68 = x40 from h41)) ?_
          obtain ⟨x54, h55⟩ : ∃ y, FIv23 149 (x40).toNatClampNeg = y := ⟨_, rfl⟩
          have h55l := congrArg Int32.toInt h55
          have := i_rng x54
          refine hw_iald (v := x54) (aX12_rows 11 rfl) (c149 hS) (s149 hS) (h_in rfl (by omega) (by omega)) (show FIv23 149 (x40).toNatClampNeg = x54 from h55) ?_
          refine hw_ic (v := (3 : Int32)) (aX12_rows 12 rfl) (by decide) ?_
          refine hw_iceq (tgt := 34) (aX12_rows 13 rfl) (by decide) rfl (by decide : (3 : Int32).toInt = 3) (fun cd56 => ?_) (fun cd56 => ?_)
          · have := congrArg Int32.toInt (show FIv23 121 67 = x4 from kp26)
            have hne56 := rl_e_ne rl28 (t := x40) (by omega)
            refine hw_aloadn (aX12_rows 18 rfl) rfl ?_
            refine hw_get (v := .ref (base + 159)) (aX12_rows 19 rfl) wf_RX12_135 (c121 hS) (s121 hS) (by decide) (congrArg (fun r => va_rf (h_rf base r)) (r121_80 hF)) ?_
            refine hw_aloadn (aX12_rows 20 rfl) rfl ?_
            refine hw_get (v := .int (x14)) (aX12_rows 21 rfl) wf_RX12_515 (c121 hS) (s121 hS) (by decide) (congrArg Value.int (show FIv23 121 78 = x14 from kp27)) ?_
            refine hw_iald (v := x52) (aX12_rows 22 rfl) (c159 hS) (s159 hS) (h_in rfl (by omega) (by omega)) (show FIv23 159 (x14).toNatClampNeg = x52 from h53) ?_
            refine hw_bp (v := (8 : Int32)) (aX12_rows 23 rfl) (by decide) ?_
            refine hw_icne (tgt := 54) (aX12_rows 24 rfl) (by decide) rfl (by decide : (8 : Int32).toInt = 8) (fun cd57 => ?_) (fun cd57 => ?_)
            · refine hw_aloadn (aX12_rows 28 rfl) rfl ?_
              refine hw_get (v := .int (x43)) (aX12_rows 29 rfl) wf_RX12_475 (c121 hS) (s121 hS) (by decide) (congrArg Value.int (show FIv23 121 69 = x43 from h44)) ?_
              refine hw_ifeq (tgt := 62) (aX12_rows 30 rfl) (by decide) rfl (fun cd58 => ?_) (fun cd58 => ?_)
              · refine hw_aloadn (aX12_rows 32 rfl) rfl ?_
                refine hw_get (v := .ref (base + 150)) (aX12_rows 33 rfl) wf_RX12_108 (c121 hS) (s121 hS) (by decide) (congrArg (fun r => va_rf (h_rf base r)) (r121_63 hF)) ?_
                refine hw_aloadn (aX12_rows 34 rfl) rfl ?_
                refine hw_get (v := .int (x40)) (aX12_rows 35 rfl) wf_RX12_478 (c121 hS) (s121 hS) (by decide) (congrArg Value.int (show FIv23 121 68 = x40 from h41)) ?_
                obtain ⟨x59, h60⟩ : ∃ y, FL 150 (x40).toNatClampNeg = y := ⟨_, rfl⟩
                have h60l := congrArg Int64.toInt h60
                have := l_rng x59
                refine hw_lald (v := x59) (aX12_rows 36 rfl) (c150 hS) (s150 hS) (h_in rfl (by omega) (by omega)) (show FL 150 (x40).toNatClampNeg = x59 from h60) ?_
                refine xw_lstoren (L2 := [(2, .long (x59)), (0, .ref (base + 121))]) (aX12_rows 37 rfl) (by decide) rfl ?_
                refine hw_aloadn (aX12_rows 38 rfl) rfl ?_
                refine hw_aloadn (aX12_rows 39 rfl) rfl ?_
                refine hw_get (v := .int (x40)) (aX12_rows 40 rfl) wf_RX12_478 (c121 hS) (s121 hS) (by decide) (congrArg Value.int (show FIv23 121 68 = x40 from h41)) ?_
                refine hw_ic (v := (1 : Int32)) (aX12_rows 41 rfl) (by decide) ?_
                refine xw_iadd (aX12_rows 42 rfl) ?_
                refine hw_tie (A := ((x40).toInt) + (1)) (i_add rfl (by decide : (1 : Int32).toInt = 1) (by omega) (by omega)) (fun x61 e62 => ?_)
                refine hv_puti (aX12_rows 43 rfl) wf_RX12_478 (c121 hS) (s121 hS) (by decide) rfl rfl (fun FI63 u64 => ?_)
                have rl65 : rl_e (FI63 149) (FI63 121 67) := by rw [show FI63 149 = FIv23 149 from up_row u64 (by decide) rfl, show FI63 121 67 = FIv23 121 67 from up_k u64 (by decide) rfl]; exact rl28
                have rl66 : rl_t (FI63 149) (FL 150) := by rw [show FI63 149 = FIv23 149 from up_row u64 (by decide) rfl]; exact rl29
                have rl67 : rl_pm (FI63 121 90) (FI63 121 73) (FI63 166) (FI63 167) (FI63 168) := by rw [show FI63 166 = FIv23 166 from up_row u64 (by decide) rfl, show FI63 167 = FIv23 167 from up_row u64 (by decide) rfl, show FI63 168 = FIv23 168 from up_row u64 (by decide) rfl, show FI63 121 90 = FIv23 121 90 from up_k u64 (by decide) rfl, show FI63 121 73 = FIv23 121 73 from up_k u64 (by decide) rfl]; exact rl30
                have hI68 : g_I FI63 := gU_121_68 hI25 u64 (by have := (e62 : (x61).toInt = ((x40).toInt) + (1)); omega) (by have := (e62 : (x61).toInt = ((x40).toInt) + (1)); omega)
                refine hw_aloadn (aX12_rows 44 rfl) rfl ?_
                refine hw_sp (v := (256 : Int32)) (aX12_rows 45 rfl) (by decide) ?_
                refine hw_callV (Bs := [.int ((256 : Int32))]) (rest := []) (aX12_rows 46 rfl) wc_RX12_527 (by decide) rfl wi_yX12_need wv_yX12_need (c121 hS) (s121 hS) rfl rfl rfl (Nat.le_of_ble_eq_true rfl) (Nat.le_of_ble_eq_true rfl) (n_need (d := d + 7) hS hF hI68 ((256 : Int32)) (by have := congrArg Int32.toInt (show FI63 121 68 = x61 from up_eq u64); have := (e62 : (x61).toInt = ((x40).toInt) + (1)); have := congrArg Int32.toInt (show FI63 121 67 = x4 from (up_k u64 (by decide) (kp26))); omega) (show rl_e (FI63 149) (FI63 121 67) from rl65)) (fun v69 sv70 p71 => ?_)
                have := congrArg Int32.toInt (show FI63 121 68 = x61 from up_eq u64)
                have := (e62 : (x61).toInt = ((x40).toInt) + (1))
                have := congrArg Int32.toInt (show FI63 121 69 = x43 from (up_k u64 (by decide) (h44)))
                have := congrArg Int32.toInt (show FI63 121 68 = x61 from up_eq u64)
                have := (e62 : (x61).toInt = ((x40).toInt) + (1))
                have := congrArg Int32.toInt (show FI63 121 68 = x61 from up_eq u64)
                have := (e62 : (x61).toInt = ((x40).toInt) + (1))
                obtain ⟨rfl, FI73, rfl, hI74, f75, t76, t77, t78⟩ := p71
                have rl79 : rl_e (FI73 149) (FI73 121 67) := by rw [show FI73 149 = FI63 149 from gf_row f75 (c149 hS) (s149 hS) rfl rfl, show FI73 121 67 = FI63 121 67 from gf_at f75 (c121 hS) (s121 hS) rfl rfl]; exact rl65
                have rl80 : rl_t (FI73 149) (FL 150) := by rw [show FI73 149 = FI63 149 from gf_row f75 (c149 hS) (s149 hS) rfl rfl]; exact rl66
                have rl81 : rl_pm (FI73 121 90) (FI73 121 73) (FI73 166) (FI73 167) (FI73 168) := by rw [show FI73 166 = FI63 166 from gf_row f75 (c166 hS) (s166 hS) rfl rfl, show FI73 167 = FI63 167 from gf_row f75 (c167 hS) (s167 hS) rfl rfl, show FI73 168 = FI63 168 from gf_row f75 (c168 hS) (s168 hS) rfl rfl, show FI73 121 90 = FI63 121 90 from gf_at f75 (c121 hS) (s121 hS) rfl rfl, show FI73 121 73 = FI63 121 73 from gf_at f75 (c121 hS) (s121 hS) rfl rfl]; exact rl67
                obtain ⟨x82, h83⟩ : ∃ y, FI73 121 68 = y := ⟨_, rfl⟩
                have h83l := congrArg Int32.toInt h83
                have b84 := gI_121_68 hI74; rw [h83] at b84
                have := congrArg Int32.toInt (show FI73 121 67 = x4 from (gf_at f75 (c121 hS) (s121 hS) rfl ((up_k u64 (by decide) (kp26)))))
                obtain ⟨x85, h86⟩ : ∃ y, FI73 121 69 = y := ⟨_, rfl⟩
                have h86l := congrArg Int32.toInt h86
                have := i_rng x85
                show hw base _ _ _ _ _ [] _ _
                refine hw_aloadn (aX12_rows 47 rfl) rfl ?_
                refine hw_get (v := .int (x85)) (aX12_rows 48 rfl) wf_RX12_475 (c121 hS) (s121 hS) (by decide) (congrArg Value.int (show FI73 121 69 = x85 from h86)) ?_
                refine hw_ifne (tgt := 114) (aX12_rows 49 rfl) (by decide) rfl (fun cd87 => ?_) (fun cd87 => ?_)
                · refine hw_aloadn (aX12_rows 60 rfl) rfl ?_
                  refine hw_get (v := .int (x85)) (aX12_rows 61 rfl) wf_RX12_475 (c121 hS) (s121 hS) (by decide) (congrArg Value.int (show FI73 121 69 = x85 from h86)) ?_
                  refine hw_ifne (tgt := 140) (aX12_rows 62 rfl) (by decide) rfl (fun cd88 => ?_) (fun cd88 => ?_)
                  · refine hw_aloadn (aX12_rows 74 rfl) rfl ?_
                    refine hw_get (v := .int (x85)) (aX12_rows 75 rfl) wf_RX12_475 (c121 hS) (s121 hS) (by decide) (congrArg Value.int (show FI73 121 69 = x85 from h86)) ?_
                    refine hw_ifeq (tgt := 148) (aX12_rows 76 rfl) (by decide) rfl (fun cd89 => ?_) (fun cd89 => ?_)
                    · omega
                    · refine xw_vret (aX12_rows 77 rfl) rfl ?_
                      exact ⟨rfl, FI73, rfl, hI74, (gf_tr ex_rf (gf_f fr24 u64 (by decide)) f75 rfl rfl rfl), (by have := congrArg Int32.toInt (show FI73 121 67 = x4 from (gf_at f75 (c121 hS) (s121 hS) rfl ((up_k u64 (by decide) (kp26))))); have := congrArg Int32.toInt (show FI73 121 68 = x82 from h83); omega), (by have := congrArg Int32.toInt (show FI73 121 68 = x82 from h83); omega), (by have := congrArg Int32.toInt (show FI73 121 68 = x82 from h83); have := congrArg Int32.toInt (show FI73 121 73 = x45 from (gf_at f75 (c121 hS) (s121 hS) rfl ((up_k u64 (by decide) (h46))))); omega), (by have := congrArg Int32.toInt (show FI73 121 73 = x45 from (gf_at f75 (c121 hS) (s121 hS) rfl ((up_k u64 (by decide) (h46))))); omega), (by have := congrArg Int32.toInt (show FI73 121 69 = x85 from h86); exact fun h => absurd h (by omega)), (show rl_pm (FI73 121 90) (FI73 121 73) (FI73 166) (FI73 167) (FI73 168) from rl81)⟩
                  · omega
                · refine hw_aloadn (aX12_rows 50 rfl) rfl ?_
                  refine hw_get (v := .ref (base + 149)) (aX12_rows 51 rfl) wf_RX12_105 (c121 hS) (s121 hS) (by decide) (congrArg (fun r => va_rf (h_rf base r)) (r121_62 hF)) ?_
                  refine hw_aloadn (aX12_rows 52 rfl) rfl ?_
                  refine hw_get (v := .int (x82)) (aX12_rows 53 rfl) wf_RX12_478 (c121 hS) (s121 hS) (by decide) (congrArg Value.int (show FI73 121 68 = x82 from h83)) ?_
                  obtain ⟨x90, h91⟩ : ∃ y, FI73 149 (x82).toNatClampNeg = y := ⟨_, rfl⟩
                  have h91l := congrArg Int32.toInt h91
                  have := i_rng x90
                  refine hw_iald (v := x90) (aX12_rows 54 rfl) (c149 hS) (s149 hS) (h_in rfl (by omega) (by omega)) (show FI73 149 (x82).toNatClampNeg = x90 from h91) ?_
                  refine hw_ic (v := (3 : Int32)) (aX12_rows 55 rfl) (by decide) ?_
                  refine hw_iceq (tgt := 114) (aX12_rows 56 rfl) (by decide) rfl (by decide : (3 : Int32).toInt = 3) (fun cd92 => ?_) (fun cd92 => ?_)
                  · refine hw_aloadn (aX12_rows 60 rfl) rfl ?_
                    refine hw_get (v := .int (x85)) (aX12_rows 61 rfl) wf_RX12_475 (c121 hS) (s121 hS) (by decide) (congrArg Value.int (show FI73 121 69 = x85 from h86)) ?_
                    refine hw_ifne (tgt := 140) (aX12_rows 62 rfl) (by decide) rfl (fun cd93 => ?_) (fun cd93 => ?_)
                    · omega
                    · have := congrArg Int32.toInt (show FI73 121 67 = x4 from (gf_at f75 (c121 hS) (s121 hS) rfl ((up_k u64 (by decide) (kp26)))))
                      have hne93 := rl_e_ne rl79 (t := x82) (by omega)
                      refine hw_aloadn (aX12_rows 63 rfl) rfl ?_
                      refine hw_get (v := .ref (base + 150)) (aX12_rows 64 rfl) wf_RX12_108 (c121 hS) (s121 hS) (by decide) (congrArg (fun r => va_rf (h_rf base r)) (r121_63 hF)) ?_
                      refine hw_aloadn (aX12_rows 65 rfl) rfl ?_
                      refine hw_get (v := .int (x82)) (aX12_rows 66 rfl) wf_RX12_478 (c121 hS) (s121 hS) (by decide) (congrArg Value.int (show FI73 121 68 = x82 from h83)) ?_
                      obtain ⟨x94, h95⟩ : ∃ y, FL 150 (x82).toNatClampNeg = y := ⟨_, rfl⟩
                      have h95l := congrArg Int64.toInt h95
                      have := l_rng x94
                      refine hw_lald (v := x94) (aX12_rows 67 rfl) (c150 hS) (s150 hS) (h_in rfl (by omega) (by omega)) (show FL 150 (x82).toNatClampNeg = x94 from h95) ?_
                      refine xw_lloadn (aX12_rows 68 rfl) rfl ?_
                      refine hw_lcgt (tgt := 140) (aX12_rows 69 rfl) (aX12_rows 70 rfl) (by decide) rfl rfl (fun cd96 => ?_) (fun cd96 => ?_)
                      · refine hw_aloadn (aX12_rows 74 rfl) rfl ?_
                        refine hw_get (v := .int (x85)) (aX12_rows 75 rfl) wf_RX12_475 (c121 hS) (s121 hS) (by decide) (congrArg Value.int (show FI73 121 69 = x85 from h86)) ?_
                        refine hw_ifeq (tgt := 148) (aX12_rows 76 rfl) (by decide) rfl (fun cd97 => ?_) (fun cd97 => ?_)
                        · refine hw_aloadn (aX12_rows 78 rfl) rfl ?_
                          refine xw_lloadn (aX12_rows 79 rfl) rfl ?_
                          refine hw_bp (v := (8 : Int32)) (aX12_rows 80 rfl) (by decide) ?_
                          refine hw_callV (Bs := [.long (x59), .int ((8 : Int32))]) (rest := []) (aX12_rows 81 rfl) wc_RX12_505 (by decide) rfl wi_yX12_emits wv_yX12_emits (c121 hS) (s121 hS) rfl rfl rfl (Nat.le_of_ble_eq_true rfl) (Nat.le_of_ble_eq_true rfl) (n_emits (d := d + 7) hS hF hI74 (x59) ((8 : Int32)) (by have := congrArg Int32.toInt (show FI73 121 73 = x45 from (gf_at f75 (c121 hS) (s121 hS) rfl ((up_k u64 (by decide) (h46))))); omega) (by have := ((by decide : (8 : Int32).toInt = 8) : ((8 : Int32)).toInt = 8); have := ((by decide : (8 : Int32).toInt = 8) : ((8 : Int32)).toInt = 8); omega) (show rl_pm (FI73 121 90) (FI73 121 73) (FI73 166) (FI73 167) (FI73 168) from rl81)) (fun v98 sv99 p100 => ?_)
                          have := congrArg Int32.toInt (show FI73 121 73 = x45 from (gf_at f75 (c121 hS) (s121 hS) rfl ((up_k u64 (by decide) (h46)))))
                          have := ((by decide : (8 : Int32).toInt = 8) : ((8 : Int32)).toInt = 8)
                          obtain ⟨rfl, FI102, rfl, hI103, f104, t105, rl106⟩ := p100
                          have rl107 : rl_e (FI102 149) (FI102 121 67) := by rw [show FI102 149 = FI73 149 from gf_row f104 (c149 hS) (s149 hS) rfl rfl, show FI102 121 67 = FI73 121 67 from gf_at f104 (c121 hS) (s121 hS) rfl rfl]; exact rl79
                          have rl108 : rl_t (FI102 149) (FL 150) := by rw [show FI102 149 = FI73 149 from gf_row f104 (c149 hS) (s149 hS) rfl rfl]; exact rl80
                          obtain ⟨x109, h110⟩ : ∃ y, FI102 121 73 = y := ⟨_, rfl⟩
                          have h110l := congrArg Int32.toInt h110
                          have b111 := gI_121_73 hI103; rw [h110] at b111
                          show hw base _ _ _ _ _ [] _ _
                          refine hw_aloadn (aX12_rows 82 rfl) rfl ?_
                          refine hw_aloadn (aX12_rows 83 rfl) rfl ?_
                          refine hw_get (v := .ref (base + 150)) (aX12_rows 84 rfl) wf_RX12_108 (c121 hS) (s121 hS) (by decide) (congrArg (fun r => va_rf (h_rf base r)) (r121_63 hF)) ?_
                          refine hw_aloadn (aX12_rows 85 rfl) rfl ?_
                          refine hw_get (v := .int (x82)) (aX12_rows 86 rfl) wf_RX12_478 (c121 hS) (s121 hS) (by decide) (congrArg Value.int (show FI102 121 68 = x82 from (gf_at f104 (c121 hS) (s121 hS) rfl (h83)))) ?_
                          refine hw_lald (v := x94) (aX12_rows 87 rfl) (c150 hS) (s150 hS) (h_in rfl (by omega) (by omega)) (show FL 150 (x82).toNatClampNeg = x94 from h95) ?_
                          refine hw_bp (v := (8 : Int32)) (aX12_rows 88 rfl) (by decide) ?_
                          refine hw_callV (Bs := [.long (x94), .int ((8 : Int32))]) (rest := []) (aX12_rows 89 rfl) wc_RX12_505 (by decide) rfl wi_yX12_emits wv_yX12_emits (c121 hS) (s121 hS) rfl rfl rfl (Nat.le_of_ble_eq_true rfl) (Nat.le_of_ble_eq_true rfl) (n_emits (d := d + 7) hS hF hI103 (x94) ((8 : Int32)) (by have := congrArg Int32.toInt (show FI102 121 73 = x109 from h110); omega) (by have := ((by decide : (8 : Int32).toInt = 8) : ((8 : Int32)).toInt = 8); have := ((by decide : (8 : Int32).toInt = 8) : ((8 : Int32)).toInt = 8); omega) (show rl_pm (FI102 121 90) (FI102 121 73) (FI102 166) (FI102 167) (FI102 168) from rl106)) (fun v112 sv113 p114 => ?_)
                          have := congrArg Int32.toInt (show FI102 121 73 = x109 from h110)
                          have := ((by decide : (8 : Int32).toInt = 8) : ((8 : Int32)).toInt = 8)
                          obtain ⟨rfl, FI116, rfl, hI117, f118, t119, rl120⟩ := p114
                          have rl121 : rl_e (FI116 149) (FI116 121 67) := by rw [show FI116 149 = FI102 149 from gf_row f118 (c149 hS) (s149 hS) rfl rfl, show FI116 121 67 = FI102 121 67 from gf_at f118 (c121 hS) (s121 hS) rfl rfl]; exact rl107
                          have rl122 : rl_t (FI116 149) (FL 150) := by rw [show FI116 149 = FI102 149 from gf_row f118 (c149 hS) (s149 hS) rfl rfl]; exact rl108
                          obtain ⟨x123, h124⟩ : ∃ y, FI116 121 73 = y := ⟨_, rfl⟩
                          have h124l := congrArg Int32.toInt h124
                          have b125 := gI_121_73 hI117; rw [h124] at b125
                          show hw base _ _ _ _ _ [] _ _
                          refine hw_aloadn (aX12_rows 90 rfl) rfl ?_
                          refine hw_aloadn (aX12_rows 91 rfl) rfl ?_
                          refine hw_get (v := .int (x82)) (aX12_rows 92 rfl) wf_RX12_478 (c121 hS) (s121 hS) (by decide) (congrArg Value.int (show FI116 121 68 = x82 from (gf_at f118 (c121 hS) (s121 hS) rfl ((gf_at f104 (c121 hS) (s121 hS) rfl (h83)))))) ?_
                          refine hw_ic (v := (1 : Int32)) (aX12_rows 93 rfl) (by decide) ?_
                          refine xw_iadd (aX12_rows 94 rfl) ?_
                          refine hw_tie (A := ((x82).toInt) + (1)) (i_add rfl (by decide : (1 : Int32).toInt = 1) (by omega) (by omega)) (fun x126 e127 => ?_)
                          refine hv_puti (aX12_rows 95 rfl) wf_RX12_478 (c121 hS) (s121 hS) (by decide) rfl rfl (fun FI128 u129 => ?_)
                          have rl130 : rl_e (FI128 149) (FI128 121 67) := by rw [show FI128 149 = FI116 149 from up_row u129 (by decide) rfl, show FI128 121 67 = FI116 121 67 from up_k u129 (by decide) rfl]; exact rl121
                          have rl131 : rl_t (FI128 149) (FL 150) := by rw [show FI128 149 = FI116 149 from up_row u129 (by decide) rfl]; exact rl122
                          have rl132 : rl_pm (FI128 121 90) (FI128 121 73) (FI128 166) (FI128 167) (FI128 168) := by rw [show FI128 166 = FI116 166 from up_row u129 (by decide) rfl, show FI128 167 = FI116 167 from up_row u129 (by decide) rfl, show FI128 168 = FI116 168 from up_row u129 (by decide) rfl, show FI128 121 90 = FI116 121 90 from up_k u129 (by decide) rfl, show FI128 121 73 = FI116 121 73 from up_k u129 (by decide) rfl]; exact rl120
                          have hI133 : g_I FI128 := gU_121_68 hI117 u129 (by have := (e127 : (x126).toInt = ((x82).toInt) + (1)); omega) (by have := (e127 : (x126).toInt = ((x82).toInt) + (1)); omega)
                          refine hw_aloadn (aX12_rows 96 rfl) rfl ?_
                          refine hw_bp (v := (58 : Int32)) (aX12_rows 97 rfl) (by decide) ?_
                          refine hw_callV (Bs := [.int ((58 : Int32))]) (rest := []) (aX12_rows 98 rfl) wc_RX12_527 (by decide) rfl wi_yX12_need wv_yX12_need (c121 hS) (s121 hS) rfl rfl rfl (Nat.le_of_ble_eq_true rfl) (Nat.le_of_ble_eq_true rfl) (n_need (d := d + 7) hS hF hI133 ((58 : Int32)) (by have := congrArg Int32.toInt (show FI128 121 68 = x126 from up_eq u129); have := (e127 : (x126).toInt = ((x82).toInt) + (1)); have := congrArg Int32.toInt (show FI128 121 67 = x4 from (up_k u129 (by decide) ((gf_at f118 (c121 hS) (s121 hS) rfl ((gf_at f104 (c121 hS) (s121 hS) rfl ((gf_at f75 (c121 hS) (s121 hS) rfl ((up_k u64 (by decide) (kp26))))))))))); omega) (show rl_e (FI128 149) (FI128 121 67) from rl130)) (fun v134 sv135 p136 => ?_)
                          have := congrArg Int32.toInt (show FI128 121 68 = x126 from up_eq u129)
                          have := (e127 : (x126).toInt = ((x82).toInt) + (1))
                          have := congrArg Int32.toInt (show FI128 121 69 = x85 from (up_k u129 (by decide) ((gf_at f118 (c121 hS) (s121 hS) rfl ((gf_at f104 (c121 hS) (s121 hS) rfl (h86)))))))
                          have := congrArg Int32.toInt (show FI128 121 68 = x126 from up_eq u129)
                          have := (e127 : (x126).toInt = ((x82).toInt) + (1))
                          have := congrArg Int32.toInt (show FI128 121 68 = x126 from up_eq u129)
                          have := (e127 : (x126).toInt = ((x82).toInt) + (1))
                          obtain ⟨rfl, FI138, rfl, hI139, f140, t141, t142, t143⟩ := p136
                          have rl144 : rl_e (FI138 149) (FI138 121 67) := by rw [show FI138 149 = FI128 149 from gf_row f140 (c149 hS) (s149 hS) rfl rfl, show FI138 121 67 = FI128 121 67 from gf_at f140 (c121 hS) (s121 hS) rfl rfl]; exact rl130
                          have rl145 : rl_t (FI138 149) (FL 150) := by rw [show FI138 149 = FI128 149 from gf_row f140 (c149 hS) (s149 hS) rfl rfl]; exact rl131
                          have rl146 : rl_pm (FI138 121 90) (FI138 121 73) (FI138 166) (FI138 167) (FI138 168) := by rw [show FI138 166 = FI128 166 from gf_row f140 (c166 hS) (s166 hS) rfl rfl, show FI138 167 = FI128 167 from gf_row f140 (c167 hS) (s167 hS) rfl rfl, show FI138 168 = FI128 168 from gf_row f140 (c168 hS) (s168 hS) rfl rfl, show FI138 121 90 = FI128 121 90 from gf_at f140 (c121 hS) (s121 hS) rfl rfl, show FI138 121 73 = FI128 121 73 from gf_at f140 (c121 hS) (s121 hS) rfl rfl]; exact rl132
                          obtain ⟨x147, h148⟩ : ∃ y, FI138 121 68 = y := ⟨_, rfl⟩
                          have h148l := congrArg Int32.toInt h148
                          have b149 := gI_121_68 hI139; rw [h148] at b149
                          have := congrArg Int32.toInt (show FI138 121 67 = x4 from (gf_at f140 (c121 hS) (s121 hS) rfl ((up_k u129 (by decide) ((gf_at f118 (c121 hS) (s121 hS) rfl ((gf_at f104 (c121 hS) (s121 hS) rfl ((gf_at f75 (c121 hS) (s121 hS) rfl ((up_k u64 (by decide) (kp26)))))))))))))
                          obtain ⟨x150, h151⟩ : ∃ y, FI138 121 69 = y := ⟨_, rfl⟩
                          have h151l := congrArg Int32.toInt h151
                          have := i_rng x150
                          show hw base _ _ _ _ _ [] _ _
                          refine hw_aloadn (aX12_rows 99 rfl) rfl ?_
                          refine hw_get (v := .int (x123)) (aX12_rows 100 rfl) wf_RX12_493 (c121 hS) (s121 hS) (by decide) (congrArg Value.int (show FI138 121 73 = x123 from (gf_at f140 (c121 hS) (s121 hS) rfl ((up_k u129 (by decide) (h124)))))) ?_
                          refine xw_istore (L2 := [(4, .int (x123)), (2, .long (x59)), (0, .ref (base + 121))]) (aX12_rows 101 rfl) (by decide) rfl ?_
                          refine hw_aloadn (aX12_rows 102 rfl) rfl ?_
                          refine hw_lc (v := (0 : Int64)) (aX12_rows 103 rfl) (by decide) ?_
                          refine hw_ic (v := (2 : Int32)) (aX12_rows 104 rfl) (by decide) ?_
                          refine hw_callV (Bs := [.long ((0 : Int64)), .int ((2 : Int32))]) (rest := []) (aX12_rows 105 rfl) wc_RX12_505 (by decide) rfl wi_yX12_emits wv_yX12_emits (c121 hS) (s121 hS) rfl rfl rfl (Nat.le_of_ble_eq_true rfl) (Nat.le_of_ble_eq_true rfl) (n_emits (d := d + 7) hS hF hI139 ((0 : Int64)) ((2 : Int32)) (by have := congrArg Int32.toInt (show FI138 121 73 = x123 from (gf_at f140 (c121 hS) (s121 hS) rfl ((up_k u129 (by decide) (h124))))); omega) (by have := ((by decide : (2 : Int32).toInt = 2) : ((2 : Int32)).toInt = 2); have := ((by decide : (2 : Int32).toInt = 2) : ((2 : Int32)).toInt = 2); omega) (show rl_pm (FI138 121 90) (FI138 121 73) (FI138 166) (FI138 167) (FI138 168) from rl146)) (fun v152 sv153 p154 => ?_)
                          have := congrArg Int32.toInt (show FI138 121 73 = x123 from (gf_at f140 (c121 hS) (s121 hS) rfl ((up_k u129 (by decide) (h124)))))
                          have := ((by decide : (2 : Int32).toInt = 2) : ((2 : Int32)).toInt = 2)
                          obtain ⟨rfl, FI156, rfl, hI157, f158, t159, rl160⟩ := p154
                          have rl161 : rl_e (FI156 149) (FI156 121 67) := by rw [show FI156 149 = FI138 149 from gf_row f158 (c149 hS) (s149 hS) rfl rfl, show FI156 121 67 = FI138 121 67 from gf_at f158 (c121 hS) (s121 hS) rfl rfl]; exact rl144
                          have rl162 : rl_t (FI156 149) (FL 150) := by rw [show FI156 149 = FI138 149 from gf_row f158 (c149 hS) (s149 hS) rfl rfl]; exact rl145
                          obtain ⟨x163, h164⟩ : ∃ y, FI156 121 73 = y := ⟨_, rfl⟩
                          have h164l := congrArg Int32.toInt h164
                          have b165 := gI_121_73 hI157; rw [h164] at b165
                          show hw base _ _ _ _ _ [] _ _
                          refine hw_aloadn (aX12_rows 106 rfl) rfl ?_
                          refine hw_get (v := .int (x150)) (aX12_rows 107 rfl) wf_RX12_475 (c121 hS) (s121 hS) (by decide) (congrArg Value.int (show FI156 121 69 = x150 from (gf_at f158 (c121 hS) (s121 hS) rfl (h151)))) ?_
                          refine hw_ifeq (tgt := 206) (aX12_rows 108 rfl) (by decide) rfl (fun cd166 => ?_) (fun cd166 => ?_)
                          · refine hw_aloadn (aX12_rows 110 rfl) rfl ?_
                            have := congrArg Int32.toInt (show FI156 121 68 = x147 from (gf_at f158 (c121 hS) (s121 hS) rfl (h148)))
                            have := congrArg Int32.toInt (show FI156 121 69 = x150 from (gf_at f158 (c121 hS) (s121 hS) rfl (h151)))
                            have := congrArg Int32.toInt (show FI156 121 71 = x48 from (gf_at f158 (c121 hS) (s121 hS) rfl ((gf_at f140 (c121 hS) (s121 hS) rfl ((up_k u129 (by decide) ((gf_at f118 (c121 hS) (s121 hS) rfl ((gf_at f104 (c121 hS) (s121 hS) rfl ((gf_at f75 (c121 hS) (s121 hS) rfl ((up_k u64 (by decide) (h49)))))))))))))))
                            refine hw_callV (Bs := []) (rest := []) (aX12_rows 111 rfl) wc_RX12_532 (by decide) rfl wi_yX12_location wv_yX12_location (c121 hS) (s121 hS) rfl rfl rfl (Nat.le_of_ble_eq_true rfl) (Nat.le_of_ble_eq_true rfl) (n_location (d := d) hS hF hI157 (by have := congrArg Int32.toInt (show FI156 121 68 = x147 from (gf_at f158 (c121 hS) (s121 hS) rfl (h148))); have := congrArg Int32.toInt (show FI156 121 67 = x4 from (gf_at f158 (c121 hS) (s121 hS) rfl ((gf_at f140 (c121 hS) (s121 hS) rfl ((up_k u129 (by decide) ((gf_at f118 (c121 hS) (s121 hS) rfl ((gf_at f104 (c121 hS) (s121 hS) rfl ((gf_at f75 (c121 hS) (s121 hS) rfl ((up_k u64 (by decide) (kp26))))))))))))))); omega) (by have := congrArg Int32.toInt (show FI156 121 69 = x150 from (gf_at f158 (c121 hS) (s121 hS) rfl (h151))); omega) (by have := congrArg Int32.toInt (show FI156 121 73 = x163 from h164); have := congrArg Int32.toInt (show FI156 121 68 = x147 from (gf_at f158 (c121 hS) (s121 hS) rfl (h148))); omega) (by have := congrArg Int32.toInt (show FI156 121 71 = x48 from (gf_at f158 (c121 hS) (s121 hS) rfl ((gf_at f140 (c121 hS) (s121 hS) rfl ((up_k u129 (by decide) ((gf_at f118 (c121 hS) (s121 hS) rfl ((gf_at f104 (c121 hS) (s121 hS) rfl ((gf_at f75 (c121 hS) (s121 hS) rfl ((up_k u64 (by decide) (h49))))))))))))))); omega) (by have := congrArg Int32.toInt (show FI156 121 78 = x14 from (gf_at f158 (c121 hS) (s121 hS) rfl ((gf_at f140 (c121 hS) (s121 hS) rfl ((up_k u129 (by decide) ((gf_at f118 (c121 hS) (s121 hS) rfl ((gf_at f104 (c121 hS) (s121 hS) rfl ((gf_at f75 (c121 hS) (s121 hS) rfl ((up_k u64 (by decide) (kp27))))))))))))))); omega) (show rl_e (FI156 149) (FI156 121 67) from rl161) (show rl_t (FI156 149) (FL 150) from rl162) (show rl_pm (FI156 121 90) (FI156 121 73) (FI156 166) (FI156 167) (FI156 168) from rl160)) (fun v167 sv168 p169 => ?_)
                            have := congrArg Int32.toInt (show FI156 121 68 = x147 from (gf_at f158 (c121 hS) (s121 hS) rfl (h148)))
                            have := congrArg Int32.toInt (show FI156 121 73 = x163 from h164)
                            have := congrArg Int32.toInt (show FI156 121 68 = x147 from (gf_at f158 (c121 hS) (s121 hS) rfl (h148)))
                            have := congrArg Int32.toInt (show FI156 121 73 = x163 from h164)
                            obtain ⟨rfl, FI171, rfl, hI172, f173, t174, t175, t176, t177, t178, u179, u180, rl181⟩ := p169
                            have rl182 : rl_e (FI171 149) (FI171 121 67) := by rw [show FI171 149 = FI156 149 from gf_row f173 (c149 hS) (s149 hS) rfl rfl, show FI171 121 67 = FI156 121 67 from gf_at f173 (c121 hS) (s121 hS) rfl rfl]; exact rl161
                            have rl183 : rl_t (FI171 149) (FL 150) := by rw [show FI171 149 = FI156 149 from gf_row f173 (c149 hS) (s149 hS) rfl rfl]; exact rl162
                            obtain ⟨x184, h185⟩ : ∃ y, FI171 121 68 = y := ⟨_, rfl⟩
                            have h185l := congrArg Int32.toInt h185
                            have b186 := gI_121_68 hI172; rw [h185] at b186
                            have := congrArg Int32.toInt (show FI171 121 67 = x4 from (gf_at f173 (c121 hS) (s121 hS) rfl ((gf_at f158 (c121 hS) (s121 hS) rfl ((gf_at f140 (c121 hS) (s121 hS) rfl ((up_k u129 (by decide) ((gf_at f118 (c121 hS) (s121 hS) rfl ((gf_at f104 (c121 hS) (s121 hS) rfl ((gf_at f75 (c121 hS) (s121 hS) rfl ((up_k u64 (by decide) (kp26)))))))))))))))))
                            obtain ⟨x187, h188⟩ : ∃ y, FI171 121 73 = y := ⟨_, rfl⟩
                            have h188l := congrArg Int32.toInt h188
                            have b189 := gI_121_73 hI172; rw [h188] at b189
                            obtain ⟨x190, h191⟩ : ∃ y, FI171 121 71 = y := ⟨_, rfl⟩
                            have h191l := congrArg Int32.toInt h191
                            have := i_rng x190
                            show hw base _ _ _ _ _ [] _ _
                            obtain ⟨x192, h193⟩ : ∃ y, FI171 121 69 = y := ⟨_, rfl⟩
                            have h193l := congrArg Int32.toInt h193
                            have := i_rng x192
                            have := congrArg Int32.toInt (show FI171 121 69 = x192 from h193)
                            have := congrArg Int32.toInt (show FI171 121 68 = x184 from h185)
                            have := congrArg Int32.toInt (show FI171 121 71 = x190 from h191)
                            have hgl := u179; rw [show FI156 149 = FI 149 from (gf_row f158 (c149 hS) (s149 hS) rfl ((gf_row f140 (c149 hS) (s149 hS) rfl ((up_row u129 (by decide) ((gf_row f118 (c149 hS) (s149 hS) rfl ((gf_row f104 (c149 hS) (s149 hS) rfl ((gf_row f75 (c149 hS) (s149 hS) rfl ((up_row u64 (by decide) (rw38)))))))))))))), show (FI156 121 68).toInt.toNat = (FIv23 121 68).toInt.toNat + 4 by omega] at hgl
                            have ho71 := u180
                            have hsn := fun h => gr_rws_snoc xi13_0 (hgl h)
                            refine hw_aloadn (aX12_rows 112 rfl) rfl ?_
                            refine hw_get (v := .int (x187)) (aX12_rows 113 rfl) wf_RX12_493 (c121 hS) (s121 hS) (by decide) (congrArg Value.int (show FI171 121 73 = x187 from h188)) ?_
                            refine xw_iload (aX12_rows 114 rfl) rfl ?_
                            refine xw_isub (aX12_rows 115 rfl) ?_
                            refine hw_tie (A := ((x187).toInt) - ((x123).toInt)) (i_sub rfl rfl (by omega) (by omega)) (fun x194 e195 => ?_)
                            refine hw_ic (v := (2 : Int32)) (aX12_rows 116 rfl) (by decide) ?_
                            refine xw_isub (aX12_rows 117 rfl) ?_
                            refine hw_tie (A := (((x187).toInt) - ((x123).toInt)) - (2)) (i_sub e195 (by decide : (2 : Int32).toInt = 2) (by omega) (by omega)) (fun x196 e197 => ?_)
                            refine xw_istore (L2 := [(5, .int (x196)), (4, .int (x123)), (2, .long (x59)), (0, .ref (base + 121))]) (aX12_rows 118 rfl) (by decide) rfl ?_
                            refine hw_aloadn (aX12_rows 119 rfl) rfl ?_
                            refine hw_get (v := .int (x187)) (aX12_rows 120 rfl) wf_RX12_493 (c121 hS) (s121 hS) (by decide) (congrArg Value.int (show FI171 121 73 = x187 from h188)) ?_
                            refine hw_sp (v := (4000 : Int32)) (aX12_rows 121 rfl) (by decide) ?_
                            refine hw_icgt (tgt := 262) (aX12_rows 122 rfl) (by decide) rfl (by decide : (4000 : Int32).toInt = 4000) (fun cd198 => ?_) (fun cd198 => ?_)
                            · refine hw_aloadn (aX12_rows 141 rfl) rfl ?_
                              refine hw_get (v := .ref (base + 159)) (aX12_rows 142 rfl) wf_RX12_135 (c121 hS) (s121 hS) (by decide) (congrArg (fun r => va_rf (h_rf base r)) (r121_80 hF)) ?_
                              refine hw_aloadn (aX12_rows 143 rfl) rfl ?_
                              refine hw_get (v := .int (x14)) (aX12_rows 144 rfl) wf_RX12_515 (c121 hS) (s121 hS) (by decide) (congrArg Value.int (show FI171 121 78 = x14 from (gf_at f173 (c121 hS) (s121 hS) rfl ((gf_at f158 (c121 hS) (s121 hS) rfl ((gf_at f140 (c121 hS) (s121 hS) rfl ((up_k u129 (by decide) ((gf_at f118 (c121 hS) (s121 hS) rfl ((gf_at f104 (c121 hS) (s121 hS) rfl ((gf_at f75 (c121 hS) (s121 hS) rfl ((up_k u64 (by decide) (kp27)))))))))))))))))) ?_
                              refine hw_aloadn (aX12_rows 145 rfl) rfl ?_
                              refine hw_get (v := .ref (base + 159)) (aX12_rows 146 rfl) wf_RX12_135 (c121 hS) (s121 hS) (by decide) (congrArg (fun r => va_rf (h_rf base r)) (r121_80 hF)) ?_
                              refine hw_aloadn (aX12_rows 147 rfl) rfl ?_
                              refine hw_get (v := .int (x14)) (aX12_rows 148 rfl) wf_RX12_515 (c121 hS) (s121 hS) (by decide) (congrArg Value.int (show FI171 121 78 = x14 from (gf_at f173 (c121 hS) (s121 hS) rfl ((gf_at f158 (c121 hS) (s121 hS) rfl ((gf_at f140 (c121 hS) (s121 hS) rfl ((up_k u129 (by decide) ((gf_at f118 (c121 hS) (s121 hS) rfl ((gf_at f104 (c121 hS) (s121 hS) rfl ((gf_at f75 (c121 hS) (s121 hS) rfl ((up_k u64 (by decide) (kp27)))))))))))))))))) ?_
                              refine hw_iald (v := x52) (aX12_rows 149 rfl) (c159 hS) (s159 hS) (h_in rfl (by omega) (by omega)) (show FI171 159 (x14).toNatClampNeg = x52 from (gf_at f173 (c159 hS) (s159 hS) rfl ((gf_at f158 (c159 hS) (s159 hS) rfl ((gf_at f140 (c159 hS) (s159 hS) rfl ((up_c u129 (by decide) ((gf_at f118 (c159 hS) (s159 hS) rfl ((gf_at f104 (c159 hS) (s159 hS) rfl ((gf_at f75 (c159 hS) (s159 hS) rfl ((up_c u64 (by decide) (h53))))))))))))))))) ?_
                              refine hw_ic (v := (1 : Int32)) (aX12_rows 150 rfl) (by decide) ?_
                              refine xw_iadd (aX12_rows 151 rfl) ?_
                              refine hw_tie (A := ((x52).toInt) + (1)) (i_add rfl (by decide : (1 : Int32).toInt = 1) (by omega) (by omega)) (fun x199 e200 => ?_)
                              refine hv_iast (k := (x14).toNatClampNeg) (aX12_rows 152 rfl) (c159 hS) (s159 hS) (h_in rfl (by omega) (by omega)) rfl (fun FI201 u202 => ?_)
                              have rl203 : rl_e (FI201 149) (FI201 121 67) := by rw [show FI201 149 = FI171 149 from up_row u202 (by decide) rfl, show FI201 121 67 = FI171 121 67 from up_c u202 (by decide) rfl]; exact rl182
                              have rl204 : rl_t (FI201 149) (FL 150) := by rw [show FI201 149 = FI171 149 from up_row u202 (by decide) rfl]; exact rl183
                              have rl205 : rl_pm (FI201 121 90) (FI201 121 73) (FI201 166) (FI201 167) (FI201 168) := by rw [show FI201 166 = FI171 166 from up_row u202 (by decide) rfl, show FI201 167 = FI171 167 from up_row u202 (by decide) rfl, show FI201 168 = FI171 168 from up_row u202 (by decide) rfl, show FI201 121 90 = FI171 121 90 from up_c u202 (by decide) rfl, show FI201 121 73 = FI171 121 73 from up_c u202 (by decide) rfl]; exact rl181
                              have hI206 : g_I FI201 := gU_159 hI172 u202 (by have := (e200 : (x199).toInt = ((x52).toInt) + (1)); omega) (by have := (e200 : (x199).toInt = ((x52).toInt) + (1)); omega)
                              refine hw_aloadn (aX12_rows 153 rfl) rfl ?_
                              refine hw_get (v := .int (x192)) (aX12_rows 154 rfl) wf_RX12_475 (c121 hS) (s121 hS) (by decide) (congrArg Value.int (show FI201 121 69 = x192 from (up_c u202 (by decide) (h193)))) ?_
                              refine hw_ifne (tgt := 302) (aX12_rows 155 rfl) (by decide) rfl (fun cd207 => ?_) (fun cd207 => ?_)
                              · refine hw_ic (v := (0 : Int32)) (aX12_rows 162 rfl) (by decide) ?_
                                refine xw_istoren (L2 := [(1, .int ((0 : Int32))), (5, .int (x196)), (4, .int (x123)), (2, .long (x59)), (0, .ref (base + 121))]) (aX12_rows 163 rfl) (by decide) rfl ?_
                                refine xw_iloadn (aX12_rows 164 rfl) rfl ?_
                                refine hw_ifeq (tgt := 318) (aX12_rows 165 rfl) (by decide) (by decide : (0 : Int32).toInt = 0) (fun cd208 => ?_) (fun cd208 => ?_)
                                · refine xw_goto (tgt := 2) (aX12_rows 172 rfl) (by decide) ?_
                                  refine xw_iloadn (aX12_rows 2 rfl) rfl ?_
                                  refine hw_ifeq (tgt := 321) (aX12_rows 3 rfl) (by decide) (by decide : (0 : Int32).toInt = 0) (fun cd209 => ?_) (fun cd209 => ?_)
                                  · refine hw_aloadn (aX12_rows 173 rfl) rfl ?_
                                    refine hw_lc (v := (0 : Int64)) (aX12_rows 174 rfl) (by decide) ?_
                                    refine hw_bp (v := (8 : Int32)) (aX12_rows 175 rfl) (by decide) ?_
                                    refine hw_callV (Bs := [.long ((0 : Int64)), .int ((8 : Int32))]) (rest := []) (aX12_rows 176 rfl) wc_RX12_505 (by decide) rfl wi_yX12_emits wv_yX12_emits (c121 hS) (s121 hS) rfl rfl rfl (Nat.le_of_ble_eq_true rfl) (Nat.le_of_ble_eq_true rfl) (n_emits (d := d + 7) hS hF hI206 ((0 : Int64)) ((8 : Int32)) (by have := congrArg Int32.toInt (show FI201 121 73 = x187 from (up_c u202 (by decide) (h188))); omega) (by have := ((by decide : (8 : Int32).toInt = 8) : ((8 : Int32)).toInt = 8); have := ((by decide : (8 : Int32).toInt = 8) : ((8 : Int32)).toInt = 8); omega) (show rl_pm (FI201 121 90) (FI201 121 73) (FI201 166) (FI201 167) (FI201 168) from rl205)) (fun v210 sv211 p212 => ?_)
                                    have := congrArg Int32.toInt (show FI201 121 73 = x187 from (up_c u202 (by decide) (h188)))
                                    have := ((by decide : (8 : Int32).toInt = 8) : ((8 : Int32)).toInt = 8)
                                    obtain ⟨rfl, FI214, rfl, hI215, f216, t217, rl218⟩ := p212
                                    have rl219 : rl_e (FI214 149) (FI214 121 67) := by rw [show FI214 149 = FI201 149 from gf_row f216 (c149 hS) (s149 hS) rfl rfl, show FI214 121 67 = FI201 121 67 from gf_at f216 (c121 hS) (s121 hS) rfl rfl]; exact rl203
                                    have rl220 : rl_t (FI214 149) (FL 150) := by rw [show FI214 149 = FI201 149 from gf_row f216 (c149 hS) (s149 hS) rfl rfl]; exact rl204
                                    obtain ⟨x221, h222⟩ : ∃ y, FI214 121 73 = y := ⟨_, rfl⟩
                                    have h222l := congrArg Int32.toInt h222
                                    have b223 := gI_121_73 hI215; rw [h222] at b223
                                    show hw base _ _ _ _ _ [] _ _
                                    refine hw_aloadn (aX12_rows 177 rfl) rfl ?_
                                    refine hw_lc (v := (0 : Int64)) (aX12_rows 178 rfl) (by decide) ?_
                                    refine hw_bp (v := (8 : Int32)) (aX12_rows 179 rfl) (by decide) ?_
                                    refine hw_callV (Bs := [.long ((0 : Int64)), .int ((8 : Int32))]) (rest := []) (aX12_rows 180 rfl) wc_RX12_505 (by decide) rfl wi_yX12_emits wv_yX12_emits (c121 hS) (s121 hS) rfl rfl rfl (Nat.le_of_ble_eq_true rfl) (Nat.le_of_ble_eq_true rfl) (n_emits (d := d + 7) hS hF hI215 ((0 : Int64)) ((8 : Int32)) (by have := congrArg Int32.toInt (show FI214 121 73 = x221 from h222); omega) (by have := ((by decide : (8 : Int32).toInt = 8) : ((8 : Int32)).toInt = 8); have := ((by decide : (8 : Int32).toInt = 8) : ((8 : Int32)).toInt = 8); omega) (show rl_pm (FI214 121 90) (FI214 121 73) (FI214 166) (FI214 167) (FI214 168) from rl218)) (fun v224 sv225 p226 => ?_)
                                    have := congrArg Int32.toInt (show FI214 121 73 = x221 from h222)
                                    have := ((by decide : (8 : Int32).toInt = 8) : ((8 : Int32)).toInt = 8)
                                    obtain ⟨rfl, FI228, rfl, hI229, f230, t231, rl232⟩ := p226
                                    have rl233 : rl_e (FI228 149) (FI228 121 67) := by rw [show FI228 149 = FI214 149 from gf_row f230 (c149 hS) (s149 hS) rfl rfl, show FI228 121 67 = FI214 121 67 from gf_at f230 (c121 hS) (s121 hS) rfl rfl]; exact rl219
                                    have rl234 : rl_t (FI228 149) (FL 150) := by rw [show FI228 149 = FI214 149 from gf_row f230 (c149 hS) (s149 hS) rfl rfl]; exact rl220
                                    obtain ⟨x235, h236⟩ : ∃ y, FI228 121 73 = y := ⟨_, rfl⟩
                                    have h236l := congrArg Int32.toInt h236
                                    have b237 := gI_121_73 hI229; rw [h236] at b237
                                    show hw base _ _ _ _ _ [] _ _
                                    refine xw_vret (aX12_rows 181 rfl) rfl ?_
                                    exact ⟨rfl, FI228, rfl, hI229, (gf_tr ex_rf (gf_tr ex_rf (gf_a (gf_tr ex_rf (gf_tr ex_rf (gf_tr ex_rf (gf_f (gf_tr ex_rf (gf_tr ex_rf (gf_tr ex_rf (gf_f fr24 u64 (by decide)) f75 rfl rfl rfl) f104 rfl rfl rfl) f118 rfl rfl rfl) u129 (by decide)) f140 rfl rfl rfl) f158 rfl rfl rfl) f173 rfl rfl rfl) u202 (by decide)) f216 rfl rfl rfl) f230 rfl rfl rfl), (by have := congrArg Int32.toInt (show FI228 121 67 = x4 from (gf_at f230 (c121 hS) (s121 hS) rfl ((gf_at f216 (c121 hS) (s121 hS) rfl ((up_c u202 (by decide) ((gf_at f173 (c121 hS) (s121 hS) rfl ((gf_at f158 (c121 hS) (s121 hS) rfl ((gf_at f140 (c121 hS) (s121 hS) rfl ((up_k u129 (by decide) ((gf_at f118 (c121 hS) (s121 hS) rfl ((gf_at f104 (c121 hS) (s121 hS) rfl ((gf_at f75 (c121 hS) (s121 hS) rfl ((up_k u64 (by decide) (kp26))))))))))))))))))))))); have := congrArg Int32.toInt (show FI228 121 68 = x184 from (gf_at f230 (c121 hS) (s121 hS) rfl ((gf_at f216 (c121 hS) (s121 hS) rfl ((up_c u202 (by decide) (h185))))))); omega), (by have := congrArg Int32.toInt (show FI228 121 68 = x184 from (gf_at f230 (c121 hS) (s121 hS) rfl ((gf_at f216 (c121 hS) (s121 hS) rfl ((up_c u202 (by decide) (h185))))))); omega), (by have := congrArg Int32.toInt (show FI228 121 68 = x184 from (gf_at f230 (c121 hS) (s121 hS) rfl ((gf_at f216 (c121 hS) (s121 hS) rfl ((up_c u202 (by decide) (h185))))))); have := congrArg Int32.toInt (show FI228 121 73 = x235 from h236); omega), (by have := congrArg Int32.toInt (show FI228 121 73 = x235 from h236); omega), (by have := congrArg Int32.toInt (show FI228 121 69 = x192 from (gf_at f230 (c121 hS) (s121 hS) rfl ((gf_at f216 (c121 hS) (s121 hS) rfl ((up_c u202 (by decide) (h193))))))); exact fun h => absurd h (by omega)), (show rl_pm (FI228 121 90) (FI228 121 73) (FI228 166) (FI228 167) (FI228 168) from rl232)⟩
                                  · omega
                                · omega
                              · have ho0 := ho71 (by omega)
                                refine hw_aloadn (aX12_rows 156 rfl) rfl ?_
                                refine hw_bp (v := (44 : Int32)) (aX12_rows 157 rfl) (by decide) ?_
                                refine hw_callV (Bs := [.int ((44 : Int32))]) (rest := []) (aX12_rows 158 rfl) wc_RX12_484 (by decide) rfl wi_yX12_isSign wv_yX12_isSign (c121 hS) (s121 hS) rfl rfl rfl (Nat.le_of_ble_eq_true rfl) (Nat.le_of_ble_eq_true rfl) (n_isSign (d := d + 8) hS hF hI206 ((44 : Int32)) (by have := congrArg Int32.toInt (show FI201 121 68 = x184 from (up_c u202 (by decide) (h185))); have := congrArg Int32.toInt (show FI201 121 67 = x4 from (up_c u202 (by decide) ((gf_at f173 (c121 hS) (s121 hS) rfl ((gf_at f158 (c121 hS) (s121 hS) rfl ((gf_at f140 (c121 hS) (s121 hS) rfl ((up_k u129 (by decide) ((gf_at f118 (c121 hS) (s121 hS) rfl ((gf_at f104 (c121 hS) (s121 hS) rfl ((gf_at f75 (c121 hS) (s121 hS) rfl ((up_k u64 (by decide) (kp26))))))))))))))))))); omega) (show rl_e (FI201 149) (FI201 121 67) from rl203)) (fun v238 sv239 p240 => ?_)
                                have := congrArg Int32.toInt (show FI201 121 68 = x184 from (up_c u202 (by decide) (h185)))
                                have := congrArg Int32.toInt (show FI201 121 67 = x4 from (up_c u202 (by decide) ((gf_at f173 (c121 hS) (s121 hS) rfl ((gf_at f158 (c121 hS) (s121 hS) rfl ((gf_at f140 (c121 hS) (s121 hS) rfl ((up_k u129 (by decide) ((gf_at f118 (c121 hS) (s121 hS) rfl ((gf_at f104 (c121 hS) (s121 hS) rfl ((gf_at f75 (c121 hS) (s121 hS) rfl ((up_k u64 (by decide) (kp26)))))))))))))))))))
                                obtain ⟨r241, rfl, rfl, t243, t244, u245⟩ := p240
                                show hw base _ _ _ _ _ [.int (r241)] _ _
                                refine hw_ifeq (tgt := 302) (aX12_rows 159 rfl) (by decide) rfl (fun cd246 => ?_) (fun cd246 => ?_)
                                · clear t243
                                  refine hw_ic (v := (0 : Int32)) (aX12_rows 162 rfl) (by decide) ?_
                                  refine xw_istoren (L2 := [(1, .int ((0 : Int32))), (5, .int (x196)), (4, .int (x123)), (2, .long (x59)), (0, .ref (base + 121))]) (aX12_rows 163 rfl) (by decide) rfl ?_
                                  refine xw_iloadn (aX12_rows 164 rfl) rfl ?_
                                  refine hw_ifeq (tgt := 318) (aX12_rows 165 rfl) (by decide) (by decide : (0 : Int32).toInt = 0) (fun cd247 => ?_) (fun cd247 => ?_)
                                  · refine xw_goto (tgt := 2) (aX12_rows 172 rfl) (by decide) ?_
                                    refine xw_iloadn (aX12_rows 2 rfl) rfl ?_
                                    refine hw_ifeq (tgt := 321) (aX12_rows 3 rfl) (by decide) (by decide : (0 : Int32).toInt = 0) (fun cd248 => ?_) (fun cd248 => ?_)
                                    · refine hw_aloadn (aX12_rows 173 rfl) rfl ?_
                                      refine hw_lc (v := (0 : Int64)) (aX12_rows 174 rfl) (by decide) ?_
                                      refine hw_bp (v := (8 : Int32)) (aX12_rows 175 rfl) (by decide) ?_
                                      refine hw_callV (Bs := [.long ((0 : Int64)), .int ((8 : Int32))]) (rest := []) (aX12_rows 176 rfl) wc_RX12_505 (by decide) rfl wi_yX12_emits wv_yX12_emits (c121 hS) (s121 hS) rfl rfl rfl (Nat.le_of_ble_eq_true rfl) (Nat.le_of_ble_eq_true rfl) (n_emits (d := d + 7) hS hF hI206 ((0 : Int64)) ((8 : Int32)) (by have := congrArg Int32.toInt (show FI201 121 73 = x187 from (up_c u202 (by decide) (h188))); omega) (by have := ((by decide : (8 : Int32).toInt = 8) : ((8 : Int32)).toInt = 8); have := ((by decide : (8 : Int32).toInt = 8) : ((8 : Int32)).toInt = 8); omega) (show rl_pm (FI201 121 90) (FI201 121 73) (FI201 166) (FI201 167) (FI201 168) from rl205)) (fun v249 sv250 p251 => ?_)
                                      have := congrArg Int32.toInt (show FI201 121 73 = x187 from (up_c u202 (by decide) (h188)))
                                      have := ((by decide : (8 : Int32).toInt = 8) : ((8 : Int32)).toInt = 8)
                                      obtain ⟨rfl, FI253, rfl, hI254, f255, t256, rl257⟩ := p251
                                      have rl258 : rl_e (FI253 149) (FI253 121 67) := by rw [show FI253 149 = FI201 149 from gf_row f255 (c149 hS) (s149 hS) rfl rfl, show FI253 121 67 = FI201 121 67 from gf_at f255 (c121 hS) (s121 hS) rfl rfl]; exact rl203
                                      have rl259 : rl_t (FI253 149) (FL 150) := by rw [show FI253 149 = FI201 149 from gf_row f255 (c149 hS) (s149 hS) rfl rfl]; exact rl204
                                      obtain ⟨x260, h261⟩ : ∃ y, FI253 121 73 = y := ⟨_, rfl⟩
                                      have h261l := congrArg Int32.toInt h261
                                      have b262 := gI_121_73 hI254; rw [h261] at b262
                                      show hw base _ _ _ _ _ [] _ _
                                      refine hw_aloadn (aX12_rows 177 rfl) rfl ?_
                                      refine hw_lc (v := (0 : Int64)) (aX12_rows 178 rfl) (by decide) ?_
                                      refine hw_bp (v := (8 : Int32)) (aX12_rows 179 rfl) (by decide) ?_
                                      refine hw_callV (Bs := [.long ((0 : Int64)), .int ((8 : Int32))]) (rest := []) (aX12_rows 180 rfl) wc_RX12_505 (by decide) rfl wi_yX12_emits wv_yX12_emits (c121 hS) (s121 hS) rfl rfl rfl (Nat.le_of_ble_eq_true rfl) (Nat.le_of_ble_eq_true rfl) (n_emits (d := d + 7) hS hF hI254 ((0 : Int64)) ((8 : Int32)) (by have := congrArg Int32.toInt (show FI253 121 73 = x260 from h261); omega) (by have := ((by decide : (8 : Int32).toInt = 8) : ((8 : Int32)).toInt = 8); have := ((by decide : (8 : Int32).toInt = 8) : ((8 : Int32)).toInt = 8); omega) (show rl_pm (FI253 121 90) (FI253 121 73) (FI253 166) (FI253 167) (FI253 168) from rl257)) (fun v263 sv264 p265 => ?_)
                                      have := congrArg Int32.toInt (show FI253 121 73 = x260 from h261)
                                      have := ((by decide : (8 : Int32).toInt = 8) : ((8 : Int32)).toInt = 8)
                                      obtain ⟨rfl, FI267, rfl, hI268, f269, t270, rl271⟩ := p265
                                      have rl272 : rl_e (FI267 149) (FI267 121 67) := by rw [show FI267 149 = FI253 149 from gf_row f269 (c149 hS) (s149 hS) rfl rfl, show FI267 121 67 = FI253 121 67 from gf_at f269 (c121 hS) (s121 hS) rfl rfl]; exact rl258
                                      have rl273 : rl_t (FI267 149) (FL 150) := by rw [show FI267 149 = FI253 149 from gf_row f269 (c149 hS) (s149 hS) rfl rfl]; exact rl259
                                      obtain ⟨x274, h275⟩ : ∃ y, FI267 121 73 = y := ⟨_, rfl⟩
                                      have h275l := congrArg Int32.toInt h275
                                      have b276 := gI_121_73 hI268; rw [h275] at b276
                                      show hw base _ _ _ _ _ [] _ _
                                      refine xw_vret (aX12_rows 181 rfl) rfl ?_
                                      exact ⟨rfl, FI267, rfl, hI268, (gf_tr ex_rf (gf_tr ex_rf (gf_a (gf_tr ex_rf (gf_tr ex_rf (gf_tr ex_rf (gf_f (gf_tr ex_rf (gf_tr ex_rf (gf_tr ex_rf (gf_f fr24 u64 (by decide)) f75 rfl rfl rfl) f104 rfl rfl rfl) f118 rfl rfl rfl) u129 (by decide)) f140 rfl rfl rfl) f158 rfl rfl rfl) f173 rfl rfl rfl) u202 (by decide)) f255 rfl rfl rfl) f269 rfl rfl rfl), (by have := congrArg Int32.toInt (show FI267 121 67 = x4 from (gf_at f269 (c121 hS) (s121 hS) rfl ((gf_at f255 (c121 hS) (s121 hS) rfl ((up_c u202 (by decide) ((gf_at f173 (c121 hS) (s121 hS) rfl ((gf_at f158 (c121 hS) (s121 hS) rfl ((gf_at f140 (c121 hS) (s121 hS) rfl ((up_k u129 (by decide) ((gf_at f118 (c121 hS) (s121 hS) rfl ((gf_at f104 (c121 hS) (s121 hS) rfl ((gf_at f75 (c121 hS) (s121 hS) rfl ((up_k u64 (by decide) (kp26))))))))))))))))))))))); have := congrArg Int32.toInt (show FI267 121 68 = x184 from (gf_at f269 (c121 hS) (s121 hS) rfl ((gf_at f255 (c121 hS) (s121 hS) rfl ((up_c u202 (by decide) (h185))))))); omega), (by have := congrArg Int32.toInt (show FI267 121 68 = x184 from (gf_at f269 (c121 hS) (s121 hS) rfl ((gf_at f255 (c121 hS) (s121 hS) rfl ((up_c u202 (by decide) (h185))))))); omega), (by have := congrArg Int32.toInt (show FI267 121 68 = x184 from (gf_at f269 (c121 hS) (s121 hS) rfl ((gf_at f255 (c121 hS) (s121 hS) rfl ((up_c u202 (by decide) (h185))))))); have := congrArg Int32.toInt (show FI267 121 73 = x274 from h275); omega), (by have := congrArg Int32.toInt (show FI267 121 73 = x274 from h275); omega), (by have := congrArg Int32.toInt (show FI267 121 68 = x184 from (gf_at f269 (c121 hS) (s121 hS) rfl ((gf_at f255 (c121 hS) (s121 hS) rfl ((up_c u202 (by decide) (h185))))))); have := congrArg Int32.toInt (show FI267 121 69 = x192 from (gf_at f269 (c121 hS) (s121 hS) rfl ((gf_at f255 (c121 hS) (s121 hS) rfl ((up_c u202 (by decide) (h193))))))); have := congrArg Int32.toInt (show FI267 159 (FI 121 78).toNatClampNeg = x199 from (by rw [show FI 121 78 = x14 from h15]; exact (gf_at f269 (c159 hS) (s159 hS) rfl ((gf_at f255 (c159 hS) (s159 hS) rfl (up_eq u202)))))); have := (e200 : (x199).toInt = ((x52).toInt) + (1)); have := congrArg Int32.toInt (show FIv23 159 (FI 121 78).toNatClampNeg = x52 from (by rw [show FI 121 78 = x14 from h15]; exact h53)); intro h69; refine ⟨?_, by omega⟩; rw [show ((FI267 159 (FI 121 78).toNatClampNeg).toInt).toNat = ((FIv23 159 (FI 121 78).toNatClampNeg).toInt).toNat + 1 by omega, show (FI267 121 68).toInt.toNat = (FI171 121 68).toInt.toNat by omega]; exact hsn (by omega)), (show rl_pm (FI267 121 90) (FI267 121 73) (FI267 166) (FI267 167) (FI267 168) from rl271)⟩
                                    · omega
                                  · omega
                                · replace t243 := t243 (by omega)
                                  refine hw_ic (v := (1 : Int32)) (aX12_rows 160 rfl) (by decide) ?_
                                  refine xw_goto (tgt := 303) (aX12_rows 161 rfl) (by decide) ?_
                                  refine xw_istoren (L2 := [(1, .int ((1 : Int32))), (5, .int (x196)), (4, .int (x123)), (2, .long (x59)), (0, .ref (base + 121))]) (aX12_rows 163 rfl) (by decide) rfl ?_
                                  refine xw_iloadn (aX12_rows 164 rfl) rfl ?_
                                  refine hw_ifeq (tgt := 318) (aX12_rows 165 rfl) (by decide) (by decide : (1 : Int32).toInt = 1) (fun cd277 => ?_) (fun cd277 => ?_)
                                  · omega
                                  · refine hw_aloadn (aX12_rows 166 rfl) rfl ?_
                                    refine hw_aloadn (aX12_rows 167 rfl) rfl ?_
                                    refine hw_get (v := .int (x184)) (aX12_rows 168 rfl) wf_RX12_478 (c121 hS) (s121 hS) (by decide) (congrArg Value.int (show FI201 121 68 = x184 from (up_c u202 (by decide) (h185)))) ?_
                                    refine hw_ic (v := (1 : Int32)) (aX12_rows 169 rfl) (by decide) ?_
                                    refine xw_iadd (aX12_rows 170 rfl) ?_
                                    refine hw_tie (A := ((x184).toInt) + (1)) (i_add rfl (by decide : (1 : Int32).toInt = 1) (by omega) (by omega)) (fun x278 e279 => ?_)
                                    refine hv_puti (aX12_rows 171 rfl) wf_RX12_478 (c121 hS) (s121 hS) (by decide) rfl rfl (fun FI280 u281 => ?_)
                                    have rl282 : rl_e (FI280 149) (FI280 121 67) := by rw [show FI280 149 = FI201 149 from up_row u281 (by decide) rfl, show FI280 121 67 = FI201 121 67 from up_k u281 (by decide) rfl]; exact rl203
                                    have rl283 : rl_t (FI280 149) (FL 150) := by rw [show FI280 149 = FI201 149 from up_row u281 (by decide) rfl]; exact rl204
                                    have rl284 : rl_pm (FI280 121 90) (FI280 121 73) (FI280 166) (FI280 167) (FI280 168) := by rw [show FI280 166 = FI201 166 from up_row u281 (by decide) rfl, show FI280 167 = FI201 167 from up_row u281 (by decide) rfl, show FI280 168 = FI201 168 from up_row u281 (by decide) rfl, show FI280 121 90 = FI201 121 90 from up_k u281 (by decide) rfl, show FI280 121 73 = FI201 121 73 from up_k u281 (by decide) rfl]; exact rl205
                                    have hI285 : g_I FI280 := gU_121_68 hI206 u281 (by have := (e279 : (x278).toInt = ((x184).toInt) + (1)); omega) (by have := (e279 : (x278).toInt = ((x184).toInt) + (1)); omega)
                                    refine xw_goto (tgt := 2) (aX12_rows 172 rfl) (by decide) ?_
                                    refine xw_iloadn (aX12_rows 2 rfl) rfl ?_
                                    refine hw_ifeq (tgt := 321) (aX12_rows 3 rfl) (by decide) (by decide : (1 : Int32).toInt = 1) (fun cd286 => ?_) (fun cd286 => ?_)
                                    · omega
                                    · refine hw_aloadn (aX12_rows 4 rfl) rfl ?_
                                      refine hw_get (v := .int (x192)) (aX12_rows 5 rfl) wf_RX12_475 (c121 hS) (s121 hS) (by decide) (congrArg Value.int (show FI280 121 69 = x192 from (up_k u281 (by decide) ((up_c u202 (by decide) (h193)))))) ?_
                                      refine hw_ifne (tgt := 321) (aX12_rows 6 rfl) (by decide) rfl (fun cd287 => ?_) (fun cd287 => ?_)
                                      · omega
                                      · exact hw_L (ih FI280 (gf_f (gf_a (gf_tr ex_rf (gf_tr ex_rf (gf_tr ex_rf (gf_f (gf_tr ex_rf (gf_tr ex_rf (gf_tr ex_rf (gf_f fr24 u64 (by decide)) f75 rfl rfl rfl) f104 rfl rfl rfl) f118 rfl rfl rfl) u129 (by decide)) f140 rfl rfl rfl) f158 rfl rfl rfl) f173 rfl rfl rfl) u202 (by decide)) u281 (by decide)) hI285 (show FI280 121 67 = x4 from (up_k u281 (by decide) ((up_c u202 (by decide) ((gf_at f173 (c121 hS) (s121 hS) rfl ((gf_at f158 (c121 hS) (s121 hS) rfl ((gf_at f140 (c121 hS) (s121 hS) rfl ((up_k u129 (by decide) ((gf_at f118 (c121 hS) (s121 hS) rfl ((gf_at f104 (c121 hS) (s121 hS) rfl ((gf_at f75 (c121 hS) (s121 hS) rfl ((up_k u64 (by decide) (kp26))))))))))))))))))))) (show FI280 121 78 = x14 from (up_k u281 (by decide) ((up_c u202 (by decide) ((gf_at f173 (c121 hS) (s121 hS) rfl ((gf_at f158 (c121 hS) (s121 hS) rfl ((gf_at f140 (c121 hS) (s121 hS) rfl ((up_k u129 (by decide) ((gf_at f118 (c121 hS) (s121 hS) rfl ((gf_at f104 (c121 hS) (s121 hS) rfl ((gf_at f75 (c121 hS) (s121 hS) rfl ((up_k u64 (by decide) (kp27))))))))))))))))))))) (show rl_e (FI280 149) (FI280 121 67) from rl282) (show rl_t (FI280 149) (FL 150) from rl283) (show rl_pm (FI280 121 90) (FI280 121 73) (FI280 166) (FI280 167) (FI280 168) from rl284) (by have := congrArg Int32.toInt (show FI280 121 68 = x278 from up_eq u281); have := (e279 : (x278).toInt = ((x184).toInt) + (1)); omega) (by have := congrArg Int32.toInt (show FI280 121 69 = x192 from (up_k u281 (by decide) ((up_c u202 (by decide) (h193))))); omega) (by have := congrArg Int32.toInt (show FI280 121 67 = x4 from (up_k u281 (by decide) ((up_c u202 (by decide) ((gf_at f173 (c121 hS) (s121 hS) rfl ((gf_at f158 (c121 hS) (s121 hS) rfl ((gf_at f140 (c121 hS) (s121 hS) rfl ((up_k u129 (by decide) ((gf_at f118 (c121 hS) (s121 hS) rfl ((gf_at f104 (c121 hS) (s121 hS) rfl ((gf_at f75 (c121 hS) (s121 hS) rfl ((up_k u64 (by decide) (kp26))))))))))))))))))))); have := congrArg Int32.toInt (show FI280 121 68 = x278 from up_eq u281); have := (e279 : (x278).toInt = ((x184).toInt) + (1)); omega) (by have := congrArg Int32.toInt (show FI280 121 68 = x278 from up_eq u281); have := (e279 : (x278).toInt = ((x184).toInt) + (1)); omega) (by have := congrArg Int32.toInt (show FI280 121 68 = x278 from up_eq u281); have := (e279 : (x278).toInt = ((x184).toInt) + (1)); have := congrArg Int32.toInt (show FI280 121 73 = x187 from (up_k u281 (by decide) ((up_c u202 (by decide) (h188))))); omega) (by have := congrArg Int32.toInt (show FI280 121 73 = x187 from (up_k u281 (by decide) ((up_c u202 (by decide) (h188))))); omega) (by have := congrArg Int32.toInt (show FI280 121 71 = x190 from (up_k u281 (by decide) ((up_c u202 (by decide) (h191))))); omega) (show gr_rws (kf (FI 149)) (wf (FL 150)) ((FI280 159 (FI 121 78).toNatClampNeg).toInt).toNat (FI 121 68).toInt.toNat ((FI280 121 68).toInt).toNat from (by have := congrArg Int32.toInt (show FI280 121 68 = x278 from up_eq u281); have := (e279 : (x278).toInt = ((x184).toInt) + (1)); exact (by { have := congrArg Int32.toInt (show FI280 159 (FI 121 78).toNatClampNeg = x199 from (by rw [show FI 121 78 = x14 from h15]; exact (up_c u281 (by decide) (up_eq u202)))); have := (e200 : (x199).toInt = ((x52).toInt) + (1)); have := congrArg Int32.toInt (show FIv23 159 (FI 121 78).toNatClampNeg = x52 from (by rw [show FI 121 78 = x14 from h15]; exact h53)); rw [show ((FI280 159 (FI 121 78).toNatClampNeg).toInt).toNat = ((FIv23 159 (FI 121 78).toNatClampNeg).toInt).toNat + 1 by omega, show ((FI280 121 68).toInt).toNat = (FI171 121 68).toInt.toNat + 1 by omega]; exact hsn (by omega) }))) (show FI280 149 = FI 149 from (up_row u281 (by decide) ((up_row u202 (by decide) ((gf_row f173 (c149 hS) (s149 hS) rfl ((gf_row f158 (c149 hS) (s149 hS) rfl ((gf_row f140 (c149 hS) (s149 hS) rfl ((up_row u129 (by decide) ((gf_row f118 (c149 hS) (s149 hS) rfl ((gf_row f104 (c149 hS) (s149 hS) rfl ((gf_row f75 (c149 hS) (s149 hS) rfl ((up_row u64 (by decide) (rw38))))))))))))))))))))) (by have := congrArg Int32.toInt (show FI280 121 68 = x278 from up_eq u281); have := (e279 : (x278).toInt = ((x184).toInt) + (1)); omega)) ⟨rfl, trivial⟩
                            · refine hw_aloadn (aX12_rows 123 rfl) rfl ?_
                              refine hw_get (v := .ref (base + 154)) (aX12_rows 124 rfl) wf_RX12_120 (c121 hS) (s121 hS) (by decide) (congrArg (fun r => va_rf (h_rf base r)) (r121_72 hF)) ?_
                              refine xw_iload (aX12_rows 125 rfl) rfl ?_
                              refine xw_iload (aX12_rows 126 rfl) rfl ?_
                              refine hw_sp (v := (255 : Int32)) (aX12_rows 127 rfl) (by decide) ?_
                              refine xw_iand (aX12_rows 128 rfl) ?_
                              refine hw_tib (lo := 0) (hi := 255) (i_and (x := x196) (m := (255 : Int32)) (M := 255) (by decide) (by decide)) (fun x288 b289 => ?_)
                              refine hv_iast (k := (x123).toNatClampNeg) (aX12_rows 129 rfl) (c154 hS) (s154 hS) (h_in rfl (by omega) (by omega)) rfl (fun FI290 u291 => ?_)
                              have rl292 : rl_e (FI290 149) (FI290 121 67) := by rw [show FI290 149 = FI171 149 from up_row u291 (by decide) rfl, show FI290 121 67 = FI171 121 67 from up_c u291 (by decide) rfl]; exact rl182
                              have rl293 : rl_t (FI290 149) (FL 150) := by rw [show FI290 149 = FI171 149 from up_row u291 (by decide) rfl]; exact rl183
                              have rl294 : rl_pm (FI290 121 90) (FI290 121 73) (FI290 166) (FI290 167) (FI290 168) := by rw [show FI290 166 = FI171 166 from up_row u291 (by decide) rfl, show FI290 167 = FI171 167 from up_row u291 (by decide) rfl, show FI290 168 = FI171 168 from up_row u291 (by decide) rfl, show FI290 121 90 = FI171 121 90 from up_c u291 (by decide) rfl, show FI290 121 73 = FI171 121 73 from up_c u291 (by decide) rfl]; exact rl181
                              have hI295 : g_I FI290 := gU_F hI172 u291 rfl
                              refine hw_aloadn (aX12_rows 130 rfl) rfl ?_
                              refine hw_get (v := .ref (base + 154)) (aX12_rows 131 rfl) wf_RX12_120 (c121 hS) (s121 hS) (by decide) (congrArg (fun r => va_rf (h_rf base r)) (r121_72 hF)) ?_
                              refine xw_iload (aX12_rows 132 rfl) rfl ?_
                              refine hw_ic (v := (1 : Int32)) (aX12_rows 133 rfl) (by decide) ?_
                              refine xw_iadd (aX12_rows 134 rfl) ?_
                              refine hw_tie (A := ((x123).toInt) + (1)) (i_add rfl (by decide : (1 : Int32).toInt = 1) (by omega) (by omega)) (fun x296 e297 => ?_)
                              refine xw_iload (aX12_rows 135 rfl) rfl ?_
                              refine hw_bp (v := (8 : Int32)) (aX12_rows 136 rfl) (by decide) ?_
                              refine xw_ishr (aX12_rows 137 rfl) ?_
                              refine hw_ti (fun x298 => ?_)
                              have b299 := i_rng x298
                              refine hw_sp (v := (255 : Int32)) (aX12_rows 138 rfl) (by decide) ?_
                              refine xw_iand (aX12_rows 139 rfl) ?_
                              refine hw_tib (lo := 0) (hi := 255) (i_and (x := x298) (m := (255 : Int32)) (M := 255) (by decide) (by decide)) (fun x300 b301 => ?_)
                              refine hv_iast (k := (x296).toNatClampNeg) (aX12_rows 140 rfl) (c154 hS) (s154 hS) (h_in e297 (by omega) (by omega)) rfl (fun FI302 u303 => ?_)
                              have rl304 : rl_e (FI302 149) (FI302 121 67) := by rw [show FI302 149 = FI290 149 from up_row u303 (by decide) rfl, show FI302 121 67 = FI290 121 67 from up_c u303 (by decide) rfl]; exact rl292
                              have rl305 : rl_t (FI302 149) (FL 150) := by rw [show FI302 149 = FI290 149 from up_row u303 (by decide) rfl]; exact rl293
                              have rl306 : rl_pm (FI302 121 90) (FI302 121 73) (FI302 166) (FI302 167) (FI302 168) := by rw [show FI302 166 = FI290 166 from up_row u303 (by decide) rfl, show FI302 167 = FI290 167 from up_row u303 (by decide) rfl, show FI302 168 = FI290 168 from up_row u303 (by decide) rfl, show FI302 121 90 = FI290 121 90 from up_c u303 (by decide) rfl, show FI302 121 73 = FI290 121 73 from up_c u303 (by decide) rfl]; exact rl294
                              have hI307 : g_I FI302 := gU_F hI295 u303 rfl
                              refine hw_aloadn (aX12_rows 141 rfl) rfl ?_
                              refine hw_get (v := .ref (base + 159)) (aX12_rows 142 rfl) wf_RX12_135 (c121 hS) (s121 hS) (by decide) (congrArg (fun r => va_rf (h_rf base r)) (r121_80 hF)) ?_
                              refine hw_aloadn (aX12_rows 143 rfl) rfl ?_
                              refine hw_get (v := .int (x14)) (aX12_rows 144 rfl) wf_RX12_515 (c121 hS) (s121 hS) (by decide) (congrArg Value.int (show FI302 121 78 = x14 from (up_c u303 (by decide) ((up_c u291 (by decide) ((gf_at f173 (c121 hS) (s121 hS) rfl ((gf_at f158 (c121 hS) (s121 hS) rfl ((gf_at f140 (c121 hS) (s121 hS) rfl ((up_k u129 (by decide) ((gf_at f118 (c121 hS) (s121 hS) rfl ((gf_at f104 (c121 hS) (s121 hS) rfl ((gf_at f75 (c121 hS) (s121 hS) rfl ((up_k u64 (by decide) (kp27)))))))))))))))))))))) ?_
                              refine hw_aloadn (aX12_rows 145 rfl) rfl ?_
                              refine hw_get (v := .ref (base + 159)) (aX12_rows 146 rfl) wf_RX12_135 (c121 hS) (s121 hS) (by decide) (congrArg (fun r => va_rf (h_rf base r)) (r121_80 hF)) ?_
                              refine hw_aloadn (aX12_rows 147 rfl) rfl ?_
                              refine hw_get (v := .int (x14)) (aX12_rows 148 rfl) wf_RX12_515 (c121 hS) (s121 hS) (by decide) (congrArg Value.int (show FI302 121 78 = x14 from (up_c u303 (by decide) ((up_c u291 (by decide) ((gf_at f173 (c121 hS) (s121 hS) rfl ((gf_at f158 (c121 hS) (s121 hS) rfl ((gf_at f140 (c121 hS) (s121 hS) rfl ((up_k u129 (by decide) ((gf_at f118 (c121 hS) (s121 hS) rfl ((gf_at f104 (c121 hS) (s121 hS) rfl ((gf_at f75 (c121 hS) (s121 hS) rfl ((up_k u64 (by decide) (kp27)))))))))))))))))))))) ?_
                              refine hw_iald (v := x52) (aX12_rows 149 rfl) (c159 hS) (s159 hS) (h_in rfl (by omega) (by omega)) (show FI302 159 (x14).toNatClampNeg = x52 from (up_c u303 (by decide) ((up_c u291 (by decide) ((gf_at f173 (c159 hS) (s159 hS) rfl ((gf_at f158 (c159 hS) (s159 hS) rfl ((gf_at f140 (c159 hS) (s159 hS) rfl ((up_c u129 (by decide) ((gf_at f118 (c159 hS) (s159 hS) rfl ((gf_at f104 (c159 hS) (s159 hS) rfl ((gf_at f75 (c159 hS) (s159 hS) rfl ((up_c u64 (by decide) (h53))))))))))))))))))))) ?_
                              refine hw_ic (v := (1 : Int32)) (aX12_rows 150 rfl) (by decide) ?_
                              refine xw_iadd (aX12_rows 151 rfl) ?_
                              refine hw_tie (A := ((x52).toInt) + (1)) (i_add rfl (by decide : (1 : Int32).toInt = 1) (by omega) (by omega)) (fun x308 e309 => ?_)
                              refine hv_iast (k := (x14).toNatClampNeg) (aX12_rows 152 rfl) (c159 hS) (s159 hS) (h_in rfl (by omega) (by omega)) rfl (fun FI310 u311 => ?_)
                              have rl312 : rl_e (FI310 149) (FI310 121 67) := by rw [show FI310 149 = FI302 149 from up_row u311 (by decide) rfl, show FI310 121 67 = FI302 121 67 from up_c u311 (by decide) rfl]; exact rl304
                              have rl313 : rl_t (FI310 149) (FL 150) := by rw [show FI310 149 = FI302 149 from up_row u311 (by decide) rfl]; exact rl305
                              have rl314 : rl_pm (FI310 121 90) (FI310 121 73) (FI310 166) (FI310 167) (FI310 168) := by rw [show FI310 166 = FI302 166 from up_row u311 (by decide) rfl, show FI310 167 = FI302 167 from up_row u311 (by decide) rfl, show FI310 168 = FI302 168 from up_row u311 (by decide) rfl, show FI310 121 90 = FI302 121 90 from up_c u311 (by decide) rfl, show FI310 121 73 = FI302 121 73 from up_c u311 (by decide) rfl]; exact rl306
                              have hI315 : g_I FI310 := gU_159 hI307 u311 (by have := (e309 : (x308).toInt = ((x52).toInt) + (1)); omega) (by have := (e309 : (x308).toInt = ((x52).toInt) + (1)); omega)
                              refine hw_aloadn (aX12_rows 153 rfl) rfl ?_
                              refine hw_get (v := .int (x192)) (aX12_rows 154 rfl) wf_RX12_475 (c121 hS) (s121 hS) (by decide) (congrArg Value.int (show FI310 121 69 = x192 from (up_c u311 (by decide) ((up_c u303 (by decide) ((up_c u291 (by decide) (h193)))))))) ?_
                              refine hw_ifne (tgt := 302) (aX12_rows 155 rfl) (by decide) rfl (fun cd316 => ?_) (fun cd316 => ?_)
                              · refine hw_ic (v := (0 : Int32)) (aX12_rows 162 rfl) (by decide) ?_
                                refine xw_istoren (L2 := [(1, .int ((0 : Int32))), (5, .int (x196)), (4, .int (x123)), (2, .long (x59)), (0, .ref (base + 121))]) (aX12_rows 163 rfl) (by decide) rfl ?_
                                refine xw_iloadn (aX12_rows 164 rfl) rfl ?_
                                refine hw_ifeq (tgt := 318) (aX12_rows 165 rfl) (by decide) (by decide : (0 : Int32).toInt = 0) (fun cd317 => ?_) (fun cd317 => ?_)
                                · refine xw_goto (tgt := 2) (aX12_rows 172 rfl) (by decide) ?_
                                  refine xw_iloadn (aX12_rows 2 rfl) rfl ?_
                                  refine hw_ifeq (tgt := 321) (aX12_rows 3 rfl) (by decide) (by decide : (0 : Int32).toInt = 0) (fun cd318 => ?_) (fun cd318 => ?_)
                                  · refine hw_aloadn (aX12_rows 173 rfl) rfl ?_
                                    refine hw_lc (v := (0 : Int64)) (aX12_rows 174 rfl) (by decide) ?_
                                    refine hw_bp (v := (8 : Int32)) (aX12_rows 175 rfl) (by decide) ?_
                                    refine hw_callV (Bs := [.long ((0 : Int64)), .int ((8 : Int32))]) (rest := []) (aX12_rows 176 rfl) wc_RX12_505 (by decide) rfl wi_yX12_emits wv_yX12_emits (c121 hS) (s121 hS) rfl rfl rfl (Nat.le_of_ble_eq_true rfl) (Nat.le_of_ble_eq_true rfl) (n_emits (d := d + 7) hS hF hI315 ((0 : Int64)) ((8 : Int32)) (by have := congrArg Int32.toInt (show FI310 121 73 = x187 from (up_c u311 (by decide) ((up_c u303 (by decide) ((up_c u291 (by decide) (h188))))))); omega) (by have := ((by decide : (8 : Int32).toInt = 8) : ((8 : Int32)).toInt = 8); have := ((by decide : (8 : Int32).toInt = 8) : ((8 : Int32)).toInt = 8); omega) (show rl_pm (FI310 121 90) (FI310 121 73) (FI310 166) (FI310 167) (FI310 168) from rl314)) (fun v319 sv320 p321 => ?_)
                                    have := congrArg Int32.toInt (show FI310 121 73 = x187 from (up_c u311 (by decide) ((up_c u303 (by decide) ((up_c u291 (by decide) (h188)))))))
                                    have := ((by decide : (8 : Int32).toInt = 8) : ((8 : Int32)).toInt = 8)
                                    obtain ⟨rfl, FI323, rfl, hI324, f325, t326, rl327⟩ := p321
                                    have rl328 : rl_e (FI323 149) (FI323 121 67) := by rw [show FI323 149 = FI310 149 from gf_row f325 (c149 hS) (s149 hS) rfl rfl, show FI323 121 67 = FI310 121 67 from gf_at f325 (c121 hS) (s121 hS) rfl rfl]; exact rl312
                                    have rl329 : rl_t (FI323 149) (FL 150) := by rw [show FI323 149 = FI310 149 from gf_row f325 (c149 hS) (s149 hS) rfl rfl]; exact rl313
                                    obtain ⟨x330, h331⟩ : ∃ y, FI323 121 73 = y := ⟨_, rfl⟩
                                    have h331l := congrArg Int32.toInt h331
                                    have b332 := gI_121_73 hI324; rw [h331] at b332
                                    show hw base _ _ _ _ _ [] _ _
                                    refine hw_aloadn (aX12_rows 177 rfl) rfl ?_
                                    refine hw_lc (v := (0 : Int64)) (aX12_rows 178 rfl) (by decide) ?_
                                    refine hw_bp (v := (8 : Int32)) (aX12_rows 179 rfl) (by decide) ?_
                                    refine hw_callV (Bs := [.long ((0 : Int64)), .int ((8 : Int32))]) (rest := []) (aX12_rows 180 rfl) wc_RX12_505 (by decide) rfl wi_yX12_emits wv_yX12_emits (c121 hS) (s121 hS) rfl rfl rfl (Nat.le_of_ble_eq_true rfl) (Nat.le_of_ble_eq_true rfl) (n_emits (d := d + 7) hS hF hI324 ((0 : Int64)) ((8 : Int32)) (by have := congrArg Int32.toInt (show FI323 121 73 = x330 from h331); omega) (by have := ((by decide : (8 : Int32).toInt = 8) : ((8 : Int32)).toInt = 8); have := ((by decide : (8 : Int32).toInt = 8) : ((8 : Int32)).toInt = 8); omega) (show rl_pm (FI323 121 90) (FI323 121 73) (FI323 166) (FI323 167) (FI323 168) from rl327)) (fun v333 sv334 p335 => ?_)
                                    have := congrArg Int32.toInt (show FI323 121 73 = x330 from h331)
                                    have := ((by decide : (8 : Int32).toInt = 8) : ((8 : Int32)).toInt = 8)
                                    obtain ⟨rfl, FI337, rfl, hI338, f339, t340, rl341⟩ := p335
                                    have rl342 : rl_e (FI337 149) (FI337 121 67) := by rw [show FI337 149 = FI323 149 from gf_row f339 (c149 hS) (s149 hS) rfl rfl, show FI337 121 67 = FI323 121 67 from gf_at f339 (c121 hS) (s121 hS) rfl rfl]; exact rl328
                                    have rl343 : rl_t (FI337 149) (FL 150) := by rw [show FI337 149 = FI323 149 from gf_row f339 (c149 hS) (s149 hS) rfl rfl]; exact rl329
                                    obtain ⟨x344, h345⟩ : ∃ y, FI337 121 73 = y := ⟨_, rfl⟩
                                    have h345l := congrArg Int32.toInt h345
                                    have b346 := gI_121_73 hI338; rw [h345] at b346
                                    show hw base _ _ _ _ _ [] _ _
                                    refine xw_vret (aX12_rows 181 rfl) rfl ?_
                                    exact ⟨rfl, FI337, rfl, hI338, (gf_tr ex_rf (gf_tr ex_rf (gf_a (gf_a (gf_a (gf_tr ex_rf (gf_tr ex_rf (gf_tr ex_rf (gf_f (gf_tr ex_rf (gf_tr ex_rf (gf_tr ex_rf (gf_f fr24 u64 (by decide)) f75 rfl rfl rfl) f104 rfl rfl rfl) f118 rfl rfl rfl) u129 (by decide)) f140 rfl rfl rfl) f158 rfl rfl rfl) f173 rfl rfl rfl) u291 (by decide)) u303 (by decide)) u311 (by decide)) f325 rfl rfl rfl) f339 rfl rfl rfl), (by have := congrArg Int32.toInt (show FI337 121 67 = x4 from (gf_at f339 (c121 hS) (s121 hS) rfl ((gf_at f325 (c121 hS) (s121 hS) rfl ((up_c u311 (by decide) ((up_c u303 (by decide) ((up_c u291 (by decide) ((gf_at f173 (c121 hS) (s121 hS) rfl ((gf_at f158 (c121 hS) (s121 hS) rfl ((gf_at f140 (c121 hS) (s121 hS) rfl ((up_k u129 (by decide) ((gf_at f118 (c121 hS) (s121 hS) rfl ((gf_at f104 (c121 hS) (s121 hS) rfl ((gf_at f75 (c121 hS) (s121 hS) rfl ((up_k u64 (by decide) (kp26))))))))))))))))))))))))))); have := congrArg Int32.toInt (show FI337 121 68 = x184 from (gf_at f339 (c121 hS) (s121 hS) rfl ((gf_at f325 (c121 hS) (s121 hS) rfl ((up_c u311 (by decide) ((up_c u303 (by decide) ((up_c u291 (by decide) (h185))))))))))); omega), (by have := congrArg Int32.toInt (show FI337 121 68 = x184 from (gf_at f339 (c121 hS) (s121 hS) rfl ((gf_at f325 (c121 hS) (s121 hS) rfl ((up_c u311 (by decide) ((up_c u303 (by decide) ((up_c u291 (by decide) (h185))))))))))); omega), (by have := congrArg Int32.toInt (show FI337 121 68 = x184 from (gf_at f339 (c121 hS) (s121 hS) rfl ((gf_at f325 (c121 hS) (s121 hS) rfl ((up_c u311 (by decide) ((up_c u303 (by decide) ((up_c u291 (by decide) (h185))))))))))); have := congrArg Int32.toInt (show FI337 121 73 = x344 from h345); omega), (by have := congrArg Int32.toInt (show FI337 121 73 = x344 from h345); omega), (by have := congrArg Int32.toInt (show FI337 121 69 = x192 from (gf_at f339 (c121 hS) (s121 hS) rfl ((gf_at f325 (c121 hS) (s121 hS) rfl ((up_c u311 (by decide) ((up_c u303 (by decide) ((up_c u291 (by decide) (h193))))))))))); exact fun h => absurd h (by omega)), (show rl_pm (FI337 121 90) (FI337 121 73) (FI337 166) (FI337 167) (FI337 168) from rl341)⟩
                                  · omega
                                · omega
                              · have ho0 := ho71 (by omega)
                                refine hw_aloadn (aX12_rows 156 rfl) rfl ?_
                                refine hw_bp (v := (44 : Int32)) (aX12_rows 157 rfl) (by decide) ?_
                                refine hw_callV (Bs := [.int ((44 : Int32))]) (rest := []) (aX12_rows 158 rfl) wc_RX12_484 (by decide) rfl wi_yX12_isSign wv_yX12_isSign (c121 hS) (s121 hS) rfl rfl rfl (Nat.le_of_ble_eq_true rfl) (Nat.le_of_ble_eq_true rfl) (n_isSign (d := d + 8) hS hF hI315 ((44 : Int32)) (by have := congrArg Int32.toInt (show FI310 121 68 = x184 from (up_c u311 (by decide) ((up_c u303 (by decide) ((up_c u291 (by decide) (h185))))))); have := congrArg Int32.toInt (show FI310 121 67 = x4 from (up_c u311 (by decide) ((up_c u303 (by decide) ((up_c u291 (by decide) ((gf_at f173 (c121 hS) (s121 hS) rfl ((gf_at f158 (c121 hS) (s121 hS) rfl ((gf_at f140 (c121 hS) (s121 hS) rfl ((up_k u129 (by decide) ((gf_at f118 (c121 hS) (s121 hS) rfl ((gf_at f104 (c121 hS) (s121 hS) rfl ((gf_at f75 (c121 hS) (s121 hS) rfl ((up_k u64 (by decide) (kp26))))))))))))))))))))))); omega) (show rl_e (FI310 149) (FI310 121 67) from rl312)) (fun v347 sv348 p349 => ?_)
                                have := congrArg Int32.toInt (show FI310 121 68 = x184 from (up_c u311 (by decide) ((up_c u303 (by decide) ((up_c u291 (by decide) (h185)))))))
                                have := congrArg Int32.toInt (show FI310 121 67 = x4 from (up_c u311 (by decide) ((up_c u303 (by decide) ((up_c u291 (by decide) ((gf_at f173 (c121 hS) (s121 hS) rfl ((gf_at f158 (c121 hS) (s121 hS) rfl ((gf_at f140 (c121 hS) (s121 hS) rfl ((up_k u129 (by decide) ((gf_at f118 (c121 hS) (s121 hS) rfl ((gf_at f104 (c121 hS) (s121 hS) rfl ((gf_at f75 (c121 hS) (s121 hS) rfl ((up_k u64 (by decide) (kp26)))))))))))))))))))))))
                                obtain ⟨r350, rfl, rfl, t352, t353, u354⟩ := p349
                                show hw base _ _ _ _ _ [.int (r350)] _ _
                                refine hw_ifeq (tgt := 302) (aX12_rows 159 rfl) (by decide) rfl (fun cd355 => ?_) (fun cd355 => ?_)
                                · clear t352
                                  refine hw_ic (v := (0 : Int32)) (aX12_rows 162 rfl) (by decide) ?_
                                  refine xw_istoren (L2 := [(1, .int ((0 : Int32))), (5, .int (x196)), (4, .int (x123)), (2, .long (x59)), (0, .ref (base + 121))]) (aX12_rows 163 rfl) (by decide) rfl ?_
                                  refine xw_iloadn (aX12_rows 164 rfl) rfl ?_
                                  refine hw_ifeq (tgt := 318) (aX12_rows 165 rfl) (by decide) (by decide : (0 : Int32).toInt = 0) (fun cd356 => ?_) (fun cd356 => ?_)
                                  · refine xw_goto (tgt := 2) (aX12_rows 172 rfl) (by decide) ?_
                                    refine xw_iloadn (aX12_rows 2 rfl) rfl ?_
                                    refine hw_ifeq (tgt := 321) (aX12_rows 3 rfl) (by decide) (by decide : (0 : Int32).toInt = 0) (fun cd357 => ?_) (fun cd357 => ?_)
                                    · refine hw_aloadn (aX12_rows 173 rfl) rfl ?_
                                      refine hw_lc (v := (0 : Int64)) (aX12_rows 174 rfl) (by decide) ?_
                                      refine hw_bp (v := (8 : Int32)) (aX12_rows 175 rfl) (by decide) ?_
                                      refine hw_callV (Bs := [.long ((0 : Int64)), .int ((8 : Int32))]) (rest := []) (aX12_rows 176 rfl) wc_RX12_505 (by decide) rfl wi_yX12_emits wv_yX12_emits (c121 hS) (s121 hS) rfl rfl rfl (Nat.le_of_ble_eq_true rfl) (Nat.le_of_ble_eq_true rfl) (n_emits (d := d + 7) hS hF hI315 ((0 : Int64)) ((8 : Int32)) (by have := congrArg Int32.toInt (show FI310 121 73 = x187 from (up_c u311 (by decide) ((up_c u303 (by decide) ((up_c u291 (by decide) (h188))))))); omega) (by have := ((by decide : (8 : Int32).toInt = 8) : ((8 : Int32)).toInt = 8); have := ((by decide : (8 : Int32).toInt = 8) : ((8 : Int32)).toInt = 8); omega) (show rl_pm (FI310 121 90) (FI310 121 73) (FI310 166) (FI310 167) (FI310 168) from rl314)) (fun v358 sv359 p360 => ?_)
                                      have := congrArg Int32.toInt (show FI310 121 73 = x187 from (up_c u311 (by decide) ((up_c u303 (by decide) ((up_c u291 (by decide) (h188)))))))
                                      have := ((by decide : (8 : Int32).toInt = 8) : ((8 : Int32)).toInt = 8)
                                      obtain ⟨rfl, FI362, rfl, hI363, f364, t365, rl366⟩ := p360
                                      have rl367 : rl_e (FI362 149) (FI362 121 67) := by rw [show FI362 149 = FI310 149 from gf_row f364 (c149 hS) (s149 hS) rfl rfl, show FI362 121 67 = FI310 121 67 from gf_at f364 (c121 hS) (s121 hS) rfl rfl]; exact rl312
                                      have rl368 : rl_t (FI362 149) (FL 150) := by rw [show FI362 149 = FI310 149 from gf_row f364 (c149 hS) (s149 hS) rfl rfl]; exact rl313
                                      obtain ⟨x369, h370⟩ : ∃ y, FI362 121 73 = y := ⟨_, rfl⟩
                                      have h370l := congrArg Int32.toInt h370
                                      have b371 := gI_121_73 hI363; rw [h370] at b371
                                      show hw base _ _ _ _ _ [] _ _
                                      refine hw_aloadn (aX12_rows 177 rfl) rfl ?_
                                      refine hw_lc (v := (0 : Int64)) (aX12_rows 178 rfl) (by decide) ?_
                                      refine hw_bp (v := (8 : Int32)) (aX12_rows 179 rfl) (by decide) ?_
                                      refine hw_callV (Bs := [.long ((0 : Int64)), .int ((8 : Int32))]) (rest := []) (aX12_rows 180 rfl) wc_RX12_505 (by decide) rfl wi_yX12_emits wv_yX12_emits (c121 hS) (s121 hS) rfl rfl rfl (Nat.le_of_ble_eq_true rfl) (Nat.le_of_ble_eq_true rfl) (n_emits (d := d + 7) hS hF hI363 ((0 : Int64)) ((8 : Int32)) (by have := congrArg Int32.toInt (show FI362 121 73 = x369 from h370); omega) (by have := ((by decide : (8 : Int32).toInt = 8) : ((8 : Int32)).toInt = 8); have := ((by decide : (8 : Int32).toInt = 8) : ((8 : Int32)).toInt = 8); omega) (show rl_pm (FI362 121 90) (FI362 121 73) (FI362 166) (FI362 167) (FI362 168) from rl366)) (fun v372 sv373 p374 => ?_)
                                      have := congrArg Int32.toInt (show FI362 121 73 = x369 from h370)
                                      have := ((by decide : (8 : Int32).toInt = 8) : ((8 : Int32)).toInt = 8)
                                      obtain ⟨rfl, FI376, rfl, hI377, f378, t379, rl380⟩ := p374
                                      have rl381 : rl_e (FI376 149) (FI376 121 67) := by rw [show FI376 149 = FI362 149 from gf_row f378 (c149 hS) (s149 hS) rfl rfl, show FI376 121 67 = FI362 121 67 from gf_at f378 (c121 hS) (s121 hS) rfl rfl]; exact rl367
                                      have rl382 : rl_t (FI376 149) (FL 150) := by rw [show FI376 149 = FI362 149 from gf_row f378 (c149 hS) (s149 hS) rfl rfl]; exact rl368
                                      obtain ⟨x383, h384⟩ : ∃ y, FI376 121 73 = y := ⟨_, rfl⟩
                                      have h384l := congrArg Int32.toInt h384
                                      have b385 := gI_121_73 hI377; rw [h384] at b385
                                      show hw base _ _ _ _ _ [] _ _
                                      refine xw_vret (aX12_rows 181 rfl) rfl ?_
                                      exact ⟨rfl, FI376, rfl, hI377, (gf_tr ex_rf (gf_tr ex_rf (gf_a (gf_a (gf_a (gf_tr ex_rf (gf_tr ex_rf (gf_tr ex_rf (gf_f (gf_tr ex_rf (gf_tr ex_rf (gf_tr ex_rf (gf_f fr24 u64 (by decide)) f75 rfl rfl rfl) f104 rfl rfl rfl) f118 rfl rfl rfl) u129 (by decide)) f140 rfl rfl rfl) f158 rfl rfl rfl) f173 rfl rfl rfl) u291 (by decide)) u303 (by decide)) u311 (by decide)) f364 rfl rfl rfl) f378 rfl rfl rfl), (by have := congrArg Int32.toInt (show FI376 121 67 = x4 from (gf_at f378 (c121 hS) (s121 hS) rfl ((gf_at f364 (c121 hS) (s121 hS) rfl ((up_c u311 (by decide) ((up_c u303 (by decide) ((up_c u291 (by decide) ((gf_at f173 (c121 hS) (s121 hS) rfl ((gf_at f158 (c121 hS) (s121 hS) rfl ((gf_at f140 (c121 hS) (s121 hS) rfl ((up_k u129 (by decide) ((gf_at f118 (c121 hS) (s121 hS) rfl ((gf_at f104 (c121 hS) (s121 hS) rfl ((gf_at f75 (c121 hS) (s121 hS) rfl ((up_k u64 (by decide) (kp26))))))))))))))))))))))))))); have := congrArg Int32.toInt (show FI376 121 68 = x184 from (gf_at f378 (c121 hS) (s121 hS) rfl ((gf_at f364 (c121 hS) (s121 hS) rfl ((up_c u311 (by decide) ((up_c u303 (by decide) ((up_c u291 (by decide) (h185))))))))))); omega), (by have := congrArg Int32.toInt (show FI376 121 68 = x184 from (gf_at f378 (c121 hS) (s121 hS) rfl ((gf_at f364 (c121 hS) (s121 hS) rfl ((up_c u311 (by decide) ((up_c u303 (by decide) ((up_c u291 (by decide) (h185))))))))))); omega), (by have := congrArg Int32.toInt (show FI376 121 68 = x184 from (gf_at f378 (c121 hS) (s121 hS) rfl ((gf_at f364 (c121 hS) (s121 hS) rfl ((up_c u311 (by decide) ((up_c u303 (by decide) ((up_c u291 (by decide) (h185))))))))))); have := congrArg Int32.toInt (show FI376 121 73 = x383 from h384); omega), (by have := congrArg Int32.toInt (show FI376 121 73 = x383 from h384); omega), (by have := congrArg Int32.toInt (show FI376 121 68 = x184 from (gf_at f378 (c121 hS) (s121 hS) rfl ((gf_at f364 (c121 hS) (s121 hS) rfl ((up_c u311 (by decide) ((up_c u303 (by decide) ((up_c u291 (by decide) (h185))))))))))); have := congrArg Int32.toInt (show FI376 121 69 = x192 from (gf_at f378 (c121 hS) (s121 hS) rfl ((gf_at f364 (c121 hS) (s121 hS) rfl ((up_c u311 (by decide) ((up_c u303 (by decide) ((up_c u291 (by decide) (h193))))))))))); have := congrArg Int32.toInt (show FI376 159 (FI 121 78).toNatClampNeg = x308 from (by rw [show FI 121 78 = x14 from h15]; exact (gf_at f378 (c159 hS) (s159 hS) rfl ((gf_at f364 (c159 hS) (s159 hS) rfl (up_eq u311)))))); have := (e309 : (x308).toInt = ((x52).toInt) + (1)); have := congrArg Int32.toInt (show FIv23 159 (FI 121 78).toNatClampNeg = x52 from (by rw [show FI 121 78 = x14 from h15]; exact h53)); intro h69; refine ⟨?_, by omega⟩; rw [show ((FI376 159 (FI 121 78).toNatClampNeg).toInt).toNat = ((FIv23 159 (FI 121 78).toNatClampNeg).toInt).toNat + 1 by omega, show (FI376 121 68).toInt.toNat = (FI171 121 68).toInt.toNat by omega]; exact hsn (by omega)), (show rl_pm (FI376 121 90) (FI376 121 73) (FI376 166) (FI376 167) (FI376 168) from rl380)⟩
                                    · omega
                                  · omega
                                · replace t352 := t352 (by omega)
                                  refine hw_ic (v := (1 : Int32)) (aX12_rows 160 rfl) (by decide) ?_
                                  refine xw_goto (tgt := 303) (aX12_rows 161 rfl) (by decide) ?_
                                  refine xw_istoren (L2 := [(1, .int ((1 : Int32))), (5, .int (x196)), (4, .int (x123)), (2, .long (x59)), (0, .ref (base + 121))]) (aX12_rows 163 rfl) (by decide) rfl ?_
                                  refine xw_iloadn (aX12_rows 164 rfl) rfl ?_
                                  refine hw_ifeq (tgt := 318) (aX12_rows 165 rfl) (by decide) (by decide : (1 : Int32).toInt = 1) (fun cd386 => ?_) (fun cd386 => ?_)
                                  · omega
                                  · refine hw_aloadn (aX12_rows 166 rfl) rfl ?_
                                    refine hw_aloadn (aX12_rows 167 rfl) rfl ?_
                                    refine hw_get (v := .int (x184)) (aX12_rows 168 rfl) wf_RX12_478 (c121 hS) (s121 hS) (by decide) (congrArg Value.int (show FI310 121 68 = x184 from (up_c u311 (by decide) ((up_c u303 (by decide) ((up_c u291 (by decide) (h185)))))))) ?_
                                    refine hw_ic (v := (1 : Int32)) (aX12_rows 169 rfl) (by decide) ?_
                                    refine xw_iadd (aX12_rows 170 rfl) ?_
                                    refine hw_tie (A := ((x184).toInt) + (1)) (i_add rfl (by decide : (1 : Int32).toInt = 1) (by omega) (by omega)) (fun x387 e388 => ?_)
                                    refine hv_puti (aX12_rows 171 rfl) wf_RX12_478 (c121 hS) (s121 hS) (by decide) rfl rfl (fun FI389 u390 => ?_)
                                    have rl391 : rl_e (FI389 149) (FI389 121 67) := by rw [show FI389 149 = FI310 149 from up_row u390 (by decide) rfl, show FI389 121 67 = FI310 121 67 from up_k u390 (by decide) rfl]; exact rl312
                                    have rl392 : rl_t (FI389 149) (FL 150) := by rw [show FI389 149 = FI310 149 from up_row u390 (by decide) rfl]; exact rl313
                                    have rl393 : rl_pm (FI389 121 90) (FI389 121 73) (FI389 166) (FI389 167) (FI389 168) := by rw [show FI389 166 = FI310 166 from up_row u390 (by decide) rfl, show FI389 167 = FI310 167 from up_row u390 (by decide) rfl, show FI389 168 = FI310 168 from up_row u390 (by decide) rfl, show FI389 121 90 = FI310 121 90 from up_k u390 (by decide) rfl, show FI389 121 73 = FI310 121 73 from up_k u390 (by decide) rfl]; exact rl314
                                    have hI394 : g_I FI389 := gU_121_68 hI315 u390 (by have := (e388 : (x387).toInt = ((x184).toInt) + (1)); omega) (by have := (e388 : (x387).toInt = ((x184).toInt) + (1)); omega)
                                    refine xw_goto (tgt := 2) (aX12_rows 172 rfl) (by decide) ?_
                                    refine xw_iloadn (aX12_rows 2 rfl) rfl ?_
                                    refine hw_ifeq (tgt := 321) (aX12_rows 3 rfl) (by decide) (by decide : (1 : Int32).toInt = 1) (fun cd395 => ?_) (fun cd395 => ?_)
                                    · omega
                                    · refine hw_aloadn (aX12_rows 4 rfl) rfl ?_
                                      refine hw_get (v := .int (x192)) (aX12_rows 5 rfl) wf_RX12_475 (c121 hS) (s121 hS) (by decide) (congrArg Value.int (show FI389 121 69 = x192 from (up_k u390 (by decide) ((up_c u311 (by decide) ((up_c u303 (by decide) ((up_c u291 (by decide) (h193)))))))))) ?_
                                      refine hw_ifne (tgt := 321) (aX12_rows 6 rfl) (by decide) rfl (fun cd396 => ?_) (fun cd396 => ?_)
                                      · omega
                                      · exact hw_L (ih FI389 (gf_f (gf_a (gf_a (gf_a (gf_tr ex_rf (gf_tr ex_rf (gf_tr ex_rf (gf_f (gf_tr ex_rf (gf_tr ex_rf (gf_tr ex_rf (gf_f fr24 u64 (by decide)) f75 rfl rfl rfl) f104 rfl rfl rfl) f118 rfl rfl rfl) u129 (by decide)) f140 rfl rfl rfl) f158 rfl rfl rfl) f173 rfl rfl rfl) u291 (by decide)) u303 (by decide)) u311 (by decide)) u390 (by decide)) hI394 (show FI389 121 67 = x4 from (up_k u390 (by decide) ((up_c u311 (by decide) ((up_c u303 (by decide) ((up_c u291 (by decide) ((gf_at f173 (c121 hS) (s121 hS) rfl ((gf_at f158 (c121 hS) (s121 hS) rfl ((gf_at f140 (c121 hS) (s121 hS) rfl ((up_k u129 (by decide) ((gf_at f118 (c121 hS) (s121 hS) rfl ((gf_at f104 (c121 hS) (s121 hS) rfl ((gf_at f75 (c121 hS) (s121 hS) rfl ((up_k u64 (by decide) (kp26))))))))))))))))))))))))) (show FI389 121 78 = x14 from (up_k u390 (by decide) ((up_c u311 (by decide) ((up_c u303 (by decide) ((up_c u291 (by decide) ((gf_at f173 (c121 hS) (s121 hS) rfl ((gf_at f158 (c121 hS) (s121 hS) rfl ((gf_at f140 (c121 hS) (s121 hS) rfl ((up_k u129 (by decide) ((gf_at f118 (c121 hS) (s121 hS) rfl ((gf_at f104 (c121 hS) (s121 hS) rfl ((gf_at f75 (c121 hS) (s121 hS) rfl ((up_k u64 (by decide) (kp27))))))))))))))))))))))))) (show rl_e (FI389 149) (FI389 121 67) from rl391) (show rl_t (FI389 149) (FL 150) from rl392) (show rl_pm (FI389 121 90) (FI389 121 73) (FI389 166) (FI389 167) (FI389 168) from rl393) (by have := congrArg Int32.toInt (show FI389 121 68 = x387 from up_eq u390); have := (e388 : (x387).toInt = ((x184).toInt) + (1)); omega) (by have := congrArg Int32.toInt (show FI389 121 69 = x192 from (up_k u390 (by decide) ((up_c u311 (by decide) ((up_c u303 (by decide) ((up_c u291 (by decide) (h193))))))))); omega) (by have := congrArg Int32.toInt (show FI389 121 67 = x4 from (up_k u390 (by decide) ((up_c u311 (by decide) ((up_c u303 (by decide) ((up_c u291 (by decide) ((gf_at f173 (c121 hS) (s121 hS) rfl ((gf_at f158 (c121 hS) (s121 hS) rfl ((gf_at f140 (c121 hS) (s121 hS) rfl ((up_k u129 (by decide) ((gf_at f118 (c121 hS) (s121 hS) rfl ((gf_at f104 (c121 hS) (s121 hS) rfl ((gf_at f75 (c121 hS) (s121 hS) rfl ((up_k u64 (by decide) (kp26))))))))))))))))))))))))); have := congrArg Int32.toInt (show FI389 121 68 = x387 from up_eq u390); have := (e388 : (x387).toInt = ((x184).toInt) + (1)); omega) (by have := congrArg Int32.toInt (show FI389 121 68 = x387 from up_eq u390); have := (e388 : (x387).toInt = ((x184).toInt) + (1)); omega) (by have := congrArg Int32.toInt (show FI389 121 68 = x387 from up_eq u390); have := (e388 : (x387).toInt = ((x184).toInt) + (1)); have := congrArg Int32.toInt (show FI389 121 73 = x187 from (up_k u390 (by decide) ((up_c u311 (by decide) ((up_c u303 (by decide) ((up_c u291 (by decide) (h188))))))))); omega) (by have := congrArg Int32.toInt (show FI389 121 73 = x187 from (up_k u390 (by decide) ((up_c u311 (by decide) ((up_c u303 (by decide) ((up_c u291 (by decide) (h188))))))))); omega) (by have := congrArg Int32.toInt (show FI389 121 71 = x190 from (up_k u390 (by decide) ((up_c u311 (by decide) ((up_c u303 (by decide) ((up_c u291 (by decide) (h191))))))))); omega) (show gr_rws (kf (FI 149)) (wf (FL 150)) ((FI389 159 (FI 121 78).toNatClampNeg).toInt).toNat (FI 121 68).toInt.toNat ((FI389 121 68).toInt).toNat from (by have := congrArg Int32.toInt (show FI389 121 68 = x387 from up_eq u390); have := (e388 : (x387).toInt = ((x184).toInt) + (1)); exact (by { have := congrArg Int32.toInt (show FI389 159 (FI 121 78).toNatClampNeg = x308 from (by rw [show FI 121 78 = x14 from h15]; exact (up_c u390 (by decide) (up_eq u311)))); have := (e309 : (x308).toInt = ((x52).toInt) + (1)); have := congrArg Int32.toInt (show FIv23 159 (FI 121 78).toNatClampNeg = x52 from (by rw [show FI 121 78 = x14 from h15]; exact h53)); rw [show ((FI389 159 (FI 121 78).toNatClampNeg).toInt).toNat = ((FIv23 159 (FI 121 78).toNatClampNeg).toInt).toNat + 1 by omega, show ((FI389 121 68).toInt).toNat = (FI171 121 68).toInt.toNat + 1 by omega]; exact hsn (by omega) }))) (show FI389 149 = FI 149 from (up_row u390 (by decide) ((up_row u311 (by decide) ((up_row u303 (by decide) ((up_row u291 (by decide) ((gf_row f173 (c149 hS) (s149 hS) rfl ((gf_row f158 (c149 hS) (s149 hS) rfl ((gf_row f140 (c149 hS) (s149 hS) rfl ((up_row u129 (by decide) ((gf_row f118 (c149 hS) (s149 hS) rfl ((gf_row f104 (c149 hS) (s149 hS) rfl ((gf_row f75 (c149 hS) (s149 hS) rfl ((up_row u64 (by decide) (rw38))))))))))))))))))))))))) (by have := congrArg Int32.toInt (show FI389 121 68 = x387 from up_eq u390); have := (e388 : (x387).toInt = ((x184).toInt) + (1)); omega)) ⟨rfl, trivial⟩
                          · refine xw_vret (aX12_rows 109 rfl) rfl ?_
                            exact ⟨rfl, FI156, rfl, hI157, (gf_tr ex_rf (gf_tr ex_rf (gf_f (gf_tr ex_rf (gf_tr ex_rf (gf_tr ex_rf (gf_f fr24 u64 (by decide)) f75 rfl rfl rfl) f104 rfl rfl rfl) f118 rfl rfl rfl) u129 (by decide)) f140 rfl rfl rfl) f158 rfl rfl rfl), (by have := congrArg Int32.toInt (show FI156 121 67 = x4 from (gf_at f158 (c121 hS) (s121 hS) rfl ((gf_at f140 (c121 hS) (s121 hS) rfl ((up_k u129 (by decide) ((gf_at f118 (c121 hS) (s121 hS) rfl ((gf_at f104 (c121 hS) (s121 hS) rfl ((gf_at f75 (c121 hS) (s121 hS) rfl ((up_k u64 (by decide) (kp26))))))))))))))); have := congrArg Int32.toInt (show FI156 121 68 = x147 from (gf_at f158 (c121 hS) (s121 hS) rfl (h148))); omega), (by have := congrArg Int32.toInt (show FI156 121 68 = x147 from (gf_at f158 (c121 hS) (s121 hS) rfl (h148))); omega), (by have := congrArg Int32.toInt (show FI156 121 68 = x147 from (gf_at f158 (c121 hS) (s121 hS) rfl (h148))); have := congrArg Int32.toInt (show FI156 121 73 = x163 from h164); omega), (by have := congrArg Int32.toInt (show FI156 121 73 = x163 from h164); omega), (by have := congrArg Int32.toInt (show FI156 121 69 = x150 from (gf_at f158 (c121 hS) (s121 hS) rfl (h151))); exact fun h => absurd h (by omega)), (show rl_pm (FI156 121 90) (FI156 121 73) (FI156 166) (FI156 167) (FI156 168) from rl160)⟩
                        · omega
                      · refine hw_aloadn (aX12_rows 71 rfl) rfl ?_
                        refine hw_ic (v := (3 : Int32)) (aX12_rows 72 rfl) (by decide) ?_
                        refine hw_callV (Bs := [.int ((3 : Int32))]) (rest := []) (aX12_rows 73 rfl) wc_RX12_487 (by decide) rfl wi_yX12_fail wv_yX12_fail (c121 hS) (s121 hS) rfl rfl rfl (Nat.le_of_ble_eq_true rfl) (Nat.le_of_ble_eq_true rfl) (n_fail (d := d + 8) hS hF hI74 ((3 : Int32)) (by have := ((by decide : (3 : Int32).toInt = 3) : ((3 : Int32)).toInt = 3); omega)) (fun v397 sv398 p399 => ?_)
                        obtain ⟨rfl, FI401, rfl, hI402, f403, t404⟩ := p399
                        have rl405 : rl_e (FI401 149) (FI401 121 67) := by rw [show FI401 149 = FI73 149 from gf_row f403 (c149 hS) (s149 hS) rfl rfl, show FI401 121 67 = FI73 121 67 from gf_at f403 (c121 hS) (s121 hS) rfl rfl]; exact rl79
                        have rl406 : rl_t (FI401 149) (FL 150) := by rw [show FI401 149 = FI73 149 from gf_row f403 (c149 hS) (s149 hS) rfl rfl]; exact rl80
                        have rl407 : rl_pm (FI401 121 90) (FI401 121 73) (FI401 166) (FI401 167) (FI401 168) := by rw [show FI401 166 = FI73 166 from gf_row f403 (c166 hS) (s166 hS) rfl rfl, show FI401 167 = FI73 167 from gf_row f403 (c167 hS) (s167 hS) rfl rfl, show FI401 168 = FI73 168 from gf_row f403 (c168 hS) (s168 hS) rfl rfl, show FI401 121 90 = FI73 121 90 from gf_at f403 (c121 hS) (s121 hS) rfl rfl, show FI401 121 73 = FI73 121 73 from gf_at f403 (c121 hS) (s121 hS) rfl rfl]; exact rl81
                        obtain ⟨x408, h409⟩ : ∃ y, FI401 121 69 = y := ⟨_, rfl⟩
                        have h409l := congrArg Int32.toInt h409
                        have := i_rng x408
                        show hw base _ _ _ _ _ [] _ _
                        refine hw_aloadn (aX12_rows 74 rfl) rfl ?_
                        refine hw_get (v := .int (x408)) (aX12_rows 75 rfl) wf_RX12_475 (c121 hS) (s121 hS) (by decide) (congrArg Value.int (show FI401 121 69 = x408 from h409)) ?_
                        refine hw_ifeq (tgt := 148) (aX12_rows 76 rfl) (by decide) rfl (fun cd410 => ?_) (fun cd410 => ?_)
                        · omega
                        · refine xw_vret (aX12_rows 77 rfl) rfl ?_
                          exact ⟨rfl, FI401, rfl, hI402, (gf_tr ex_rf (gf_tr ex_rf (gf_f fr24 u64 (by decide)) f75 rfl rfl rfl) f403 rfl rfl rfl), (by have := congrArg Int32.toInt (show FI401 121 67 = x4 from (gf_at f403 (c121 hS) (s121 hS) rfl ((gf_at f75 (c121 hS) (s121 hS) rfl ((up_k u64 (by decide) (kp26))))))); have := congrArg Int32.toInt (show FI401 121 68 = x82 from (gf_at f403 (c121 hS) (s121 hS) rfl (h83))); omega), (by have := congrArg Int32.toInt (show FI401 121 68 = x82 from (gf_at f403 (c121 hS) (s121 hS) rfl (h83))); omega), (by have := congrArg Int32.toInt (show FI401 121 68 = x82 from (gf_at f403 (c121 hS) (s121 hS) rfl (h83))); have := congrArg Int32.toInt (show FI401 121 73 = x45 from (gf_at f403 (c121 hS) (s121 hS) rfl ((gf_at f75 (c121 hS) (s121 hS) rfl ((up_k u64 (by decide) (h46))))))); omega), (by have := congrArg Int32.toInt (show FI401 121 73 = x45 from (gf_at f403 (c121 hS) (s121 hS) rfl ((gf_at f75 (c121 hS) (s121 hS) rfl ((up_k u64 (by decide) (h46))))))); omega), (by have := congrArg Int32.toInt (show FI401 121 69 = x408 from h409); exact fun h => absurd h (by omega)), (show rl_pm (FI401 121 90) (FI401 121 73) (FI401 166) (FI401 167) (FI401 168) from rl407)⟩
                  · refine hw_aloadn (aX12_rows 57 rfl) rfl ?_
                    refine hw_ic (v := (1 : Int32)) (aX12_rows 58 rfl) (by decide) ?_
                    refine hw_callV (Bs := [.int ((1 : Int32))]) (rest := []) (aX12_rows 59 rfl) wc_RX12_487 (by decide) rfl wi_yX12_fail wv_yX12_fail (c121 hS) (s121 hS) rfl rfl rfl (Nat.le_of_ble_eq_true rfl) (Nat.le_of_ble_eq_true rfl) (n_fail (d := d + 8) hS hF hI74 ((1 : Int32)) (by have := ((by decide : (1 : Int32).toInt = 1) : ((1 : Int32)).toInt = 1); omega)) (fun v411 sv412 p413 => ?_)
                    obtain ⟨rfl, FI415, rfl, hI416, f417, t418⟩ := p413
                    have rl419 : rl_e (FI415 149) (FI415 121 67) := by rw [show FI415 149 = FI73 149 from gf_row f417 (c149 hS) (s149 hS) rfl rfl, show FI415 121 67 = FI73 121 67 from gf_at f417 (c121 hS) (s121 hS) rfl rfl]; exact rl79
                    have rl420 : rl_t (FI415 149) (FL 150) := by rw [show FI415 149 = FI73 149 from gf_row f417 (c149 hS) (s149 hS) rfl rfl]; exact rl80
                    have rl421 : rl_pm (FI415 121 90) (FI415 121 73) (FI415 166) (FI415 167) (FI415 168) := by rw [show FI415 166 = FI73 166 from gf_row f417 (c166 hS) (s166 hS) rfl rfl, show FI415 167 = FI73 167 from gf_row f417 (c167 hS) (s167 hS) rfl rfl, show FI415 168 = FI73 168 from gf_row f417 (c168 hS) (s168 hS) rfl rfl, show FI415 121 90 = FI73 121 90 from gf_at f417 (c121 hS) (s121 hS) rfl rfl, show FI415 121 73 = FI73 121 73 from gf_at f417 (c121 hS) (s121 hS) rfl rfl]; exact rl81
                    obtain ⟨x422, h423⟩ : ∃ y, FI415 121 69 = y := ⟨_, rfl⟩
                    have h423l := congrArg Int32.toInt h423
                    have := i_rng x422
                    show hw base _ _ _ _ _ [] _ _
                    refine hw_aloadn (aX12_rows 60 rfl) rfl ?_
                    refine hw_get (v := .int (x422)) (aX12_rows 61 rfl) wf_RX12_475 (c121 hS) (s121 hS) (by decide) (congrArg Value.int (show FI415 121 69 = x422 from h423)) ?_
                    refine hw_ifne (tgt := 140) (aX12_rows 62 rfl) (by decide) rfl (fun cd424 => ?_) (fun cd424 => ?_)
                    · refine hw_aloadn (aX12_rows 74 rfl) rfl ?_
                      refine hw_get (v := .int (x422)) (aX12_rows 75 rfl) wf_RX12_475 (c121 hS) (s121 hS) (by decide) (congrArg Value.int (show FI415 121 69 = x422 from h423)) ?_
                      refine hw_ifeq (tgt := 148) (aX12_rows 76 rfl) (by decide) rfl (fun cd425 => ?_) (fun cd425 => ?_)
                      · omega
                      · refine xw_vret (aX12_rows 77 rfl) rfl ?_
                        exact ⟨rfl, FI415, rfl, hI416, (gf_tr ex_rf (gf_tr ex_rf (gf_f fr24 u64 (by decide)) f75 rfl rfl rfl) f417 rfl rfl rfl), (by have := congrArg Int32.toInt (show FI415 121 67 = x4 from (gf_at f417 (c121 hS) (s121 hS) rfl ((gf_at f75 (c121 hS) (s121 hS) rfl ((up_k u64 (by decide) (kp26))))))); have := congrArg Int32.toInt (show FI415 121 68 = x82 from (gf_at f417 (c121 hS) (s121 hS) rfl (h83))); omega), (by have := congrArg Int32.toInt (show FI415 121 68 = x82 from (gf_at f417 (c121 hS) (s121 hS) rfl (h83))); omega), (by have := congrArg Int32.toInt (show FI415 121 68 = x82 from (gf_at f417 (c121 hS) (s121 hS) rfl (h83))); have := congrArg Int32.toInt (show FI415 121 73 = x45 from (gf_at f417 (c121 hS) (s121 hS) rfl ((gf_at f75 (c121 hS) (s121 hS) rfl ((up_k u64 (by decide) (h46))))))); omega), (by have := congrArg Int32.toInt (show FI415 121 73 = x45 from (gf_at f417 (c121 hS) (s121 hS) rfl ((gf_at f75 (c121 hS) (s121 hS) rfl ((up_k u64 (by decide) (h46))))))); omega), (by have := congrArg Int32.toInt (show FI415 121 69 = x422 from h423); exact fun h => absurd h (by omega)), (show rl_pm (FI415 121 90) (FI415 121 73) (FI415 166) (FI415 167) (FI415 168) from rl421)⟩
                    · omega
              · omega
            · refine hw_aloadn (aX12_rows 25 rfl) rfl ?_
              refine hw_bp (v := (6 : Int32)) (aX12_rows 26 rfl) (by decide) ?_
              refine hw_callV (Bs := [.int ((6 : Int32))]) (rest := []) (aX12_rows 27 rfl) wc_RX12_487 (by decide) rfl wi_yX12_fail wv_yX12_fail (c121 hS) (s121 hS) rfl rfl rfl (Nat.le_of_ble_eq_true rfl) (Nat.le_of_ble_eq_true rfl) (n_fail (d := d + 8) hS hF hI25 ((6 : Int32)) (by have := ((by decide : (6 : Int32).toInt = 6) : ((6 : Int32)).toInt = 6); omega)) (fun v426 sv427 p428 => ?_)
              obtain ⟨rfl, FI430, rfl, hI431, f432, t433⟩ := p428
              have rl434 : rl_e (FI430 149) (FI430 121 67) := by rw [show FI430 149 = FIv23 149 from gf_row f432 (c149 hS) (s149 hS) rfl rfl, show FI430 121 67 = FIv23 121 67 from gf_at f432 (c121 hS) (s121 hS) rfl rfl]; exact rl28
              have rl435 : rl_t (FI430 149) (FL 150) := by rw [show FI430 149 = FIv23 149 from gf_row f432 (c149 hS) (s149 hS) rfl rfl]; exact rl29
              have rl436 : rl_pm (FI430 121 90) (FI430 121 73) (FI430 166) (FI430 167) (FI430 168) := by rw [show FI430 166 = FIv23 166 from gf_row f432 (c166 hS) (s166 hS) rfl rfl, show FI430 167 = FIv23 167 from gf_row f432 (c167 hS) (s167 hS) rfl rfl, show FI430 168 = FIv23 168 from gf_row f432 (c168 hS) (s168 hS) rfl rfl, show FI430 121 90 = FIv23 121 90 from gf_at f432 (c121 hS) (s121 hS) rfl rfl, show FI430 121 73 = FIv23 121 73 from gf_at f432 (c121 hS) (s121 hS) rfl rfl]; exact rl30
              obtain ⟨x437, h438⟩ : ∃ y, FI430 121 69 = y := ⟨_, rfl⟩
              have h438l := congrArg Int32.toInt h438
              have := i_rng x437
              show hw base _ _ _ _ _ [] _ _
              refine hw_aloadn (aX12_rows 28 rfl) rfl ?_
              refine hw_get (v := .int (x437)) (aX12_rows 29 rfl) wf_RX12_475 (c121 hS) (s121 hS) (by decide) (congrArg Value.int (show FI430 121 69 = x437 from h438)) ?_
              refine hw_ifeq (tgt := 62) (aX12_rows 30 rfl) (by decide) rfl (fun cd439 => ?_) (fun cd439 => ?_)
              · omega
              · refine xw_vret (aX12_rows 31 rfl) rfl ?_
                exact ⟨rfl, FI430, rfl, hI431, (gf_tr ex_rf fr24 f432 rfl rfl rfl), (by have := congrArg Int32.toInt (show FI430 121 67 = x4 from (gf_at f432 (c121 hS) (s121 hS) rfl (kp26))); have := congrArg Int32.toInt (show FI430 121 68 = x40 from (gf_at f432 (c121 hS) (s121 hS) rfl (h41))); omega), (by have := congrArg Int32.toInt (show FI430 121 68 = x40 from (gf_at f432 (c121 hS) (s121 hS) rfl (h41))); omega), (by have := congrArg Int32.toInt (show FI430 121 68 = x40 from (gf_at f432 (c121 hS) (s121 hS) rfl (h41))); have := congrArg Int32.toInt (show FI430 121 73 = x45 from (gf_at f432 (c121 hS) (s121 hS) rfl (h46))); omega), (by have := congrArg Int32.toInt (show FI430 121 73 = x45 from (gf_at f432 (c121 hS) (s121 hS) rfl (h46))); omega), (by have := congrArg Int32.toInt (show FI430 121 69 = x437 from h438); exact fun h => absurd h (by omega)), (show rl_pm (FI430 121 90) (FI430 121 73) (FI430 166) (FI430 167) (FI430 168) from rl436)⟩
          · refine hw_aloadn (aX12_rows 14 rfl) rfl ?_
            refine hw_ic (v := (1 : Int32)) (aX12_rows 15 rfl) (by decide) ?_
            refine hw_callV (Bs := [.int ((1 : Int32))]) (rest := []) (aX12_rows 16 rfl) wc_RX12_487 (by decide) rfl wi_yX12_fail wv_yX12_fail (c121 hS) (s121 hS) rfl rfl rfl (Nat.le_of_ble_eq_true rfl) (Nat.le_of_ble_eq_true rfl) (n_fail (d := d + 8) hS hF hI25 ((1 : Int32)) (by have := ((by decide : (1 : Int32).toInt = 1) : ((1 : Int32)).toInt = 1); omega)) (fun v440 sv441 p442 => ?_)
            obtain ⟨rfl, FI444, rfl, hI445, f446, t447⟩ := p442
            have rl448 : rl_e (FI444 149) (FI444 121 67) := by rw [show FI444 149 = FIv23 149 from gf_row f446 (c149 hS) (s149 hS) rfl rfl, show FI444 121 67 = FIv23 121 67 from gf_at f446 (c121 hS) (s121 hS) rfl rfl]; exact rl28
            have rl449 : rl_t (FI444 149) (FL 150) := by rw [show FI444 149 = FIv23 149 from gf_row f446 (c149 hS) (s149 hS) rfl rfl]; exact rl29
            have rl450 : rl_pm (FI444 121 90) (FI444 121 73) (FI444 166) (FI444 167) (FI444 168) := by rw [show FI444 166 = FIv23 166 from gf_row f446 (c166 hS) (s166 hS) rfl rfl, show FI444 167 = FIv23 167 from gf_row f446 (c167 hS) (s167 hS) rfl rfl, show FI444 168 = FIv23 168 from gf_row f446 (c168 hS) (s168 hS) rfl rfl, show FI444 121 90 = FIv23 121 90 from gf_at f446 (c121 hS) (s121 hS) rfl rfl, show FI444 121 73 = FIv23 121 73 from gf_at f446 (c121 hS) (s121 hS) rfl rfl]; exact rl30
            obtain ⟨x451, h452⟩ : ∃ y, FI444 121 69 = y := ⟨_, rfl⟩
            have h452l := congrArg Int32.toInt h452
            have := i_rng x451
            show hw base _ _ _ _ _ [] _ _
            refine xw_goto (tgt := 54) (aX12_rows 17 rfl) (by decide) ?_
            refine hw_aloadn (aX12_rows 28 rfl) rfl ?_
            refine hw_get (v := .int (x451)) (aX12_rows 29 rfl) wf_RX12_475 (c121 hS) (s121 hS) (by decide) (congrArg Value.int (show FI444 121 69 = x451 from h452)) ?_
            refine hw_ifeq (tgt := 62) (aX12_rows 30 rfl) (by decide) rfl (fun cd453 => ?_) (fun cd453 => ?_)
            · omega
            · refine xw_vret (aX12_rows 31 rfl) rfl ?_
              exact ⟨rfl, FI444, rfl, hI445, (gf_tr ex_rf fr24 f446 rfl rfl rfl), (by have := congrArg Int32.toInt (show FI444 121 67 = x4 from (gf_at f446 (c121 hS) (s121 hS) rfl (kp26))); have := congrArg Int32.toInt (show FI444 121 68 = x40 from (gf_at f446 (c121 hS) (s121 hS) rfl (h41))); omega), (by have := congrArg Int32.toInt (show FI444 121 68 = x40 from (gf_at f446 (c121 hS) (s121 hS) rfl (h41))); omega), (by have := congrArg Int32.toInt (show FI444 121 68 = x40 from (gf_at f446 (c121 hS) (s121 hS) rfl (h41))); have := congrArg Int32.toInt (show FI444 121 73 = x45 from (gf_at f446 (c121 hS) (s121 hS) rfl (h46))); omega), (by have := congrArg Int32.toInt (show FI444 121 73 = x45 from (gf_at f446 (c121 hS) (s121 hS) rfl (h46))); omega), (by have := congrArg Int32.toInt (show FI444 121 69 = x451 from h452); exact fun h => absurd h (by omega)), (show rl_pm (FI444 121 90) (FI444 121 73) (FI444 166) (FI444 167) (FI444 168) from rl450)⟩
      exact hw_L (lp39 ((1001 - (x1).toInt : Int).toNat + 1) FI gf_rf hI (show FI 121 67 = x4 from h5) (show FI 121 78 = x14 from h15) (show rl_e (FI 149) (FI 121 67) from rel_tend) (show rl_t (FI 149) (FL 150) from rel_tok) (show rl_pm (FI 121 90) (FI 121 73) (FI 166) (FI 167) (FI 168) from rel_pm) (by have := congrArg Int32.toInt (show FI 121 68 = x1 from h2); omega) (by have := congrArg Int32.toInt (show FI 121 69 = x7 from h8); omega) (by have := congrArg Int32.toInt (show FI 121 67 = x4 from h5); have := congrArg Int32.toInt (show FI 121 68 = x1 from h2); omega) (by have := congrArg Int32.toInt (show FI 121 68 = x1 from h2); omega) (by have := congrArg Int32.toInt (show FI 121 68 = x1 from h2); have := congrArg Int32.toInt (show FI 121 73 = x9 from h10); omega) (by have := congrArg Int32.toInt (show FI 121 73 = x9 from h10); omega) (by have := congrArg Int32.toInt (show FI 121 71 = x12 from h13); omega) (show gr_rws (kf (FI 149)) (wf (FL 150)) ((FI 159 (FI 121 78).toNatClampNeg).toInt).toNat (FI 121 68).toInt.toNat ((FI 121 68).toInt).toNat from (by have := congrArg Int32.toInt (show FI 121 68 = x1 from h2); exact (by { have := congrArg Int32.toInt (show FI 159 (FI 121 78).toNatClampNeg = x19 from (by rw [show FI 121 78 = x14 from h15]; exact h20)); rw [show ((FI 159 (FI 121 78).toNatClampNeg).toInt).toNat = 0 by omega, show ((FI 121 68).toInt).toNat = (FI 121 68).toInt.toNat by omega]; rfl }))) (show FI 149 = FI 149 from rfl) (by have := congrArg Int32.toInt (show FI 121 68 = x1 from h2); omega)) ⟨rfl, trivial⟩
