section
def nX12_rows : Nat := 0xb1f901b60810092af901b60810092ac4fea7de01b56004de01b42a2a0d00991b3c030400a704070099e401b62c102a10009adb01b42a4f60042e0302b42a8700b42a0302b42a8700b42a4f7eff00117a08100515600404157800b42a4f7eff0011051504157800b42a2200a3a00f11ed01b42a05366405640415ed01b42a1402b62ab1040099db01b42af901b605092a0436ed01b42a0f02b63a102ade01b56004de01b42a2af901b608102fde01b42a6c00b42a2af901b60810202ab1040099db01b42ae701b6062a08009d94202fde01b42a6c00b42a16009adb01b42ae701b6042a08009f062ede01b42a6900b42a15009adb01b42a0f02b60001112ade01b56004de01b42a2a412fde01b42a6c00b42ab1040099db01b42ae701b606102a0900a008102e0302b42a8700b42a1700a7e701b6042a0b009f062ede01b42a6900b42a37019adb01b42a3e01991b3c04
theorem bX12_rows : cX12_rows.data.toList.map UInt8.toNat = x_un nX12_rows 336 := by decide +kernel
def iX12_rows : List (Nat × Jvm.ClassFile.Instr × Nat) := [(0, .iconst 1, 1), (1, .istore_n 1, 1), (2, .iload_n 1, 1), (3, .ifCond .eq 318, 3), (6, .aload_n 0, 1), (7, .getfield 475, 3), (10, .ifCond .ne 311, 3), (13, .aload_n 0, 1), (14, .getfield 105, 3), (17, .aload_n 0, 1), (18, .getfield 478, 3), (21, .iaload, 1), (22, .iconst 3, 1), (23, .if_icmp .eq 11, 3), (26, .aload_n 0, 1), (27, .iconst 1, 1), (28, .invokevirtual 487, 3), (31, .goto 23, 3), (34, .aload_n 0, 1), (35, .getfield 135, 3), (38, .aload_n 0, 1), (39, .getfield 515, 3), (42, .iaload, 1), (43, .bipush 8, 2), (45, .if_icmp .ne 9, 3), (48, .aload_n 0, 1), (49, .bipush 6, 2), (51, .invokevirtual 487, 3), (54, .aload_n 0, 1), (55, .getfield 475, 3), (58, .ifCond .eq 4, 3), (61, .return_, 1), (62, .aload_n 0, 1), (63, .getfield 108, 3), (66, .aload_n 0, 1), (67, .getfield 478, 3), (70, .laload, 1), (71, .lstore_n 2, 1), (72, .aload_n 0, 1), (73, .aload_n 0, 1), (74, .getfield 478, 3), (77, .iconst 1, 1), (78, .iadd, 1), (79, .putfield 478, 3), (82, .aload_n 0, 1), (83, .sipush 256, 3), (86, .invokevirtual 527, 3), (89, .aload_n 0, 1), (90, .getfield 475, 3), (93, .ifCond .ne 21, 3), (96, .aload_n 0, 1), (97, .getfield 105, 3), (100, .aload_n 0, 1), (101, .getfield 478, 3), (104, .iaload, 1), (105, .iconst 3, 1), (106, .if_icmp .eq 8, 3), (109, .aload_n 0, 1), (110, .iconst 1, 1), (111, .invokevirtual 487, 3), (114, .aload_n 0, 1), (115, .getfield 475, 3), (118, .ifCond .ne 22, 3), (121, .aload_n 0, 1), (122, .getfield 108, 3), (125, .aload_n 0, 1), (126, .getfield 478, 3), (129, .laload, 1), (130, .lload_n 2, 1), (131, .lcmp, 1), (132, .ifCond .gt 8, 3), (135, .aload_n 0, 1), (136, .iconst 3, 1), (137, .invokevirtual 487, 3), (140, .aload_n 0, 1), (141, .getfield 475, 3), (144, .ifCond .eq 4, 3), (147, .return_, 1), (148, .aload_n 0, 1), (149, .lload_n 2, 1), (150, .bipush 8, 2), (152, .invokevirtual 505, 3), (155, .aload_n 0, 1), (156, .aload_n 0, 1), (157, .getfield 108, 3), (160, .aload_n 0, 1), (161, .getfield 478, 3), (164, .laload, 1), (165, .bipush 8, 2), (167, .invokevirtual 505, 3), (170, .aload_n 0, 1), (171, .aload_n 0, 1), (172, .getfield 478, 3), (175, .iconst 1, 1), (176, .iadd, 1), (177, .putfield 478, 3), (180, .aload_n 0, 1), (181, .bipush 58, 2), (183, .invokevirtual 527, 3), (186, .aload_n 0, 1), (187, .getfield 493, 3), (190, .istore 4, 2), (192, .aload_n 0, 1), (193, .lconst 0, 1), (194, .iconst 2, 1), (195, .invokevirtual 505, 3), (198, .aload_n 0, 1), (199, .getfield 475, 3), (202, .ifCond .eq 4, 3), (205, .return_, 1), (206, .aload_n 0, 1), (207, .invokevirtual 532, 3), (210, .aload_n 0, 1), (211, .getfield 493, 3), (214, .iload 4, 2), (216, .isub, 1), (217, .iconst 2, 1), (218, .isub, 1), (219, .istore 5, 2), (221, .aload_n 0, 1), (222, .getfield 493, 3), (225, .sipush 4000, 3), (228, .if_icmp .gt 34, 3), (231, .aload_n 0, 1), (232, .getfield 120, 3), (235, .iload 4, 2), (237, .iload 5, 2), (239, .sipush 255, 3), (242, .iand, 1), (243, .iastore, 1), (244, .aload_n 0, 1), (245, .getfield 120, 3), (248, .iload 4, 2), (250, .iconst 1, 1), (251, .iadd, 1), (252, .iload 5, 2), (254, .bipush 8, 2), (256, .ishr, 1), (257, .sipush 255, 3), (260, .iand, 1), (261, .iastore, 1), (262, .aload_n 0, 1), (263, .getfield 135, 3), (266, .aload_n 0, 1), (267, .getfield 515, 3), (270, .aload_n 0, 1), (271, .getfield 135, 3), (274, .aload_n 0, 1), (275, .getfield 515, 3), (278, .iaload, 1), (279, .iconst 1, 1), (280, .iadd, 1), (281, .iastore, 1), (282, .aload_n 0, 1), (283, .getfield 475, 3), (286, .ifCond .ne 16, 3), (289, .aload_n 0, 1), (290, .bipush 44, 2), (292, .invokevirtual 484, 3), (295, .ifCond .eq 7, 3), (298, .iconst 1, 1), (299, .goto 4, 3), (302, .iconst 0, 1), (303, .istore_n 1, 1), (304, .iload_n 1, 1), (305, .ifCond .eq 13, 3), (308, .aload_n 0, 1), (309, .aload_n 0, 1), (310, .getfield 478, 3), (313, .iconst 1, 1), (314, .iadd, 1), (315, .putfield 478, 3), (318, .goto (-316), 3), (321, .aload_n 0, 1), (322, .lconst 0, 1), (323, .bipush 8, 2), (325, .invokevirtual 505, 3), (328, .aload_n 0, 1), (329, .lconst 0, 1), (330, .bipush 8, 2), (332, .invokevirtual 505, 3), (335, .return_, 1)]
theorem dX12_rows : x_il nX12_rows 336 iX12_rows = true := by decide +kernel
theorem aX12_rows (k : Nat) {pc : Nat} {i : Jvm.ClassFile.Instr} {len : Nat} (hk : iX12_rows[k]? = some (pc, i, len)) : x_at xMM 227 pc i len yX12_rows 6 none := ⟨cX12_rows, rfl, x_il_ok bX12_rows dX12_rows k hk⟩
set_option maxHeartbeats 4000000 in
set_option maxRecDepth 100000 in
theorem n_rows {zk : xK} {base d n sl : Nat} {SH : Nat → Nat × Nat} {FI : Nat → Nat → Int32} {FL : Nat → Nat → Int64} {FR : Nat → Nat → Option Nat} (hS : h_S n SH) (hF : h_FR FR) (hI : g_I FI) (g0 : (FI 121 68).toInt < (FI 121 67).toInt - 1) (g1 : (FI 121 69).toInt = 0) (g2 : (FI 121 73).toInt ≤ 20 * (FI 121 68).toInt + 60) (g3 : (FI 121 71).toInt = 0) (g4 : (FI 121 78).toInt ≤ 11) (gg0 : (FI 159 (FI 121 78).toNatClampNeg).toInt = 0) (rel_tend : rl_e (FI 149) (FI 121 67)) (rel_tok : rl_t (FI 149) (FL 150)) (rel_wh : rl_w (FI 121 67) (FI 149) (FL 150) (FI 151)) : hw zk base (d + 9) none 227 0 [(0, .ref (base + 121))] [] (n, sl, SH, FI, FL, FR) (h_V (fun s => ∃ FI', s = (n, sl, SH, FI', FL, FR) ∧ g_I FI' ∧ g_fr n SH [(121, 68), (121, 69), (121, 70), (121, 71), (121, 73), (121, 90), (121, 91)] [154, 159, 163, 164, 165, 166, 167, 168] [] FI FI' ∧ ((FI' 121 68).toInt ≤ (FI' 121 67).toInt - 1) ∧ ((FI 121 68).toInt ≤ (FI' 121 68).toInt) ∧ ((FI' 121 73).toInt ≤ (FI 121 73).toInt + 20 * ((FI' 121 68).toInt - (FI 121 68).toInt) + 16) ∧ ((FI 121 73).toInt ≤ (FI' 121 73).toInt) ∧ ((FI' 121 69).toInt = 0 → gr_rws (kf (FI 149)) (wf (FL 150)) ((FI' 159 (FI 121 78).toNatClampNeg).toInt).toNat (FI 121 68).toInt.toNat ((FI' 121 68).toInt.toNat + 1) ∧ 1 ≤ (FI' 159 (FI 121 78).toNatClampNeg).toInt) ∧ ((FI' 121 69).toInt = 0 → (FI' 121 73).toInt - 4 * wp (FI 151) (FI' 121 68) ≤ (FI 121 73).toInt - 4 * wp (FI 151) (FI 121 68) + 12) ∧ ((FI' 121 69).toInt = 0 → ∀ i : Nat, i ≠ (FI 121 78).toNatClampNeg → FI' 159 i = FI 159 i))) := by
  obtain ⟨x1, h2⟩ : ∃ y, FI 121 68 = y := ⟨_, rfl⟩
  have h2l := congrArg Int32.toInt h2
  have b3 := gI_121_68 hI; rw [h2] at b3
  obtain ⟨x4, h5⟩ : ∃ y, FI 121 67 = y := ⟨_, rfl⟩
  have h5l := congrArg Int32.toInt h5
  have b6 := gI_121_67 hI; rw [h5] at b6
  obtain ⟨x7, h8⟩ : ∃ y, FI 121 69 = y := ⟨_, rfl⟩
  have h8l := congrArg Int32.toInt h8
  have := i_rng x7
  obtain ⟨x9, h10⟩ : ∃ y, FI 121 73 = y := ⟨_, rfl⟩
  have h10l := congrArg Int32.toInt h10
  have b11 := gI_121_73 hI; rw [h10] at b11
  obtain ⟨x12, h13⟩ : ∃ y, FI 121 71 = y := ⟨_, rfl⟩
  have h13l := congrArg Int32.toInt h13
  have := i_rng x12
  obtain ⟨x14, h15⟩ : ∃ y, FI 121 78 = y := ⟨_, rfl⟩
  have h15l := congrArg Int32.toInt h15
  have b16 := gI_121_78 hI; rw [h15] at b16
  have e17 : 0 ≤ (x12).toInt ∧ (x12).toInt ≤ 0 := by omega
  have e18 : 0 ≤ (x7).toInt ∧ (x7).toInt ≤ 0 := by omega
  obtain ⟨x19, h20⟩ : ∃ y, FI 159 (x14).toNatClampNeg = y := ⟨_, rfl⟩
  have h20l := congrArg Int32.toInt h20
  have := i_rng x19
  have h159 : (x19).toInt = 0 := by have := gg0; rw [show FI 121 78 = x14 from h15, show FI 159 (x14).toNatClampNeg = x19 from h20] at this; exact this
  refine hw_ic (v := (1 : Int32)) (aX12_rows 0 rfl) (by decide) ?_
  refine xw_istoren (L2 := [(1, .int ((1 : Int32))), (0, .ref (base + 121))]) (aX12_rows 1 rfl) (by decide) rfl ?_
  refine xw_iloadn (aX12_rows 2 rfl) rfl ?_
  refine hw_ifeq (tgt := 321) (aX12_rows 3 rfl) (by decide) (by decide : (1 : Int32).toInt = 1) (fun cd21 => ?_) (fun cd21 => ?_)
  · omega
  · refine hw_aloadn (aX12_rows 4 rfl) rfl ?_
    refine hw_get (v := .int (x7)) (aX12_rows 5 rfl) wf_RX12_475 (c121 hS) (s121 hS) (by decide) (congrArg Value.int (show FI 121 69 = x7 from h8)) ?_
    refine hw_ifne (tgt := 321) (aX12_rows 6 rfl) (by decide) rfl (fun cd22 => ?_) (fun cd22 => ?_)
    · omega
    · have lp40 : ∀ (m : Nat) (FIv23 : Nat → Nat → Int32), (g_fr n SH [(121, 68), (121, 69), (121, 70), (121, 71), (121, 73), (121, 90), (121, 91)] [154, 159, 163, 164, 165, 166, 167, 168] [] FI FIv23) → (g_I FIv23) → (FIv23 121 67 = x4) → (FIv23 121 78 = x14) → (rl_e (FIv23 149) (FIv23 121 67)) → (rl_t (FIv23 149) (FL 150)) → (rl_w (FIv23 121 67) (FIv23 149) (FL 150) (FIv23 151)) → (0 ≤ (FIv23 121 68).toInt ∧ (FIv23 121 68).toInt ≤ 1000) → ((FIv23 121 69).toInt = 0) → ((FIv23 121 68).toInt ≤ (x4).toInt - 1) → ((FI 121 68).toInt ≤ (FIv23 121 68).toInt) → ((FIv23 121 73).toInt ≤ (FI 121 73).toInt + 20 * ((FIv23 121 68).toInt - (FI 121 68).toInt)) → ((FI 121 73).toInt ≤ (FIv23 121 73).toInt) → ((FIv23 121 71).toInt = 0) → (gr_rws (kf (FI 149)) (wf (FL 150)) ((FIv23 159 (FI 121 78).toNatClampNeg).toInt).toNat (FI 121 68).toInt.toNat ((FIv23 121 68).toInt).toNat) → ((FIv23 121 73).toInt - 4 * wp (FI 151) (FIv23 121 68) ≤ (FI 121 73).toInt - 4 * wp (FI 151) (FI 121 68)) → (∀ i : Nat, i ≠ (FI 121 78).toNatClampNeg → FIv23 159 i = FI 159 i) → (FIv23 149 = FI 149) → (FIv23 151 = FI 151) → 1001 - (FIv23 121 68).toInt < m → hw zk base (d + 9) none 227 13 [(0, .ref (base + 121))] [] (n, sl, SH, FIv23, FL, FR) (h_V (fun s => ∃ FI', s = (n, sl, SH, FI', FL, FR) ∧ g_I FI' ∧ g_fr n SH [(121, 68), (121, 69), (121, 70), (121, 71), (121, 73), (121, 90), (121, 91)] [154, 159, 163, 164, 165, 166, 167, 168] [] FI FI' ∧ ((FI' 121 68).toInt ≤ (FI' 121 67).toInt - 1) ∧ ((FI 121 68).toInt ≤ (FI' 121 68).toInt) ∧ ((FI' 121 73).toInt ≤ (FI 121 73).toInt + 20 * ((FI' 121 68).toInt - (FI 121 68).toInt) + 16) ∧ ((FI 121 73).toInt ≤ (FI' 121 73).toInt) ∧ ((FI' 121 69).toInt = 0 → gr_rws (kf (FI 149)) (wf (FL 150)) ((FI' 159 (FI 121 78).toNatClampNeg).toInt).toNat (FI 121 68).toInt.toNat ((FI' 121 68).toInt.toNat + 1) ∧ 1 ≤ (FI' 159 (FI 121 78).toNatClampNeg).toInt) ∧ ((FI' 121 69).toInt = 0 → (FI' 121 73).toInt - 4 * wp (FI 151) (FI' 121 68) ≤ (FI 121 73).toInt - 4 * wp (FI 151) (FI 121 68) + 12) ∧ ((FI' 121 69).toInt = 0 → ∀ i : Nat, i ≠ (FI 121 78).toNatClampNeg → FI' 159 i = FI 159 i))) := by
        intro m
        induction m with
        | zero => intro FIv23 fr24 hI25 kp26 kp27 rl28 rl29 rl30 iv31 iv32 iv33 iv34 iv35 iv36 iv37 xi13_0 xi13_1 xi13_2 rw38 rw39 hm; omega
        | succ m ih =>
          intro FIv23 fr24 hI25 kp26 kp27 rl28 rl29 rl30 iv31 iv32 iv33 iv34 iv35 iv36 iv37 xi13_0 xi13_1 xi13_2 rw38 rw39 hm
          have := congrArg Int32.toInt kp26
          have := congrArg Int32.toInt kp27
          obtain ⟨x41, h42⟩ : ∃ y, FIv23 121 68 = y := ⟨_, rfl⟩
          have h42l := congrArg Int32.toInt h42
          have b43 := gI_121_68 hI25; rw [h42] at b43
          obtain ⟨x44, h45⟩ : ∃ y, FIv23 121 69 = y := ⟨_, rfl⟩
          have h45l := congrArg Int32.toInt h45
          have := i_rng x44
          obtain ⟨x46, h47⟩ : ∃ y, FIv23 121 73 = y := ⟨_, rfl⟩
          have h47l := congrArg Int32.toInt h47
          have b48 := gI_121_73 hI25; rw [h47] at b48
          obtain ⟨x49, h50⟩ : ∃ y, FIv23 121 71 = y := ⟨_, rfl⟩
          have h50l := congrArg Int32.toInt h50
          have := i_rng x49
          refine hw_aloadn (aX12_rows 7 rfl) rfl ?_
          have e51 : 0 ≤ (x44).toInt ∧ (x44).toInt ≤ 0 := by omega
          have e52 : 0 ≤ (x49).toInt ∧ (x49).toInt ≤ 0 := by omega
          obtain ⟨x53, h54⟩ : ∃ y, FIv23 159 (x14).toNatClampNeg = y := ⟨_, rfl⟩
          have h54l := congrArg Int32.toInt h54
          have := i_rng x53
          have b159 := gI_159 hI25 (i_lt (x := x14) rfl (by omega) (by omega)); rw [show FIv23 159 (x14).toNatClampNeg = x53 from h54] at b159
          have := congrArg Int32.toInt (show FIv23 121 68 = x41 from h42)
          have := congrArg Int32.toInt (show FIv23 121 73 = x46 from h47)
          refine hw_get (v := .ref (base + 149)) (aX12_rows 8 rfl) wf_RX12_105 (c121 hS) (s121 hS) (by decide) (congrArg (fun r => va_rf (h_rf base r)) (r121_62 hF)) ?_
          refine hw_aloadn (aX12_rows 9 rfl) rfl ?_
          refine hw_get (v := .int (x41)) (aX12_rows 10 rfl) wf_RX12_478 (c121 hS) (s121 hS) (by decide) (congrArg Value.int (show FIv23 121 68 = x41 from h42)) ?_
          obtain ⟨x55, h56⟩ : ∃ y, FIv23 149 (x41).toNatClampNeg = y := ⟨_, rfl⟩
          have h56l := congrArg Int32.toInt h56
          have := i_rng x55
          refine hw_iald (v := x55) (aX12_rows 11 rfl) (c149 hS) (s149 hS) (h_in rfl (by omega) (by omega)) (show FIv23 149 (x41).toNatClampNeg = x55 from h56) ?_
          refine hw_ic (v := (3 : Int32)) (aX12_rows 12 rfl) (by decide) ?_
          refine hw_iceq (tgt := 34) (aX12_rows 13 rfl) (by decide) rfl (by decide : (3 : Int32).toInt = 3) (fun cd57 => ?_) (fun cd57 => ?_)
          · have := congrArg Int32.toInt (show FIv23 121 67 = x4 from kp26)
            have hne57 := rl_e_ne rl28 (t := x41) (by omega)
            refine hw_aloadn (aX12_rows 18 rfl) rfl ?_
            refine hw_get (v := .ref (base + 159)) (aX12_rows 19 rfl) wf_RX12_135 (c121 hS) (s121 hS) (by decide) (congrArg (fun r => va_rf (h_rf base r)) (r121_80 hF)) ?_
            refine hw_aloadn (aX12_rows 20 rfl) rfl ?_
            refine hw_get (v := .int (x14)) (aX12_rows 21 rfl) wf_RX12_515 (c121 hS) (s121 hS) (by decide) (congrArg Value.int (show FIv23 121 78 = x14 from kp27)) ?_
            refine hw_iald (v := x53) (aX12_rows 22 rfl) (c159 hS) (s159 hS) (h_in rfl (by omega) (by omega)) (show FIv23 159 (x14).toNatClampNeg = x53 from h54) ?_
            refine hw_bp (v := (8 : Int32)) (aX12_rows 23 rfl) (by decide) ?_
            refine hw_icne (tgt := 54) (aX12_rows 24 rfl) (by decide) rfl (by decide : (8 : Int32).toInt = 8) (fun cd58 => ?_) (fun cd58 => ?_)
            · refine hw_aloadn (aX12_rows 28 rfl) rfl ?_
              refine hw_get (v := .int (x44)) (aX12_rows 29 rfl) wf_RX12_475 (c121 hS) (s121 hS) (by decide) (congrArg Value.int (show FIv23 121 69 = x44 from h45)) ?_
              refine hw_ifeq (tgt := 62) (aX12_rows 30 rfl) (by decide) rfl (fun cd59 => ?_) (fun cd59 => ?_)
              · refine hw_aloadn (aX12_rows 32 rfl) rfl ?_
                refine hw_get (v := .ref (base + 150)) (aX12_rows 33 rfl) wf_RX12_108 (c121 hS) (s121 hS) (by decide) (congrArg (fun r => va_rf (h_rf base r)) (r121_63 hF)) ?_
                refine hw_aloadn (aX12_rows 34 rfl) rfl ?_
                refine hw_get (v := .int (x41)) (aX12_rows 35 rfl) wf_RX12_478 (c121 hS) (s121 hS) (by decide) (congrArg Value.int (show FIv23 121 68 = x41 from h42)) ?_
                obtain ⟨x60, h61⟩ : ∃ y, FL 150 (x41).toNatClampNeg = y := ⟨_, rfl⟩
                have h61l := congrArg Int64.toInt h61
                have := l_rng x60
                refine hw_lald (v := x60) (aX12_rows 36 rfl) (c150 hS) (s150 hS) (h_in rfl (by omega) (by omega)) (show FL 150 (x41).toNatClampNeg = x60 from h61) ?_
                refine xw_lstoren (L2 := [(2, .long (x60)), (0, .ref (base + 121))]) (aX12_rows 37 rfl) (by decide) rfl ?_
                refine hw_aloadn (aX12_rows 38 rfl) rfl ?_
                refine hw_aloadn (aX12_rows 39 rfl) rfl ?_
                refine hw_get (v := .int (x41)) (aX12_rows 40 rfl) wf_RX12_478 (c121 hS) (s121 hS) (by decide) (congrArg Value.int (show FIv23 121 68 = x41 from h42)) ?_
                refine hw_ic (v := (1 : Int32)) (aX12_rows 41 rfl) (by decide) ?_
                refine xw_iadd (aX12_rows 42 rfl) ?_
                refine hw_tie (A := ((x41).toInt) + (1)) (i_add rfl (by decide : (1 : Int32).toInt = 1) (by omega) (by omega)) (fun x62 e63 => ?_)
                refine hv_puti (aX12_rows 43 rfl) wf_RX12_478 (c121 hS) (s121 hS) (by decide) rfl rfl (fun FI64 u65 => ?_)
                have rl66 : rl_e (FI64 149) (FI64 121 67) := by rw [show FI64 149 = FIv23 149 from up_row u65 (by decide) rfl, show FI64 121 67 = FIv23 121 67 from up_k u65 (by decide) rfl]; exact rl28
                have rl67 : rl_t (FI64 149) (FL 150) := by rw [show FI64 149 = FIv23 149 from up_row u65 (by decide) rfl]; exact rl29
                have rl68 : rl_w (FI64 121 67) (FI64 149) (FL 150) (FI64 151) := by rw [show FI64 149 = FIv23 149 from up_row u65 (by decide) rfl, show FI64 151 = FIv23 151 from up_row u65 (by decide) rfl, show FI64 121 67 = FIv23 121 67 from up_k u65 (by decide) rfl]; exact rl30
                have hI69 : g_I FI64 := gU_121_68 hI25 u65 (by have := (e63 : (x62).toInt = ((x41).toInt) + (1)); omega) (by have := (e63 : (x62).toInt = ((x41).toInt) + (1)); omega)
                refine hw_aloadn (aX12_rows 44 rfl) rfl ?_
                refine hw_sp (v := (256 : Int32)) (aX12_rows 45 rfl) (by decide) ?_
                have := congrArg Int32.toInt (show FI64 121 68 = x62 from up_eq u65)
                refine hw_callV (Bs := [.int ((256 : Int32))]) (rest := []) (aX12_rows 46 rfl) wc_RX12_527 (by decide) rfl wi_yX12_need wv_yX12_need (c121 hS) (s121 hS) rfl rfl rfl (Nat.le_of_ble_eq_true rfl) (Nat.le_of_ble_eq_true rfl) (n_need (d := d + 7) hS hF hI69 ((256 : Int32)) (by have := congrArg Int32.toInt (show FI64 121 68 = x62 from up_eq u65); have := (e63 : (x62).toInt = ((x41).toInt) + (1)); have := congrArg Int32.toInt (show FI64 121 67 = x4 from (up_k u65 (by decide) (kp26))); omega) (show rl_e (FI64 149) (FI64 121 67) from rl66)) (fun v70 sv71 p72 => ?_)
                have := congrArg Int32.toInt (show FI64 121 68 = x62 from up_eq u65)
                have := (e63 : (x62).toInt = ((x41).toInt) + (1))
                have := congrArg Int32.toInt (show FI64 121 69 = x44 from (up_k u65 (by decide) (h45)))
                have := congrArg Int32.toInt (show FI64 121 68 = x62 from up_eq u65)
                have := (e63 : (x62).toInt = ((x41).toInt) + (1))
                have := congrArg Int32.toInt (show FI64 121 68 = x62 from up_eq u65)
                have := (e63 : (x62).toInt = ((x41).toInt) + (1))
                obtain ⟨rfl, FI74, rfl, hI75, f76, t77, t78, t79, u80⟩ := p72
                have rl81 : rl_e (FI74 149) (FI74 121 67) := by rw [show FI74 149 = FI64 149 from gf_row f76 (c149 hS) (s149 hS) rfl rfl, show FI74 121 67 = FI64 121 67 from gf_at f76 (c121 hS) (s121 hS) rfl rfl]; exact rl66
                have rl82 : rl_t (FI74 149) (FL 150) := by rw [show FI74 149 = FI64 149 from gf_row f76 (c149 hS) (s149 hS) rfl rfl]; exact rl67
                have rl83 : rl_w (FI74 121 67) (FI74 149) (FL 150) (FI74 151) := by rw [show FI74 149 = FI64 149 from gf_row f76 (c149 hS) (s149 hS) rfl rfl, show FI74 151 = FI64 151 from gf_row f76 (c151 hS) (s151 hS) rfl rfl, show FI74 121 67 = FI64 121 67 from gf_at f76 (c121 hS) (s121 hS) rfl rfl]; exact rl68
                obtain ⟨x84, h85⟩ : ∃ y, FI74 121 68 = y := ⟨_, rfl⟩
                have h85l := congrArg Int32.toInt h85
                have b86 := gI_121_68 hI75; rw [h85] at b86
                have := congrArg Int32.toInt (show FI74 121 67 = x4 from (gf_at f76 (c121 hS) (s121 hS) rfl ((up_k u65 (by decide) (kp26)))))
                obtain ⟨x87, h88⟩ : ∃ y, FI74 121 69 = y := ⟨_, rfl⟩
                have h88l := congrArg Int32.toInt h88
                have := i_rng x87
                show hw zk base _ _ _ _ _ [] _ _
                replace u80 := hid_i u80
                have := congrArg Int32.toInt (show FI74 121 68 = x84 from h85)
                have := congrArg Int32.toInt (show FI74 121 69 = x87 from h88)
                refine hw_aloadn (aX12_rows 47 rfl) rfl ?_
                refine hw_get (v := .int (x87)) (aX12_rows 48 rfl) wf_RX12_475 (c121 hS) (s121 hS) (by decide) (congrArg Value.int (show FI74 121 69 = x87 from h88)) ?_
                refine hw_ifne (tgt := 114) (aX12_rows 49 rfl) (by decide) rfl (fun cd89 => ?_) (fun cd89 => ?_)
                · refine hw_aloadn (aX12_rows 60 rfl) rfl ?_
                  refine hw_get (v := .int (x87)) (aX12_rows 61 rfl) wf_RX12_475 (c121 hS) (s121 hS) (by decide) (congrArg Value.int (show FI74 121 69 = x87 from h88)) ?_
                  refine hw_ifne (tgt := 140) (aX12_rows 62 rfl) (by decide) rfl (fun cd90 => ?_) (fun cd90 => ?_)
                  · refine hw_aloadn (aX12_rows 74 rfl) rfl ?_
                    refine hw_get (v := .int (x87)) (aX12_rows 75 rfl) wf_RX12_475 (c121 hS) (s121 hS) (by decide) (congrArg Value.int (show FI74 121 69 = x87 from h88)) ?_
                    refine hw_ifeq (tgt := 148) (aX12_rows 76 rfl) (by decide) rfl (fun cd91 => ?_) (fun cd91 => ?_)
                    · omega
                    · refine xw_vret (aX12_rows 77 rfl) rfl ?_
                      exact ⟨rfl, FI74, rfl, hI75, (gf_tr ex_rf (gf_f fr24 u65 (by decide)) f76 rfl rfl rfl), (by have := congrArg Int32.toInt (show FI74 121 67 = x4 from (gf_at f76 (c121 hS) (s121 hS) rfl ((up_k u65 (by decide) (kp26))))); have := congrArg Int32.toInt (show FI74 121 68 = x84 from h85); omega), (by have := congrArg Int32.toInt (show FI74 121 68 = x84 from h85); omega), (by have := congrArg Int32.toInt (show FI74 121 68 = x84 from h85); have := congrArg Int32.toInt (show FI74 121 73 = x46 from (gf_at f76 (c121 hS) (s121 hS) rfl ((up_k u65 (by decide) (h47))))); omega), (by have := congrArg Int32.toInt (show FI74 121 73 = x46 from (gf_at f76 (c121 hS) (s121 hS) rfl ((up_k u65 (by decide) (h47))))); omega), (by have := congrArg Int32.toInt (show FI74 121 69 = x87 from h88); exact fun h => absurd h (by omega)), (by have := congrArg Int32.toInt (show FI74 121 69 = x87 from h88); exact fun h => absurd h (by omega)), (by have := congrArg Int32.toInt (show FI74 121 69 = x87 from h88); exact fun h => absurd h (by omega))⟩
                  · omega
                · refine hw_aloadn (aX12_rows 50 rfl) rfl ?_
                  refine hw_get (v := .ref (base + 149)) (aX12_rows 51 rfl) wf_RX12_105 (c121 hS) (s121 hS) (by decide) (congrArg (fun r => va_rf (h_rf base r)) (r121_62 hF)) ?_
                  refine hw_aloadn (aX12_rows 52 rfl) rfl ?_
                  refine hw_get (v := .int (x84)) (aX12_rows 53 rfl) wf_RX12_478 (c121 hS) (s121 hS) (by decide) (congrArg Value.int (show FI74 121 68 = x84 from h85)) ?_
                  obtain ⟨x92, h93⟩ : ∃ y, FI74 149 (x84).toNatClampNeg = y := ⟨_, rfl⟩
                  have h93l := congrArg Int32.toInt h93
                  have := i_rng x92
                  refine hw_iald (v := x92) (aX12_rows 54 rfl) (c149 hS) (s149 hS) (h_in rfl (by omega) (by omega)) (show FI74 149 (x84).toNatClampNeg = x92 from h93) ?_
                  refine hw_ic (v := (3 : Int32)) (aX12_rows 55 rfl) (by decide) ?_
                  refine hw_iceq (tgt := 114) (aX12_rows 56 rfl) (by decide) rfl (by decide : (3 : Int32).toInt = 3) (fun cd94 => ?_) (fun cd94 => ?_)
                  · refine hw_aloadn (aX12_rows 60 rfl) rfl ?_
                    refine hw_get (v := .int (x87)) (aX12_rows 61 rfl) wf_RX12_475 (c121 hS) (s121 hS) (by decide) (congrArg Value.int (show FI74 121 69 = x87 from h88)) ?_
                    refine hw_ifne (tgt := 140) (aX12_rows 62 rfl) (by decide) rfl (fun cd95 => ?_) (fun cd95 => ?_)
                    · omega
                    · have := congrArg Int32.toInt (show FI74 121 67 = x4 from (gf_at f76 (c121 hS) (s121 hS) rfl ((up_k u65 (by decide) (kp26)))))
                      have hne95 := rl_e_ne rl81 (t := x84) (by omega)
                      refine hw_aloadn (aX12_rows 63 rfl) rfl ?_
                      refine hw_get (v := .ref (base + 150)) (aX12_rows 64 rfl) wf_RX12_108 (c121 hS) (s121 hS) (by decide) (congrArg (fun r => va_rf (h_rf base r)) (r121_63 hF)) ?_
                      refine hw_aloadn (aX12_rows 65 rfl) rfl ?_
                      refine hw_get (v := .int (x84)) (aX12_rows 66 rfl) wf_RX12_478 (c121 hS) (s121 hS) (by decide) (congrArg Value.int (show FI74 121 68 = x84 from h85)) ?_
                      obtain ⟨x96, h97⟩ : ∃ y, FL 150 (x84).toNatClampNeg = y := ⟨_, rfl⟩
                      have h97l := congrArg Int64.toInt h97
                      have := l_rng x96
                      refine hw_lald (v := x96) (aX12_rows 67 rfl) (c150 hS) (s150 hS) (h_in rfl (by omega) (by omega)) (show FL 150 (x84).toNatClampNeg = x96 from h97) ?_
                      refine xw_lloadn (aX12_rows 68 rfl) rfl ?_
                      refine hw_lcgt (tgt := 140) (aX12_rows 69 rfl) (aX12_rows 70 rfl) (by decide) rfl rfl (fun cd98 => ?_) (fun cd98 => ?_)
                      · refine hw_aloadn (aX12_rows 74 rfl) rfl ?_
                        refine hw_get (v := .int (x87)) (aX12_rows 75 rfl) wf_RX12_475 (c121 hS) (s121 hS) (by decide) (congrArg Value.int (show FI74 121 69 = x87 from h88)) ?_
                        refine hw_ifeq (tgt := 148) (aX12_rows 76 rfl) (by decide) rfl (fun cd99 => ?_) (fun cd99 => ?_)
                        · refine hw_aloadn (aX12_rows 78 rfl) rfl ?_
                          refine xw_lloadn (aX12_rows 79 rfl) rfl ?_
                          refine hw_bp (v := (8 : Int32)) (aX12_rows 80 rfl) (by decide) ?_
                          refine hw_callV (Bs := [.long (x60), .int ((8 : Int32))]) (rest := []) (aX12_rows 81 rfl) wc_RX12_505 (by decide) rfl wi_yX12_emits wv_yX12_emits (c121 hS) (s121 hS) rfl rfl rfl (Nat.le_of_ble_eq_true rfl) (Nat.le_of_ble_eq_true rfl) (n_emits0 (d := d + 7) hS hF hI75 (x60) ((8 : Int32)) (by have := congrArg Int32.toInt (show FI74 121 73 = x46 from (gf_at f76 (c121 hS) (s121 hS) rfl ((up_k u65 (by decide) (h47))))); omega) (by have := ((by decide : (8 : Int32).toInt = 8) : ((8 : Int32)).toInt = 8); have := ((by decide : (8 : Int32).toInt = 8) : ((8 : Int32)).toInt = 8); omega)) (fun v100 sv101 p102 => ?_)
                          have := congrArg Int32.toInt (show FI74 121 73 = x46 from (gf_at f76 (c121 hS) (s121 hS) rfl ((up_k u65 (by decide) (h47)))))
                          have := ((by decide : (8 : Int32).toInt = 8) : ((8 : Int32)).toInt = 8)
                          obtain ⟨rfl, FI104, rfl, hI105, f106, t107⟩ := p102
                          have rl108 : rl_e (FI104 149) (FI104 121 67) := by rw [show FI104 149 = FI74 149 from gf_row f106 (c149 hS) (s149 hS) rfl rfl, show FI104 121 67 = FI74 121 67 from gf_at f106 (c121 hS) (s121 hS) rfl rfl]; exact rl81
                          have rl109 : rl_t (FI104 149) (FL 150) := by rw [show FI104 149 = FI74 149 from gf_row f106 (c149 hS) (s149 hS) rfl rfl]; exact rl82
                          have rl110 : rl_w (FI104 121 67) (FI104 149) (FL 150) (FI104 151) := by rw [show FI104 149 = FI74 149 from gf_row f106 (c149 hS) (s149 hS) rfl rfl, show FI104 151 = FI74 151 from gf_row f106 (c151 hS) (s151 hS) rfl rfl, show FI104 121 67 = FI74 121 67 from gf_at f106 (c121 hS) (s121 hS) rfl rfl]; exact rl83
                          obtain ⟨x111, h112⟩ : ∃ y, FI104 121 73 = y := ⟨_, rfl⟩
                          have h112l := congrArg Int32.toInt h112
                          have b113 := gI_121_73 hI105; rw [h112] at b113
                          show hw zk base _ _ _ _ _ [] _ _
                          refine hw_aloadn (aX12_rows 82 rfl) rfl ?_
                          refine hw_aloadn (aX12_rows 83 rfl) rfl ?_
                          refine hw_get (v := .ref (base + 150)) (aX12_rows 84 rfl) wf_RX12_108 (c121 hS) (s121 hS) (by decide) (congrArg (fun r => va_rf (h_rf base r)) (r121_63 hF)) ?_
                          refine hw_aloadn (aX12_rows 85 rfl) rfl ?_
                          refine hw_get (v := .int (x84)) (aX12_rows 86 rfl) wf_RX12_478 (c121 hS) (s121 hS) (by decide) (congrArg Value.int (show FI104 121 68 = x84 from (gf_at f106 (c121 hS) (s121 hS) rfl (h85)))) ?_
                          refine hw_lald (v := x96) (aX12_rows 87 rfl) (c150 hS) (s150 hS) (h_in rfl (by omega) (by omega)) (show FL 150 (x84).toNatClampNeg = x96 from h97) ?_
                          refine hw_bp (v := (8 : Int32)) (aX12_rows 88 rfl) (by decide) ?_
                          refine hw_callV (Bs := [.long (x96), .int ((8 : Int32))]) (rest := []) (aX12_rows 89 rfl) wc_RX12_505 (by decide) rfl wi_yX12_emits wv_yX12_emits (c121 hS) (s121 hS) rfl rfl rfl (Nat.le_of_ble_eq_true rfl) (Nat.le_of_ble_eq_true rfl) (n_emits0 (d := d + 7) hS hF hI105 (x96) ((8 : Int32)) (by have := congrArg Int32.toInt (show FI104 121 73 = x111 from h112); omega) (by have := ((by decide : (8 : Int32).toInt = 8) : ((8 : Int32)).toInt = 8); have := ((by decide : (8 : Int32).toInt = 8) : ((8 : Int32)).toInt = 8); omega)) (fun v114 sv115 p116 => ?_)
                          have := congrArg Int32.toInt (show FI104 121 73 = x111 from h112)
                          have := ((by decide : (8 : Int32).toInt = 8) : ((8 : Int32)).toInt = 8)
                          obtain ⟨rfl, FI118, rfl, hI119, f120, t121⟩ := p116
                          have rl122 : rl_e (FI118 149) (FI118 121 67) := by rw [show FI118 149 = FI104 149 from gf_row f120 (c149 hS) (s149 hS) rfl rfl, show FI118 121 67 = FI104 121 67 from gf_at f120 (c121 hS) (s121 hS) rfl rfl]; exact rl108
                          have rl123 : rl_t (FI118 149) (FL 150) := by rw [show FI118 149 = FI104 149 from gf_row f120 (c149 hS) (s149 hS) rfl rfl]; exact rl109
                          have rl124 : rl_w (FI118 121 67) (FI118 149) (FL 150) (FI118 151) := by rw [show FI118 149 = FI104 149 from gf_row f120 (c149 hS) (s149 hS) rfl rfl, show FI118 151 = FI104 151 from gf_row f120 (c151 hS) (s151 hS) rfl rfl, show FI118 121 67 = FI104 121 67 from gf_at f120 (c121 hS) (s121 hS) rfl rfl]; exact rl110
                          obtain ⟨x125, h126⟩ : ∃ y, FI118 121 73 = y := ⟨_, rfl⟩
                          have h126l := congrArg Int32.toInt h126
                          have b127 := gI_121_73 hI119; rw [h126] at b127
                          show hw zk base _ _ _ _ _ [] _ _
                          refine hw_aloadn (aX12_rows 90 rfl) rfl ?_
                          refine hw_aloadn (aX12_rows 91 rfl) rfl ?_
                          refine hw_get (v := .int (x84)) (aX12_rows 92 rfl) wf_RX12_478 (c121 hS) (s121 hS) (by decide) (congrArg Value.int (show FI118 121 68 = x84 from (gf_at f120 (c121 hS) (s121 hS) rfl ((gf_at f106 (c121 hS) (s121 hS) rfl (h85)))))) ?_
                          refine hw_ic (v := (1 : Int32)) (aX12_rows 93 rfl) (by decide) ?_
                          refine xw_iadd (aX12_rows 94 rfl) ?_
                          refine hw_tie (A := ((x84).toInt) + (1)) (i_add rfl (by decide : (1 : Int32).toInt = 1) (by omega) (by omega)) (fun x128 e129 => ?_)
                          refine hv_puti (aX12_rows 95 rfl) wf_RX12_478 (c121 hS) (s121 hS) (by decide) rfl rfl (fun FI130 u131 => ?_)
                          have rl132 : rl_e (FI130 149) (FI130 121 67) := by rw [show FI130 149 = FI118 149 from up_row u131 (by decide) rfl, show FI130 121 67 = FI118 121 67 from up_k u131 (by decide) rfl]; exact rl122
                          have rl133 : rl_t (FI130 149) (FL 150) := by rw [show FI130 149 = FI118 149 from up_row u131 (by decide) rfl]; exact rl123
                          have rl134 : rl_w (FI130 121 67) (FI130 149) (FL 150) (FI130 151) := by rw [show FI130 149 = FI118 149 from up_row u131 (by decide) rfl, show FI130 151 = FI118 151 from up_row u131 (by decide) rfl, show FI130 121 67 = FI118 121 67 from up_k u131 (by decide) rfl]; exact rl124
                          have hI135 : g_I FI130 := gU_121_68 hI119 u131 (by have := (e129 : (x128).toInt = ((x84).toInt) + (1)); omega) (by have := (e129 : (x128).toInt = ((x84).toInt) + (1)); omega)
                          refine hw_aloadn (aX12_rows 96 rfl) rfl ?_
                          refine hw_bp (v := (58 : Int32)) (aX12_rows 97 rfl) (by decide) ?_
                          refine hw_callV (Bs := [.int ((58 : Int32))]) (rest := []) (aX12_rows 98 rfl) wc_RX12_527 (by decide) rfl wi_yX12_need wv_yX12_need (c121 hS) (s121 hS) rfl rfl rfl (Nat.le_of_ble_eq_true rfl) (Nat.le_of_ble_eq_true rfl) (n_need (d := d + 7) hS hF hI135 ((58 : Int32)) (by have := congrArg Int32.toInt (show FI130 121 68 = x128 from up_eq u131); have := (e129 : (x128).toInt = ((x84).toInt) + (1)); have := congrArg Int32.toInt (show FI130 121 67 = x4 from (up_k u131 (by decide) ((gf_at f120 (c121 hS) (s121 hS) rfl ((gf_at f106 (c121 hS) (s121 hS) rfl ((gf_at f76 (c121 hS) (s121 hS) rfl ((up_k u65 (by decide) (kp26))))))))))); omega) (show rl_e (FI130 149) (FI130 121 67) from rl132)) (fun v136 sv137 p138 => ?_)
                          have := congrArg Int32.toInt (show FI130 121 68 = x128 from up_eq u131)
                          have := (e129 : (x128).toInt = ((x84).toInt) + (1))
                          have := congrArg Int32.toInt (show FI130 121 69 = x87 from (up_k u131 (by decide) ((gf_at f120 (c121 hS) (s121 hS) rfl ((gf_at f106 (c121 hS) (s121 hS) rfl (h88)))))))
                          have := congrArg Int32.toInt (show FI130 121 68 = x128 from up_eq u131)
                          have := (e129 : (x128).toInt = ((x84).toInt) + (1))
                          have := congrArg Int32.toInt (show FI130 121 68 = x128 from up_eq u131)
                          have := (e129 : (x128).toInt = ((x84).toInt) + (1))
                          obtain ⟨rfl, FI140, rfl, hI141, f142, t143, t144, t145, u146⟩ := p138
                          have rl147 : rl_e (FI140 149) (FI140 121 67) := by rw [show FI140 149 = FI130 149 from gf_row f142 (c149 hS) (s149 hS) rfl rfl, show FI140 121 67 = FI130 121 67 from gf_at f142 (c121 hS) (s121 hS) rfl rfl]; exact rl132
                          have rl148 : rl_t (FI140 149) (FL 150) := by rw [show FI140 149 = FI130 149 from gf_row f142 (c149 hS) (s149 hS) rfl rfl]; exact rl133
                          have rl149 : rl_w (FI140 121 67) (FI140 149) (FL 150) (FI140 151) := by rw [show FI140 149 = FI130 149 from gf_row f142 (c149 hS) (s149 hS) rfl rfl, show FI140 151 = FI130 151 from gf_row f142 (c151 hS) (s151 hS) rfl rfl, show FI140 121 67 = FI130 121 67 from gf_at f142 (c121 hS) (s121 hS) rfl rfl]; exact rl134
                          obtain ⟨x150, h151⟩ : ∃ y, FI140 121 68 = y := ⟨_, rfl⟩
                          have h151l := congrArg Int32.toInt h151
                          have b152 := gI_121_68 hI141; rw [h151] at b152
                          have := congrArg Int32.toInt (show FI140 121 67 = x4 from (gf_at f142 (c121 hS) (s121 hS) rfl ((up_k u131 (by decide) ((gf_at f120 (c121 hS) (s121 hS) rfl ((gf_at f106 (c121 hS) (s121 hS) rfl ((gf_at f76 (c121 hS) (s121 hS) rfl ((up_k u65 (by decide) (kp26)))))))))))))
                          obtain ⟨x153, h154⟩ : ∃ y, FI140 121 69 = y := ⟨_, rfl⟩
                          have h154l := congrArg Int32.toInt h154
                          have := i_rng x153
                          show hw zk base _ _ _ _ _ [] _ _
                          clear u146
                          refine hw_aloadn (aX12_rows 99 rfl) rfl ?_
                          refine hw_get (v := .int (x125)) (aX12_rows 100 rfl) wf_RX12_493 (c121 hS) (s121 hS) (by decide) (congrArg Value.int (show FI140 121 73 = x125 from (gf_at f142 (c121 hS) (s121 hS) rfl ((up_k u131 (by decide) (h126)))))) ?_
                          refine xw_istore (L2 := [(4, .int (x125)), (2, .long (x60)), (0, .ref (base + 121))]) (aX12_rows 101 rfl) (by decide) rfl ?_
                          refine hw_aloadn (aX12_rows 102 rfl) rfl ?_
                          refine hw_lc (v := (0 : Int64)) (aX12_rows 103 rfl) (by decide) ?_
                          refine hw_ic (v := (2 : Int32)) (aX12_rows 104 rfl) (by decide) ?_
                          refine hw_callV (Bs := [.long ((0 : Int64)), .int ((2 : Int32))]) (rest := []) (aX12_rows 105 rfl) wc_RX12_505 (by decide) rfl wi_yX12_emits wv_yX12_emits (c121 hS) (s121 hS) rfl rfl rfl (Nat.le_of_ble_eq_true rfl) (Nat.le_of_ble_eq_true rfl) (n_emits0 (d := d + 7) hS hF hI141 ((0 : Int64)) ((2 : Int32)) (by have := congrArg Int32.toInt (show FI140 121 73 = x125 from (gf_at f142 (c121 hS) (s121 hS) rfl ((up_k u131 (by decide) (h126))))); omega) (by have := ((by decide : (2 : Int32).toInt = 2) : ((2 : Int32)).toInt = 2); have := ((by decide : (2 : Int32).toInt = 2) : ((2 : Int32)).toInt = 2); omega)) (fun v155 sv156 p157 => ?_)
                          have := congrArg Int32.toInt (show FI140 121 73 = x125 from (gf_at f142 (c121 hS) (s121 hS) rfl ((up_k u131 (by decide) (h126)))))
                          have := ((by decide : (2 : Int32).toInt = 2) : ((2 : Int32)).toInt = 2)
                          obtain ⟨rfl, FI159, rfl, hI160, f161, t162⟩ := p157
                          have rl163 : rl_e (FI159 149) (FI159 121 67) := by rw [show FI159 149 = FI140 149 from gf_row f161 (c149 hS) (s149 hS) rfl rfl, show FI159 121 67 = FI140 121 67 from gf_at f161 (c121 hS) (s121 hS) rfl rfl]; exact rl147
                          have rl164 : rl_t (FI159 149) (FL 150) := by rw [show FI159 149 = FI140 149 from gf_row f161 (c149 hS) (s149 hS) rfl rfl]; exact rl148
                          have rl165 : rl_w (FI159 121 67) (FI159 149) (FL 150) (FI159 151) := by rw [show FI159 149 = FI140 149 from gf_row f161 (c149 hS) (s149 hS) rfl rfl, show FI159 151 = FI140 151 from gf_row f161 (c151 hS) (s151 hS) rfl rfl, show FI159 121 67 = FI140 121 67 from gf_at f161 (c121 hS) (s121 hS) rfl rfl]; exact rl149
                          obtain ⟨x166, h167⟩ : ∃ y, FI159 121 73 = y := ⟨_, rfl⟩
                          have h167l := congrArg Int32.toInt h167
                          have b168 := gI_121_73 hI160; rw [h167] at b168
                          show hw zk base _ _ _ _ _ [] _ _
                          refine hw_aloadn (aX12_rows 106 rfl) rfl ?_
                          refine hw_get (v := .int (x153)) (aX12_rows 107 rfl) wf_RX12_475 (c121 hS) (s121 hS) (by decide) (congrArg Value.int (show FI159 121 69 = x153 from (gf_at f161 (c121 hS) (s121 hS) rfl (h154)))) ?_
                          refine hw_ifeq (tgt := 206) (aX12_rows 108 rfl) (by decide) rfl (fun cd169 => ?_) (fun cd169 => ?_)
                          · refine hw_aloadn (aX12_rows 110 rfl) rfl ?_
                            have hkb := (hid_e u80) (by omega); rw [show FI64 149 = FI 149 from (up_row u65 (by decide) (rw38)), show ((256 : Int32)).toInt = (256 : Int) from by decide] at hkb
                            have hwb := wp_vc rel_wh (t := FI64 121 68) (u := FI74 121 68) (by omega); rw [wl_2 hkb.1 hkb.2] at hwb; clear hkb
                            have := congrArg Int32.toInt (show FI159 121 68 = x150 from (gf_at f161 (c121 hS) (s121 hS) rfl (h151)))
                            have := congrArg Int32.toInt (show FI159 121 69 = x153 from (gf_at f161 (c121 hS) (s121 hS) rfl (h154)))
                            have := congrArg Int32.toInt (show FI159 121 71 = x49 from (gf_at f161 (c121 hS) (s121 hS) rfl ((gf_at f142 (c121 hS) (s121 hS) rfl ((up_k u131 (by decide) ((gf_at f120 (c121 hS) (s121 hS) rfl ((gf_at f106 (c121 hS) (s121 hS) rfl ((gf_at f76 (c121 hS) (s121 hS) rfl ((up_k u65 (by decide) (h50)))))))))))))))
                            have := congrArg Int32.toInt (show FI159 121 73 = x166 from h167)
                            have hs1 := wp_nc rel_wh (t := FIv23 121 68) (u := FI64 121 68) (by omega); have hs2 := wp_nc rel_wh (t := FI74 121 68) (u := FI159 121 68) (by omega)
                            have hsg : (FI159 121 73).toInt + 2 - 4 * wp (FI 151) (FI159 121 68) ≤ (FIv23 121 73).toInt - 4 * wp (FI 151) (FIv23 121 68) := by omega
                            clear hs1 hs2 hwb
                            refine hw_callV (Bs := []) (rest := []) (aX12_rows 111 rfl) wc_RX12_532 (by decide) rfl wi_yX12_location wv_yX12_location (c121 hS) (s121 hS) rfl rfl rfl (Nat.le_of_ble_eq_true rfl) (Nat.le_of_ble_eq_true rfl) (n_location (d := d) hS hF hI160 (by have := congrArg Int32.toInt (show FI159 121 68 = x150 from (gf_at f161 (c121 hS) (s121 hS) rfl (h151))); have := congrArg Int32.toInt (show FI159 121 67 = x4 from (gf_at f161 (c121 hS) (s121 hS) rfl ((gf_at f142 (c121 hS) (s121 hS) rfl ((up_k u131 (by decide) ((gf_at f120 (c121 hS) (s121 hS) rfl ((gf_at f106 (c121 hS) (s121 hS) rfl ((gf_at f76 (c121 hS) (s121 hS) rfl ((up_k u65 (by decide) (kp26))))))))))))))); omega) (by have := congrArg Int32.toInt (show FI159 121 69 = x153 from (gf_at f161 (c121 hS) (s121 hS) rfl (h154))); omega) (by have := congrArg Int32.toInt (show FI159 121 73 = x166 from h167); have := congrArg Int32.toInt (show FI159 121 68 = x150 from (gf_at f161 (c121 hS) (s121 hS) rfl (h151))); omega) (by have := congrArg Int32.toInt (show FI159 121 71 = x49 from (gf_at f161 (c121 hS) (s121 hS) rfl ((gf_at f142 (c121 hS) (s121 hS) rfl ((up_k u131 (by decide) ((gf_at f120 (c121 hS) (s121 hS) rfl ((gf_at f106 (c121 hS) (s121 hS) rfl ((gf_at f76 (c121 hS) (s121 hS) rfl ((up_k u65 (by decide) (h50))))))))))))))); omega) (by have := congrArg Int32.toInt (show FI159 121 78 = x14 from (gf_at f161 (c121 hS) (s121 hS) rfl ((gf_at f142 (c121 hS) (s121 hS) rfl ((up_k u131 (by decide) ((gf_at f120 (c121 hS) (s121 hS) rfl ((gf_at f106 (c121 hS) (s121 hS) rfl ((gf_at f76 (c121 hS) (s121 hS) rfl ((up_k u65 (by decide) (kp27))))))))))))))); omega) (show rl_e (FI159 149) (FI159 121 67) from rl163) (show rl_t (FI159 149) (FL 150) from rl164) (show rl_w (FI159 121 67) (FI159 149) (FL 150) (FI159 151) from rl165)) (fun v170 sv171 p172 => ?_)
                            have := congrArg Int32.toInt (show FI159 121 68 = x150 from (gf_at f161 (c121 hS) (s121 hS) rfl (h151)))
                            have := congrArg Int32.toInt (show FI159 121 73 = x166 from h167)
                            have := congrArg Int32.toInt (show FI159 121 68 = x150 from (gf_at f161 (c121 hS) (s121 hS) rfl (h151)))
                            have := congrArg Int32.toInt (show FI159 121 73 = x166 from h167)
                            obtain ⟨rfl, FI174, rfl, hI175, f176, t177, t178, t179, t180, t181, u182, u183, u184⟩ := p172
                            have rl185 : rl_e (FI174 149) (FI174 121 67) := by rw [show FI174 149 = FI159 149 from gf_row f176 (c149 hS) (s149 hS) rfl rfl, show FI174 121 67 = FI159 121 67 from gf_at f176 (c121 hS) (s121 hS) rfl rfl]; exact rl163
                            have rl186 : rl_t (FI174 149) (FL 150) := by rw [show FI174 149 = FI159 149 from gf_row f176 (c149 hS) (s149 hS) rfl rfl]; exact rl164
                            have rl187 : rl_w (FI174 121 67) (FI174 149) (FL 150) (FI174 151) := by rw [show FI174 149 = FI159 149 from gf_row f176 (c149 hS) (s149 hS) rfl rfl, show FI174 151 = FI159 151 from gf_row f176 (c151 hS) (s151 hS) rfl rfl, show FI174 121 67 = FI159 121 67 from gf_at f176 (c121 hS) (s121 hS) rfl rfl]; exact rl165
                            obtain ⟨x188, h189⟩ : ∃ y, FI174 121 68 = y := ⟨_, rfl⟩
                            have h189l := congrArg Int32.toInt h189
                            have b190 := gI_121_68 hI175; rw [h189] at b190
                            have := congrArg Int32.toInt (show FI174 121 67 = x4 from (gf_at f176 (c121 hS) (s121 hS) rfl ((gf_at f161 (c121 hS) (s121 hS) rfl ((gf_at f142 (c121 hS) (s121 hS) rfl ((up_k u131 (by decide) ((gf_at f120 (c121 hS) (s121 hS) rfl ((gf_at f106 (c121 hS) (s121 hS) rfl ((gf_at f76 (c121 hS) (s121 hS) rfl ((up_k u65 (by decide) (kp26)))))))))))))))))
                            obtain ⟨x191, h192⟩ : ∃ y, FI174 121 73 = y := ⟨_, rfl⟩
                            have h192l := congrArg Int32.toInt h192
                            have b193 := gI_121_73 hI175; rw [h192] at b193
                            obtain ⟨x194, h195⟩ : ∃ y, FI174 121 71 = y := ⟨_, rfl⟩
                            have h195l := congrArg Int32.toInt h195
                            have := i_rng x194
                            show hw zk base _ _ _ _ _ [] _ _
                            obtain ⟨x196, h197⟩ : ∃ y, FI174 121 69 = y := ⟨_, rfl⟩
                            have h197l := congrArg Int32.toInt h197
                            have := i_rng x196
                            have := congrArg Int32.toInt (show FI174 121 69 = x196 from h197)
                            have := congrArg Int32.toInt (show FI174 121 68 = x188 from h189)
                            have := congrArg Int32.toInt (show FI174 121 71 = x194 from h195)
                            have := congrArg Int32.toInt (show FI174 121 73 = x191 from h192)
                            have hlw := u184; rw [show FI159 151 = FI 151 from (gf_row f161 (c151 hS) (s151 hS) rfl ((gf_row f142 (c151 hS) (s151 hS) rfl ((up_row u131 (by decide) ((gf_row f120 (c151 hS) (s151 hS) rfl ((gf_row f106 (c151 hS) (s151 hS) rfl ((gf_row f76 (c151 hS) (s151 hS) rfl ((up_row u65 (by decide) (rw39))))))))))))))] at hlw; have hsh : hid ((FI174 121 69).toInt = 0 → (FI174 121 73).toInt + 4 - 4 * wp (FI 151) (FI174 121 68) ≤ (FI 121 73).toInt - 4 * wp (FI 151) (FI 121 68)) := hid_i (fun h => by have := hlw h; have := xi13_1; omega); clear hlw hsg u184
                            have hgl := u182; rw [show FI159 149 = FI 149 from (gf_row f161 (c149 hS) (s149 hS) rfl ((gf_row f142 (c149 hS) (s149 hS) rfl ((up_row u131 (by decide) ((gf_row f120 (c149 hS) (s149 hS) rfl ((gf_row f106 (c149 hS) (s149 hS) rfl ((gf_row f76 (c149 hS) (s149 hS) rfl ((up_row u65 (by decide) (rw38)))))))))))))), show (FI159 121 68).toInt.toNat = (FIv23 121 68).toInt.toNat + 4 by omega] at hgl
                            have ho71 := u183
                            have hsn := fun h => gr_rws_snoc xi13_0 (hgl h)
                            refine hw_aloadn (aX12_rows 112 rfl) rfl ?_
                            refine hw_get (v := .int (x191)) (aX12_rows 113 rfl) wf_RX12_493 (c121 hS) (s121 hS) (by decide) (congrArg Value.int (show FI174 121 73 = x191 from h192)) ?_
                            refine xw_iload (aX12_rows 114 rfl) rfl ?_
                            refine xw_isub (aX12_rows 115 rfl) ?_
                            refine hw_tie (A := ((x191).toInt) - ((x125).toInt)) (i_sub rfl rfl (by omega) (by omega)) (fun x198 e199 => ?_)
                            refine hw_ic (v := (2 : Int32)) (aX12_rows 116 rfl) (by decide) ?_
                            refine xw_isub (aX12_rows 117 rfl) ?_
                            refine hw_tie (A := (((x191).toInt) - ((x125).toInt)) - (2)) (i_sub e199 (by decide : (2 : Int32).toInt = 2) (by omega) (by omega)) (fun x200 e201 => ?_)
                            refine xw_istore (L2 := [(5, .int (x200)), (4, .int (x125)), (2, .long (x60)), (0, .ref (base + 121))]) (aX12_rows 118 rfl) (by decide) rfl ?_
                            refine hw_aloadn (aX12_rows 119 rfl) rfl ?_
                            refine hw_get (v := .int (x191)) (aX12_rows 120 rfl) wf_RX12_493 (c121 hS) (s121 hS) (by decide) (congrArg Value.int (show FI174 121 73 = x191 from h192)) ?_
                            refine hw_sp (v := (4000 : Int32)) (aX12_rows 121 rfl) (by decide) ?_
                            refine hw_icgt (tgt := 262) (aX12_rows 122 rfl) (by decide) rfl (by decide : (4000 : Int32).toInt = 4000) (fun cd202 => ?_) (fun cd202 => ?_)
                            · refine hw_aloadn (aX12_rows 141 rfl) rfl ?_
                              refine hw_get (v := .ref (base + 159)) (aX12_rows 142 rfl) wf_RX12_135 (c121 hS) (s121 hS) (by decide) (congrArg (fun r => va_rf (h_rf base r)) (r121_80 hF)) ?_
                              refine hw_aloadn (aX12_rows 143 rfl) rfl ?_
                              refine hw_get (v := .int (x14)) (aX12_rows 144 rfl) wf_RX12_515 (c121 hS) (s121 hS) (by decide) (congrArg Value.int (show FI174 121 78 = x14 from (gf_at f176 (c121 hS) (s121 hS) rfl ((gf_at f161 (c121 hS) (s121 hS) rfl ((gf_at f142 (c121 hS) (s121 hS) rfl ((up_k u131 (by decide) ((gf_at f120 (c121 hS) (s121 hS) rfl ((gf_at f106 (c121 hS) (s121 hS) rfl ((gf_at f76 (c121 hS) (s121 hS) rfl ((up_k u65 (by decide) (kp27)))))))))))))))))) ?_
                              refine hw_aloadn (aX12_rows 145 rfl) rfl ?_
                              refine hw_get (v := .ref (base + 159)) (aX12_rows 146 rfl) wf_RX12_135 (c121 hS) (s121 hS) (by decide) (congrArg (fun r => va_rf (h_rf base r)) (r121_80 hF)) ?_
                              refine hw_aloadn (aX12_rows 147 rfl) rfl ?_
                              refine hw_get (v := .int (x14)) (aX12_rows 148 rfl) wf_RX12_515 (c121 hS) (s121 hS) (by decide) (congrArg Value.int (show FI174 121 78 = x14 from (gf_at f176 (c121 hS) (s121 hS) rfl ((gf_at f161 (c121 hS) (s121 hS) rfl ((gf_at f142 (c121 hS) (s121 hS) rfl ((up_k u131 (by decide) ((gf_at f120 (c121 hS) (s121 hS) rfl ((gf_at f106 (c121 hS) (s121 hS) rfl ((gf_at f76 (c121 hS) (s121 hS) rfl ((up_k u65 (by decide) (kp27)))))))))))))))))) ?_
                              refine hw_iald (v := x53) (aX12_rows 149 rfl) (c159 hS) (s159 hS) (h_in rfl (by omega) (by omega)) (show FI174 159 (x14).toNatClampNeg = x53 from (gf_at f176 (c159 hS) (s159 hS) rfl ((gf_at f161 (c159 hS) (s159 hS) rfl ((gf_at f142 (c159 hS) (s159 hS) rfl ((up_c u131 (by decide) ((gf_at f120 (c159 hS) (s159 hS) rfl ((gf_at f106 (c159 hS) (s159 hS) rfl ((gf_at f76 (c159 hS) (s159 hS) rfl ((up_c u65 (by decide) (h54))))))))))))))))) ?_
                              refine hw_ic (v := (1 : Int32)) (aX12_rows 150 rfl) (by decide) ?_
                              refine xw_iadd (aX12_rows 151 rfl) ?_
                              refine hw_tie (A := ((x53).toInt) + (1)) (i_add rfl (by decide : (1 : Int32).toInt = 1) (by omega) (by omega)) (fun x203 e204 => ?_)
                              refine hv_iast (k := (x14).toNatClampNeg) (aX12_rows 152 rfl) (c159 hS) (s159 hS) (h_in rfl (by omega) (by omega)) rfl (fun FI205 u206 => ?_)
                              have rl207 : rl_e (FI205 149) (FI205 121 67) := by rw [show FI205 149 = FI174 149 from up_row u206 (by decide) rfl, show FI205 121 67 = FI174 121 67 from up_c u206 (by decide) rfl]; exact rl185
                              have rl208 : rl_t (FI205 149) (FL 150) := by rw [show FI205 149 = FI174 149 from up_row u206 (by decide) rfl]; exact rl186
                              have rl209 : rl_w (FI205 121 67) (FI205 149) (FL 150) (FI205 151) := by rw [show FI205 149 = FI174 149 from up_row u206 (by decide) rfl, show FI205 151 = FI174 151 from up_row u206 (by decide) rfl, show FI205 121 67 = FI174 121 67 from up_c u206 (by decide) rfl]; exact rl187
                              have hI210 : g_I FI205 := gU_159 hI175 u206 (by have := (e204 : (x203).toInt = ((x53).toInt) + (1)); omega) (by have := (e204 : (x203).toInt = ((x53).toInt) + (1)); omega)
                              refine hw_aloadn (aX12_rows 153 rfl) rfl ?_
                              refine hw_get (v := .int (x196)) (aX12_rows 154 rfl) wf_RX12_475 (c121 hS) (s121 hS) (by decide) (congrArg Value.int (show FI205 121 69 = x196 from (up_c u206 (by decide) (h197)))) ?_
                              refine hw_ifne (tgt := 302) (aX12_rows 155 rfl) (by decide) rfl (fun cd211 => ?_) (fun cd211 => ?_)
                              · refine hw_ic (v := (0 : Int32)) (aX12_rows 162 rfl) (by decide) ?_
                                refine xw_istoren (L2 := [(1, .int ((0 : Int32))), (5, .int (x200)), (4, .int (x125)), (2, .long (x60)), (0, .ref (base + 121))]) (aX12_rows 163 rfl) (by decide) rfl ?_
                                refine xw_iloadn (aX12_rows 164 rfl) rfl ?_
                                refine hw_ifeq (tgt := 318) (aX12_rows 165 rfl) (by decide) (by decide : (0 : Int32).toInt = 0) (fun cd212 => ?_) (fun cd212 => ?_)
                                · refine xw_goto (tgt := 2) (aX12_rows 172 rfl) (by decide) ?_
                                  refine xw_iloadn (aX12_rows 2 rfl) rfl ?_
                                  refine hw_ifeq (tgt := 321) (aX12_rows 3 rfl) (by decide) (by decide : (0 : Int32).toInt = 0) (fun cd213 => ?_) (fun cd213 => ?_)
                                  · refine hw_aloadn (aX12_rows 173 rfl) rfl ?_
                                    refine hw_lc (v := (0 : Int64)) (aX12_rows 174 rfl) (by decide) ?_
                                    refine hw_bp (v := (8 : Int32)) (aX12_rows 175 rfl) (by decide) ?_
                                    refine hw_callV (Bs := [.long ((0 : Int64)), .int ((8 : Int32))]) (rest := []) (aX12_rows 176 rfl) wc_RX12_505 (by decide) rfl wi_yX12_emits wv_yX12_emits (c121 hS) (s121 hS) rfl rfl rfl (Nat.le_of_ble_eq_true rfl) (Nat.le_of_ble_eq_true rfl) (n_emits0 (d := d + 7) hS hF hI210 ((0 : Int64)) ((8 : Int32)) (by have := congrArg Int32.toInt (show FI205 121 73 = x191 from (up_c u206 (by decide) (h192))); omega) (by have := ((by decide : (8 : Int32).toInt = 8) : ((8 : Int32)).toInt = 8); have := ((by decide : (8 : Int32).toInt = 8) : ((8 : Int32)).toInt = 8); omega)) (fun v214 sv215 p216 => ?_)
                                    have := congrArg Int32.toInt (show FI205 121 73 = x191 from (up_c u206 (by decide) (h192)))
                                    have := ((by decide : (8 : Int32).toInt = 8) : ((8 : Int32)).toInt = 8)
                                    obtain ⟨rfl, FI218, rfl, hI219, f220, t221⟩ := p216
                                    have rl222 : rl_e (FI218 149) (FI218 121 67) := by rw [show FI218 149 = FI205 149 from gf_row f220 (c149 hS) (s149 hS) rfl rfl, show FI218 121 67 = FI205 121 67 from gf_at f220 (c121 hS) (s121 hS) rfl rfl]; exact rl207
                                    have rl223 : rl_t (FI218 149) (FL 150) := by rw [show FI218 149 = FI205 149 from gf_row f220 (c149 hS) (s149 hS) rfl rfl]; exact rl208
                                    have rl224 : rl_w (FI218 121 67) (FI218 149) (FL 150) (FI218 151) := by rw [show FI218 149 = FI205 149 from gf_row f220 (c149 hS) (s149 hS) rfl rfl, show FI218 151 = FI205 151 from gf_row f220 (c151 hS) (s151 hS) rfl rfl, show FI218 121 67 = FI205 121 67 from gf_at f220 (c121 hS) (s121 hS) rfl rfl]; exact rl209
                                    obtain ⟨x225, h226⟩ : ∃ y, FI218 121 73 = y := ⟨_, rfl⟩
                                    have h226l := congrArg Int32.toInt h226
                                    have b227 := gI_121_73 hI219; rw [h226] at b227
                                    show hw zk base _ _ _ _ _ [] _ _
                                    refine hw_aloadn (aX12_rows 177 rfl) rfl ?_
                                    refine hw_lc (v := (0 : Int64)) (aX12_rows 178 rfl) (by decide) ?_
                                    refine hw_bp (v := (8 : Int32)) (aX12_rows 179 rfl) (by decide) ?_
                                    refine hw_callV (Bs := [.long ((0 : Int64)), .int ((8 : Int32))]) (rest := []) (aX12_rows 180 rfl) wc_RX12_505 (by decide) rfl wi_yX12_emits wv_yX12_emits (c121 hS) (s121 hS) rfl rfl rfl (Nat.le_of_ble_eq_true rfl) (Nat.le_of_ble_eq_true rfl) (n_emits0 (d := d + 7) hS hF hI219 ((0 : Int64)) ((8 : Int32)) (by have := congrArg Int32.toInt (show FI218 121 73 = x225 from h226); omega) (by have := ((by decide : (8 : Int32).toInt = 8) : ((8 : Int32)).toInt = 8); have := ((by decide : (8 : Int32).toInt = 8) : ((8 : Int32)).toInt = 8); omega)) (fun v228 sv229 p230 => ?_)
                                    have := congrArg Int32.toInt (show FI218 121 73 = x225 from h226)
                                    have := ((by decide : (8 : Int32).toInt = 8) : ((8 : Int32)).toInt = 8)
                                    obtain ⟨rfl, FI232, rfl, hI233, f234, t235⟩ := p230
                                    have rl236 : rl_e (FI232 149) (FI232 121 67) := by rw [show FI232 149 = FI218 149 from gf_row f234 (c149 hS) (s149 hS) rfl rfl, show FI232 121 67 = FI218 121 67 from gf_at f234 (c121 hS) (s121 hS) rfl rfl]; exact rl222
                                    have rl237 : rl_t (FI232 149) (FL 150) := by rw [show FI232 149 = FI218 149 from gf_row f234 (c149 hS) (s149 hS) rfl rfl]; exact rl223
                                    have rl238 : rl_w (FI232 121 67) (FI232 149) (FL 150) (FI232 151) := by rw [show FI232 149 = FI218 149 from gf_row f234 (c149 hS) (s149 hS) rfl rfl, show FI232 151 = FI218 151 from gf_row f234 (c151 hS) (s151 hS) rfl rfl, show FI232 121 67 = FI218 121 67 from gf_at f234 (c121 hS) (s121 hS) rfl rfl]; exact rl224
                                    obtain ⟨x239, h240⟩ : ∃ y, FI232 121 73 = y := ⟨_, rfl⟩
                                    have h240l := congrArg Int32.toInt h240
                                    have b241 := gI_121_73 hI233; rw [h240] at b241
                                    show hw zk base _ _ _ _ _ [] _ _
                                    refine xw_vret (aX12_rows 181 rfl) rfl ?_
                                    exact ⟨rfl, FI232, rfl, hI233, (gf_tr ex_rf (gf_tr ex_rf (gf_a (gf_tr ex_rf (gf_tr ex_rf (gf_tr ex_rf (gf_f (gf_tr ex_rf (gf_tr ex_rf (gf_tr ex_rf (gf_f fr24 u65 (by decide)) f76 rfl rfl rfl) f106 rfl rfl rfl) f120 rfl rfl rfl) u131 (by decide)) f142 rfl rfl rfl) f161 rfl rfl rfl) f176 rfl rfl rfl) u206 (by decide)) f220 rfl rfl rfl) f234 rfl rfl rfl), (by have := congrArg Int32.toInt (show FI232 121 67 = x4 from (gf_at f234 (c121 hS) (s121 hS) rfl ((gf_at f220 (c121 hS) (s121 hS) rfl ((up_c u206 (by decide) ((gf_at f176 (c121 hS) (s121 hS) rfl ((gf_at f161 (c121 hS) (s121 hS) rfl ((gf_at f142 (c121 hS) (s121 hS) rfl ((up_k u131 (by decide) ((gf_at f120 (c121 hS) (s121 hS) rfl ((gf_at f106 (c121 hS) (s121 hS) rfl ((gf_at f76 (c121 hS) (s121 hS) rfl ((up_k u65 (by decide) (kp26))))))))))))))))))))))); have := congrArg Int32.toInt (show FI232 121 68 = x188 from (gf_at f234 (c121 hS) (s121 hS) rfl ((gf_at f220 (c121 hS) (s121 hS) rfl ((up_c u206 (by decide) (h189))))))); omega), (by have := congrArg Int32.toInt (show FI232 121 68 = x188 from (gf_at f234 (c121 hS) (s121 hS) rfl ((gf_at f220 (c121 hS) (s121 hS) rfl ((up_c u206 (by decide) (h189))))))); omega), (by have := congrArg Int32.toInt (show FI232 121 68 = x188 from (gf_at f234 (c121 hS) (s121 hS) rfl ((gf_at f220 (c121 hS) (s121 hS) rfl ((up_c u206 (by decide) (h189))))))); have := congrArg Int32.toInt (show FI232 121 73 = x239 from h240); omega), (by have := congrArg Int32.toInt (show FI232 121 73 = x239 from h240); omega), (by have := congrArg Int32.toInt (show FI232 121 69 = x196 from (gf_at f234 (c121 hS) (s121 hS) rfl ((gf_at f220 (c121 hS) (s121 hS) rfl ((up_c u206 (by decide) (h197))))))); exact fun h => absurd h (by omega)), (by have := congrArg Int32.toInt (show FI232 121 69 = x196 from (gf_at f234 (c121 hS) (s121 hS) rfl ((gf_at f220 (c121 hS) (s121 hS) rfl ((up_c u206 (by decide) (h197))))))); exact fun h => absurd h (by omega)), (by have := congrArg Int32.toInt (show FI232 121 69 = x196 from (gf_at f234 (c121 hS) (s121 hS) rfl ((gf_at f220 (c121 hS) (s121 hS) rfl ((up_c u206 (by decide) (h197))))))); exact fun h => absurd h (by omega))⟩
                                  · omega
                                · omega
                              · have ho0 := ho71 (by omega)
                                refine hw_aloadn (aX12_rows 156 rfl) rfl ?_
                                refine hw_bp (v := (44 : Int32)) (aX12_rows 157 rfl) (by decide) ?_
                                refine hw_callV (Bs := [.int ((44 : Int32))]) (rest := []) (aX12_rows 158 rfl) wc_RX12_484 (by decide) rfl wi_yX12_isSign wv_yX12_isSign (c121 hS) (s121 hS) rfl rfl rfl (Nat.le_of_ble_eq_true rfl) (Nat.le_of_ble_eq_true rfl) (n_isSign (d := d + 8) hS hF hI210 ((44 : Int32)) (by have := congrArg Int32.toInt (show FI205 121 68 = x188 from (up_c u206 (by decide) (h189))); have := congrArg Int32.toInt (show FI205 121 67 = x4 from (up_c u206 (by decide) ((gf_at f176 (c121 hS) (s121 hS) rfl ((gf_at f161 (c121 hS) (s121 hS) rfl ((gf_at f142 (c121 hS) (s121 hS) rfl ((up_k u131 (by decide) ((gf_at f120 (c121 hS) (s121 hS) rfl ((gf_at f106 (c121 hS) (s121 hS) rfl ((gf_at f76 (c121 hS) (s121 hS) rfl ((up_k u65 (by decide) (kp26))))))))))))))))))); omega) (show rl_e (FI205 149) (FI205 121 67) from rl207)) (fun v242 sv243 p244 => ?_)
                                have := congrArg Int32.toInt (show FI205 121 68 = x188 from (up_c u206 (by decide) (h189)))
                                have := congrArg Int32.toInt (show FI205 121 67 = x4 from (up_c u206 (by decide) ((gf_at f176 (c121 hS) (s121 hS) rfl ((gf_at f161 (c121 hS) (s121 hS) rfl ((gf_at f142 (c121 hS) (s121 hS) rfl ((up_k u131 (by decide) ((gf_at f120 (c121 hS) (s121 hS) rfl ((gf_at f106 (c121 hS) (s121 hS) rfl ((gf_at f76 (c121 hS) (s121 hS) rfl ((up_k u65 (by decide) (kp26)))))))))))))))))))
                                obtain ⟨r245, rfl, rfl, t247, t248, u249⟩ := p244
                                show hw zk base _ _ _ _ _ [.int (r245)] _ _
                                refine hw_ifeq (tgt := 302) (aX12_rows 159 rfl) (by decide) rfl (fun cd250 => ?_) (fun cd250 => ?_)
                                · clear t247
                                  refine hw_ic (v := (0 : Int32)) (aX12_rows 162 rfl) (by decide) ?_
                                  refine xw_istoren (L2 := [(1, .int ((0 : Int32))), (5, .int (x200)), (4, .int (x125)), (2, .long (x60)), (0, .ref (base + 121))]) (aX12_rows 163 rfl) (by decide) rfl ?_
                                  refine xw_iloadn (aX12_rows 164 rfl) rfl ?_
                                  refine hw_ifeq (tgt := 318) (aX12_rows 165 rfl) (by decide) (by decide : (0 : Int32).toInt = 0) (fun cd251 => ?_) (fun cd251 => ?_)
                                  · refine xw_goto (tgt := 2) (aX12_rows 172 rfl) (by decide) ?_
                                    refine xw_iloadn (aX12_rows 2 rfl) rfl ?_
                                    refine hw_ifeq (tgt := 321) (aX12_rows 3 rfl) (by decide) (by decide : (0 : Int32).toInt = 0) (fun cd252 => ?_) (fun cd252 => ?_)
                                    · refine hw_aloadn (aX12_rows 173 rfl) rfl ?_
                                      refine hw_lc (v := (0 : Int64)) (aX12_rows 174 rfl) (by decide) ?_
                                      refine hw_bp (v := (8 : Int32)) (aX12_rows 175 rfl) (by decide) ?_
                                      refine hw_callV (Bs := [.long ((0 : Int64)), .int ((8 : Int32))]) (rest := []) (aX12_rows 176 rfl) wc_RX12_505 (by decide) rfl wi_yX12_emits wv_yX12_emits (c121 hS) (s121 hS) rfl rfl rfl (Nat.le_of_ble_eq_true rfl) (Nat.le_of_ble_eq_true rfl) (n_emits0 (d := d + 7) hS hF hI210 ((0 : Int64)) ((8 : Int32)) (by have := congrArg Int32.toInt (show FI205 121 73 = x191 from (up_c u206 (by decide) (h192))); omega) (by have := ((by decide : (8 : Int32).toInt = 8) : ((8 : Int32)).toInt = 8); have := ((by decide : (8 : Int32).toInt = 8) : ((8 : Int32)).toInt = 8); omega)) (fun v253 sv254 p255 => ?_)
                                      have := congrArg Int32.toInt (show FI205 121 73 = x191 from (up_c u206 (by decide) (h192)))
                                      have := ((by decide : (8 : Int32).toInt = 8) : ((8 : Int32)).toInt = 8)
                                      obtain ⟨rfl, FI257, rfl, hI258, f259, t260⟩ := p255
                                      have rl261 : rl_e (FI257 149) (FI257 121 67) := by rw [show FI257 149 = FI205 149 from gf_row f259 (c149 hS) (s149 hS) rfl rfl, show FI257 121 67 = FI205 121 67 from gf_at f259 (c121 hS) (s121 hS) rfl rfl]; exact rl207
                                      have rl262 : rl_t (FI257 149) (FL 150) := by rw [show FI257 149 = FI205 149 from gf_row f259 (c149 hS) (s149 hS) rfl rfl]; exact rl208
                                      have rl263 : rl_w (FI257 121 67) (FI257 149) (FL 150) (FI257 151) := by rw [show FI257 149 = FI205 149 from gf_row f259 (c149 hS) (s149 hS) rfl rfl, show FI257 151 = FI205 151 from gf_row f259 (c151 hS) (s151 hS) rfl rfl, show FI257 121 67 = FI205 121 67 from gf_at f259 (c121 hS) (s121 hS) rfl rfl]; exact rl209
                                      obtain ⟨x264, h265⟩ : ∃ y, FI257 121 73 = y := ⟨_, rfl⟩
                                      have h265l := congrArg Int32.toInt h265
                                      have b266 := gI_121_73 hI258; rw [h265] at b266
                                      show hw zk base _ _ _ _ _ [] _ _
                                      refine hw_aloadn (aX12_rows 177 rfl) rfl ?_
                                      refine hw_lc (v := (0 : Int64)) (aX12_rows 178 rfl) (by decide) ?_
                                      refine hw_bp (v := (8 : Int32)) (aX12_rows 179 rfl) (by decide) ?_
                                      refine hw_callV (Bs := [.long ((0 : Int64)), .int ((8 : Int32))]) (rest := []) (aX12_rows 180 rfl) wc_RX12_505 (by decide) rfl wi_yX12_emits wv_yX12_emits (c121 hS) (s121 hS) rfl rfl rfl (Nat.le_of_ble_eq_true rfl) (Nat.le_of_ble_eq_true rfl) (n_emits0 (d := d + 7) hS hF hI258 ((0 : Int64)) ((8 : Int32)) (by have := congrArg Int32.toInt (show FI257 121 73 = x264 from h265); omega) (by have := ((by decide : (8 : Int32).toInt = 8) : ((8 : Int32)).toInt = 8); have := ((by decide : (8 : Int32).toInt = 8) : ((8 : Int32)).toInt = 8); omega)) (fun v267 sv268 p269 => ?_)
                                      have := congrArg Int32.toInt (show FI257 121 73 = x264 from h265)
                                      have := ((by decide : (8 : Int32).toInt = 8) : ((8 : Int32)).toInt = 8)
                                      obtain ⟨rfl, FI271, rfl, hI272, f273, t274⟩ := p269
                                      have rl275 : rl_e (FI271 149) (FI271 121 67) := by rw [show FI271 149 = FI257 149 from gf_row f273 (c149 hS) (s149 hS) rfl rfl, show FI271 121 67 = FI257 121 67 from gf_at f273 (c121 hS) (s121 hS) rfl rfl]; exact rl261
                                      have rl276 : rl_t (FI271 149) (FL 150) := by rw [show FI271 149 = FI257 149 from gf_row f273 (c149 hS) (s149 hS) rfl rfl]; exact rl262
                                      have rl277 : rl_w (FI271 121 67) (FI271 149) (FL 150) (FI271 151) := by rw [show FI271 149 = FI257 149 from gf_row f273 (c149 hS) (s149 hS) rfl rfl, show FI271 151 = FI257 151 from gf_row f273 (c151 hS) (s151 hS) rfl rfl, show FI271 121 67 = FI257 121 67 from gf_at f273 (c121 hS) (s121 hS) rfl rfl]; exact rl263
                                      obtain ⟨x278, h279⟩ : ∃ y, FI271 121 73 = y := ⟨_, rfl⟩
                                      have h279l := congrArg Int32.toInt h279
                                      have b280 := gI_121_73 hI272; rw [h279] at b280
                                      show hw zk base _ _ _ _ _ [] _ _
                                      refine xw_vret (aX12_rows 181 rfl) rfl ?_
                                      exact ⟨rfl, FI271, rfl, hI272, (gf_tr ex_rf (gf_tr ex_rf (gf_a (gf_tr ex_rf (gf_tr ex_rf (gf_tr ex_rf (gf_f (gf_tr ex_rf (gf_tr ex_rf (gf_tr ex_rf (gf_f fr24 u65 (by decide)) f76 rfl rfl rfl) f106 rfl rfl rfl) f120 rfl rfl rfl) u131 (by decide)) f142 rfl rfl rfl) f161 rfl rfl rfl) f176 rfl rfl rfl) u206 (by decide)) f259 rfl rfl rfl) f273 rfl rfl rfl), (by have := congrArg Int32.toInt (show FI271 121 67 = x4 from (gf_at f273 (c121 hS) (s121 hS) rfl ((gf_at f259 (c121 hS) (s121 hS) rfl ((up_c u206 (by decide) ((gf_at f176 (c121 hS) (s121 hS) rfl ((gf_at f161 (c121 hS) (s121 hS) rfl ((gf_at f142 (c121 hS) (s121 hS) rfl ((up_k u131 (by decide) ((gf_at f120 (c121 hS) (s121 hS) rfl ((gf_at f106 (c121 hS) (s121 hS) rfl ((gf_at f76 (c121 hS) (s121 hS) rfl ((up_k u65 (by decide) (kp26))))))))))))))))))))))); have := congrArg Int32.toInt (show FI271 121 68 = x188 from (gf_at f273 (c121 hS) (s121 hS) rfl ((gf_at f259 (c121 hS) (s121 hS) rfl ((up_c u206 (by decide) (h189))))))); omega), (by have := congrArg Int32.toInt (show FI271 121 68 = x188 from (gf_at f273 (c121 hS) (s121 hS) rfl ((gf_at f259 (c121 hS) (s121 hS) rfl ((up_c u206 (by decide) (h189))))))); omega), (by have := congrArg Int32.toInt (show FI271 121 68 = x188 from (gf_at f273 (c121 hS) (s121 hS) rfl ((gf_at f259 (c121 hS) (s121 hS) rfl ((up_c u206 (by decide) (h189))))))); have := congrArg Int32.toInt (show FI271 121 73 = x278 from h279); omega), (by have := congrArg Int32.toInt (show FI271 121 73 = x278 from h279); omega), (by have := congrArg Int32.toInt (show FI271 121 68 = x188 from (gf_at f273 (c121 hS) (s121 hS) rfl ((gf_at f259 (c121 hS) (s121 hS) rfl ((up_c u206 (by decide) (h189))))))); have := congrArg Int32.toInt (show FI271 121 69 = x196 from (gf_at f273 (c121 hS) (s121 hS) rfl ((gf_at f259 (c121 hS) (s121 hS) rfl ((up_c u206 (by decide) (h197))))))); have := congrArg Int32.toInt (show FI271 159 (FI 121 78).toNatClampNeg = x203 from (by rw [show FI 121 78 = x14 from h15]; exact (gf_at f273 (c159 hS) (s159 hS) rfl ((gf_at f259 (c159 hS) (s159 hS) rfl (up_eq u206)))))); have := (e204 : (x203).toInt = ((x53).toInt) + (1)); have := congrArg Int32.toInt (show FIv23 159 (FI 121 78).toNatClampNeg = x53 from (by rw [show FI 121 78 = x14 from h15]; exact h54)); intro h69; refine ⟨?_, by omega⟩; rw [show ((FI271 159 (FI 121 78).toNatClampNeg).toInt).toNat = ((FIv23 159 (FI 121 78).toNatClampNeg).toInt).toNat + 1 by omega, show (FI271 121 68).toInt.toNat = (FI174 121 68).toInt.toNat by omega]; exact hsn (by omega)), (by have := congrArg Int32.toInt (show FI271 121 68 = x188 from (gf_at f273 (c121 hS) (s121 hS) rfl ((gf_at f259 (c121 hS) (s121 hS) rfl ((up_c u206 (by decide) (h189))))))); have := congrArg Int32.toInt (show FI271 121 69 = x196 from (gf_at f273 (c121 hS) (s121 hS) rfl ((gf_at f259 (c121 hS) (s121 hS) rfl ((up_c u206 (by decide) (h197))))))); have := congrArg Int32.toInt (show FI271 121 73 = x278 from h279); intro h69; have := congrArg Int32.toInt (show FI271 121 68 = x188 from (gf_at f273 (c121 hS) (s121 hS) rfl ((gf_at f259 (c121 hS) (s121 hS) rfl ((up_c u206 (by decide) (h189))))))); have := congrArg Int32.toInt (show FI271 121 69 = x196 from (gf_at f273 (c121 hS) (s121 hS) rfl ((gf_at f259 (c121 hS) (s121 hS) rfl ((up_c u206 (by decide) (h197))))))); have := congrArg Int32.toInt (show FI271 121 73 = x278 from h279); have := hid_e hsh (by omega); have := wp_nc rel_wh (t := FI174 121 68) (u := FI271 121 68) (by omega); omega), (by intro _; exact (fun i hi => by rw [show FI271 159 = va_up (FIv23 159) ((x14).toNatClampNeg) (x203) from (gf_row f273 (c159 hS) (s159 hS) rfl ((gf_row f259 (c159 hS) (s159 hS) rfl ((up_va u206 ((gf_row f176 (c159 hS) (s159 hS) rfl ((gf_row f161 (c159 hS) (s159 hS) rfl ((gf_row f142 (c159 hS) (s159 hS) rfl ((up_row u131 (by decide) ((gf_row f120 (c159 hS) (s159 hS) rfl ((gf_row f106 (c159 hS) (s159 hS) rfl ((gf_row f76 (c159 hS) (s159 hS) rfl ((up_row u65 (by decide) (rfl))))))))))))))))))))))]; simp only [va_up]; rw [if_neg (by rw [← (show FI 121 78 = x14 from h15)]; exact hi)]; exact xi13_2 i hi))⟩
                                    · omega
                                  · omega
                                · replace t247 := t247 (by omega)
                                  refine hw_ic (v := (1 : Int32)) (aX12_rows 160 rfl) (by decide) ?_
                                  refine xw_goto (tgt := 303) (aX12_rows 161 rfl) (by decide) ?_
                                  refine xw_istoren (L2 := [(1, .int ((1 : Int32))), (5, .int (x200)), (4, .int (x125)), (2, .long (x60)), (0, .ref (base + 121))]) (aX12_rows 163 rfl) (by decide) rfl ?_
                                  refine xw_iloadn (aX12_rows 164 rfl) rfl ?_
                                  refine hw_ifeq (tgt := 318) (aX12_rows 165 rfl) (by decide) (by decide : (1 : Int32).toInt = 1) (fun cd281 => ?_) (fun cd281 => ?_)
                                  · omega
                                  · refine hw_aloadn (aX12_rows 166 rfl) rfl ?_
                                    refine hw_aloadn (aX12_rows 167 rfl) rfl ?_
                                    refine hw_get (v := .int (x188)) (aX12_rows 168 rfl) wf_RX12_478 (c121 hS) (s121 hS) (by decide) (congrArg Value.int (show FI205 121 68 = x188 from (up_c u206 (by decide) (h189)))) ?_
                                    refine hw_ic (v := (1 : Int32)) (aX12_rows 169 rfl) (by decide) ?_
                                    refine xw_iadd (aX12_rows 170 rfl) ?_
                                    refine hw_tie (A := ((x188).toInt) + (1)) (i_add rfl (by decide : (1 : Int32).toInt = 1) (by omega) (by omega)) (fun x282 e283 => ?_)
                                    refine hv_puti (aX12_rows 171 rfl) wf_RX12_478 (c121 hS) (s121 hS) (by decide) rfl rfl (fun FI284 u285 => ?_)
                                    have rl286 : rl_e (FI284 149) (FI284 121 67) := by rw [show FI284 149 = FI205 149 from up_row u285 (by decide) rfl, show FI284 121 67 = FI205 121 67 from up_k u285 (by decide) rfl]; exact rl207
                                    have rl287 : rl_t (FI284 149) (FL 150) := by rw [show FI284 149 = FI205 149 from up_row u285 (by decide) rfl]; exact rl208
                                    have rl288 : rl_w (FI284 121 67) (FI284 149) (FL 150) (FI284 151) := by rw [show FI284 149 = FI205 149 from up_row u285 (by decide) rfl, show FI284 151 = FI205 151 from up_row u285 (by decide) rfl, show FI284 121 67 = FI205 121 67 from up_k u285 (by decide) rfl]; exact rl209
                                    have hI289 : g_I FI284 := gU_121_68 hI210 u285 (by have := (e283 : (x282).toInt = ((x188).toInt) + (1)); omega) (by have := (e283 : (x282).toInt = ((x188).toInt) + (1)); omega)
                                    refine xw_goto (tgt := 2) (aX12_rows 172 rfl) (by decide) ?_
                                    refine xw_iloadn (aX12_rows 2 rfl) rfl ?_
                                    refine hw_ifeq (tgt := 321) (aX12_rows 3 rfl) (by decide) (by decide : (1 : Int32).toInt = 1) (fun cd290 => ?_) (fun cd290 => ?_)
                                    · omega
                                    · refine hw_aloadn (aX12_rows 4 rfl) rfl ?_
                                      refine hw_get (v := .int (x196)) (aX12_rows 5 rfl) wf_RX12_475 (c121 hS) (s121 hS) (by decide) (congrArg Value.int (show FI284 121 69 = x196 from (up_k u285 (by decide) ((up_c u206 (by decide) (h197)))))) ?_
                                      refine hw_ifne (tgt := 321) (aX12_rows 6 rfl) (by decide) rfl (fun cd291 => ?_) (fun cd291 => ?_)
                                      · omega
                                      · exact hw_L (ih FI284 (gf_f (gf_a (gf_tr ex_rf (gf_tr ex_rf (gf_tr ex_rf (gf_f (gf_tr ex_rf (gf_tr ex_rf (gf_tr ex_rf (gf_f fr24 u65 (by decide)) f76 rfl rfl rfl) f106 rfl rfl rfl) f120 rfl rfl rfl) u131 (by decide)) f142 rfl rfl rfl) f161 rfl rfl rfl) f176 rfl rfl rfl) u206 (by decide)) u285 (by decide)) hI289 (show FI284 121 67 = x4 from (up_k u285 (by decide) ((up_c u206 (by decide) ((gf_at f176 (c121 hS) (s121 hS) rfl ((gf_at f161 (c121 hS) (s121 hS) rfl ((gf_at f142 (c121 hS) (s121 hS) rfl ((up_k u131 (by decide) ((gf_at f120 (c121 hS) (s121 hS) rfl ((gf_at f106 (c121 hS) (s121 hS) rfl ((gf_at f76 (c121 hS) (s121 hS) rfl ((up_k u65 (by decide) (kp26))))))))))))))))))))) (show FI284 121 78 = x14 from (up_k u285 (by decide) ((up_c u206 (by decide) ((gf_at f176 (c121 hS) (s121 hS) rfl ((gf_at f161 (c121 hS) (s121 hS) rfl ((gf_at f142 (c121 hS) (s121 hS) rfl ((up_k u131 (by decide) ((gf_at f120 (c121 hS) (s121 hS) rfl ((gf_at f106 (c121 hS) (s121 hS) rfl ((gf_at f76 (c121 hS) (s121 hS) rfl ((up_k u65 (by decide) (kp27))))))))))))))))))))) (show rl_e (FI284 149) (FI284 121 67) from rl286) (show rl_t (FI284 149) (FL 150) from rl287) (show rl_w (FI284 121 67) (FI284 149) (FL 150) (FI284 151) from rl288) (by have := congrArg Int32.toInt (show FI284 121 68 = x282 from up_eq u285); have := (e283 : (x282).toInt = ((x188).toInt) + (1)); omega) (by have := congrArg Int32.toInt (show FI284 121 69 = x196 from (up_k u285 (by decide) ((up_c u206 (by decide) (h197))))); omega) (by have := congrArg Int32.toInt (show FI284 121 67 = x4 from (up_k u285 (by decide) ((up_c u206 (by decide) ((gf_at f176 (c121 hS) (s121 hS) rfl ((gf_at f161 (c121 hS) (s121 hS) rfl ((gf_at f142 (c121 hS) (s121 hS) rfl ((up_k u131 (by decide) ((gf_at f120 (c121 hS) (s121 hS) rfl ((gf_at f106 (c121 hS) (s121 hS) rfl ((gf_at f76 (c121 hS) (s121 hS) rfl ((up_k u65 (by decide) (kp26))))))))))))))))))))); have := congrArg Int32.toInt (show FI284 121 68 = x282 from up_eq u285); have := (e283 : (x282).toInt = ((x188).toInt) + (1)); omega) (by have := congrArg Int32.toInt (show FI284 121 68 = x282 from up_eq u285); have := (e283 : (x282).toInt = ((x188).toInt) + (1)); omega) (by have := congrArg Int32.toInt (show FI284 121 68 = x282 from up_eq u285); have := (e283 : (x282).toInt = ((x188).toInt) + (1)); have := congrArg Int32.toInt (show FI284 121 73 = x191 from (up_k u285 (by decide) ((up_c u206 (by decide) (h192))))); omega) (by have := congrArg Int32.toInt (show FI284 121 73 = x191 from (up_k u285 (by decide) ((up_c u206 (by decide) (h192))))); omega) (by have := congrArg Int32.toInt (show FI284 121 71 = x194 from (up_k u285 (by decide) ((up_c u206 (by decide) (h195))))); omega) (show gr_rws (kf (FI 149)) (wf (FL 150)) ((FI284 159 (FI 121 78).toNatClampNeg).toInt).toNat (FI 121 68).toInt.toNat ((FI284 121 68).toInt).toNat from (by have := congrArg Int32.toInt (show FI284 121 68 = x282 from up_eq u285); have := (e283 : (x282).toInt = ((x188).toInt) + (1)); exact (by { have := congrArg Int32.toInt (show FI284 159 (FI 121 78).toNatClampNeg = x203 from (by rw [show FI 121 78 = x14 from h15]; exact (up_c u285 (by decide) (up_eq u206)))); have := (e204 : (x203).toInt = ((x53).toInt) + (1)); have := congrArg Int32.toInt (show FIv23 159 (FI 121 78).toNatClampNeg = x53 from (by rw [show FI 121 78 = x14 from h15]; exact h54)); rw [show ((FI284 159 (FI 121 78).toNatClampNeg).toInt).toNat = ((FIv23 159 (FI 121 78).toNatClampNeg).toInt).toNat + 1 by omega, show ((FI284 121 68).toInt).toNat = (FI174 121 68).toInt.toNat + 1 by omega]; exact hsn (by omega) }))) (show (FI284 121 73).toInt - 4 * wp (FI 151) (FI284 121 68) ≤ (FI 121 73).toInt - 4 * wp (FI 151) (FI 121 68) from (by have := congrArg Int32.toInt (show FI284 121 73 = x191 from (up_k u285 (by decide) ((up_c u206 (by decide) (h192))))); exact (by have := congrArg Int32.toInt (show FI284 121 68 = x282 from up_eq u285); have := (e283 : (x282).toInt = ((x188).toInt) + (1)); have := congrArg Int32.toInt (show FI284 121 69 = x196 from (up_k u285 (by decide) ((up_c u206 (by decide) (h197))))); have := congrArg Int32.toInt (show FI284 121 73 = x191 from (up_k u285 (by decide) ((up_c u206 (by decide) (h192))))); have := hid_e hsh (by omega); have := wp_nc rel_wh (t := FI174 121 68) (u := FI284 121 68) (by omega); omega))) (show ∀ i : Nat, i ≠ (FI 121 78).toNatClampNeg → FI284 159 i = FI 159 i from (by exact (fun i hi => by rw [show FI284 159 = va_up (FIv23 159) ((x14).toNatClampNeg) (x203) from (up_row u285 (by decide) ((up_va u206 ((gf_row f176 (c159 hS) (s159 hS) rfl ((gf_row f161 (c159 hS) (s159 hS) rfl ((gf_row f142 (c159 hS) (s159 hS) rfl ((up_row u131 (by decide) ((gf_row f120 (c159 hS) (s159 hS) rfl ((gf_row f106 (c159 hS) (s159 hS) rfl ((gf_row f76 (c159 hS) (s159 hS) rfl ((up_row u65 (by decide) (rfl))))))))))))))))))))]; simp only [va_up]; rw [if_neg (by rw [← (show FI 121 78 = x14 from h15)]; exact hi)]; exact xi13_2 i hi))) (show FI284 149 = FI 149 from (up_row u285 (by decide) ((up_row u206 (by decide) ((gf_row f176 (c149 hS) (s149 hS) rfl ((gf_row f161 (c149 hS) (s149 hS) rfl ((gf_row f142 (c149 hS) (s149 hS) rfl ((up_row u131 (by decide) ((gf_row f120 (c149 hS) (s149 hS) rfl ((gf_row f106 (c149 hS) (s149 hS) rfl ((gf_row f76 (c149 hS) (s149 hS) rfl ((up_row u65 (by decide) (rw38))))))))))))))))))))) (show FI284 151 = FI 151 from (up_row u285 (by decide) ((up_row u206 (by decide) ((gf_row f176 (c151 hS) (s151 hS) rfl ((gf_row f161 (c151 hS) (s151 hS) rfl ((gf_row f142 (c151 hS) (s151 hS) rfl ((up_row u131 (by decide) ((gf_row f120 (c151 hS) (s151 hS) rfl ((gf_row f106 (c151 hS) (s151 hS) rfl ((gf_row f76 (c151 hS) (s151 hS) rfl ((up_row u65 (by decide) (rw39))))))))))))))))))))) (by have := congrArg Int32.toInt (show FI284 121 68 = x282 from up_eq u285); have := (e283 : (x282).toInt = ((x188).toInt) + (1)); omega)) ⟨rfl, trivial⟩
                            · refine hw_aloadn (aX12_rows 123 rfl) rfl ?_
                              refine hw_get (v := .ref (base + 154)) (aX12_rows 124 rfl) wf_RX12_120 (c121 hS) (s121 hS) (by decide) (congrArg (fun r => va_rf (h_rf base r)) (r121_72 hF)) ?_
                              refine xw_iload (aX12_rows 125 rfl) rfl ?_
                              refine xw_iload (aX12_rows 126 rfl) rfl ?_
                              refine hw_sp (v := (255 : Int32)) (aX12_rows 127 rfl) (by decide) ?_
                              refine xw_iand (aX12_rows 128 rfl) ?_
                              refine hw_tib (lo := 0) (hi := 255) (i_and (x := x200) (m := (255 : Int32)) (M := 255) (by decide) (by decide)) (fun x292 b293 => ?_)
                              refine hv_iast (k := (x125).toNatClampNeg) (aX12_rows 129 rfl) (c154 hS) (s154 hS) (h_in rfl (by omega) (by omega)) rfl (fun FI294 u295 => ?_)
                              have rl296 : rl_e (FI294 149) (FI294 121 67) := by rw [show FI294 149 = FI174 149 from up_row u295 (by decide) rfl, show FI294 121 67 = FI174 121 67 from up_c u295 (by decide) rfl]; exact rl185
                              have rl297 : rl_t (FI294 149) (FL 150) := by rw [show FI294 149 = FI174 149 from up_row u295 (by decide) rfl]; exact rl186
                              have rl298 : rl_w (FI294 121 67) (FI294 149) (FL 150) (FI294 151) := by rw [show FI294 149 = FI174 149 from up_row u295 (by decide) rfl, show FI294 151 = FI174 151 from up_row u295 (by decide) rfl, show FI294 121 67 = FI174 121 67 from up_c u295 (by decide) rfl]; exact rl187
                              have hI299 : g_I FI294 := gU_154 hI175 u295 (by omega) (by omega)
                              refine hw_aloadn (aX12_rows 130 rfl) rfl ?_
                              refine hw_get (v := .ref (base + 154)) (aX12_rows 131 rfl) wf_RX12_120 (c121 hS) (s121 hS) (by decide) (congrArg (fun r => va_rf (h_rf base r)) (r121_72 hF)) ?_
                              refine xw_iload (aX12_rows 132 rfl) rfl ?_
                              refine hw_ic (v := (1 : Int32)) (aX12_rows 133 rfl) (by decide) ?_
                              refine xw_iadd (aX12_rows 134 rfl) ?_
                              refine hw_tie (A := ((x125).toInt) + (1)) (i_add rfl (by decide : (1 : Int32).toInt = 1) (by omega) (by omega)) (fun x300 e301 => ?_)
                              refine xw_iload (aX12_rows 135 rfl) rfl ?_
                              refine hw_bp (v := (8 : Int32)) (aX12_rows 136 rfl) (by decide) ?_
                              refine xw_ishr (aX12_rows 137 rfl) ?_
                              refine hw_ti (fun x302 => ?_)
                              have b303 := i_rng x302
                              refine hw_sp (v := (255 : Int32)) (aX12_rows 138 rfl) (by decide) ?_
                              refine xw_iand (aX12_rows 139 rfl) ?_
                              refine hw_tib (lo := 0) (hi := 255) (i_and (x := x302) (m := (255 : Int32)) (M := 255) (by decide) (by decide)) (fun x304 b305 => ?_)
                              refine hv_iast (k := (x300).toNatClampNeg) (aX12_rows 140 rfl) (c154 hS) (s154 hS) (h_in e301 (by omega) (by omega)) rfl (fun FI306 u307 => ?_)
                              have rl308 : rl_e (FI306 149) (FI306 121 67) := by rw [show FI306 149 = FI294 149 from up_row u307 (by decide) rfl, show FI306 121 67 = FI294 121 67 from up_c u307 (by decide) rfl]; exact rl296
                              have rl309 : rl_t (FI306 149) (FL 150) := by rw [show FI306 149 = FI294 149 from up_row u307 (by decide) rfl]; exact rl297
                              have rl310 : rl_w (FI306 121 67) (FI306 149) (FL 150) (FI306 151) := by rw [show FI306 149 = FI294 149 from up_row u307 (by decide) rfl, show FI306 151 = FI294 151 from up_row u307 (by decide) rfl, show FI306 121 67 = FI294 121 67 from up_c u307 (by decide) rfl]; exact rl298
                              have hI311 : g_I FI306 := gU_154 hI299 u307 (by omega) (by omega)
                              refine hw_aloadn (aX12_rows 141 rfl) rfl ?_
                              refine hw_get (v := .ref (base + 159)) (aX12_rows 142 rfl) wf_RX12_135 (c121 hS) (s121 hS) (by decide) (congrArg (fun r => va_rf (h_rf base r)) (r121_80 hF)) ?_
                              refine hw_aloadn (aX12_rows 143 rfl) rfl ?_
                              refine hw_get (v := .int (x14)) (aX12_rows 144 rfl) wf_RX12_515 (c121 hS) (s121 hS) (by decide) (congrArg Value.int (show FI306 121 78 = x14 from (up_c u307 (by decide) ((up_c u295 (by decide) ((gf_at f176 (c121 hS) (s121 hS) rfl ((gf_at f161 (c121 hS) (s121 hS) rfl ((gf_at f142 (c121 hS) (s121 hS) rfl ((up_k u131 (by decide) ((gf_at f120 (c121 hS) (s121 hS) rfl ((gf_at f106 (c121 hS) (s121 hS) rfl ((gf_at f76 (c121 hS) (s121 hS) rfl ((up_k u65 (by decide) (kp27)))))))))))))))))))))) ?_
                              refine hw_aloadn (aX12_rows 145 rfl) rfl ?_
                              refine hw_get (v := .ref (base + 159)) (aX12_rows 146 rfl) wf_RX12_135 (c121 hS) (s121 hS) (by decide) (congrArg (fun r => va_rf (h_rf base r)) (r121_80 hF)) ?_
                              refine hw_aloadn (aX12_rows 147 rfl) rfl ?_
                              refine hw_get (v := .int (x14)) (aX12_rows 148 rfl) wf_RX12_515 (c121 hS) (s121 hS) (by decide) (congrArg Value.int (show FI306 121 78 = x14 from (up_c u307 (by decide) ((up_c u295 (by decide) ((gf_at f176 (c121 hS) (s121 hS) rfl ((gf_at f161 (c121 hS) (s121 hS) rfl ((gf_at f142 (c121 hS) (s121 hS) rfl ((up_k u131 (by decide) ((gf_at f120 (c121 hS) (s121 hS) rfl ((gf_at f106 (c121 hS) (s121 hS) rfl ((gf_at f76 (c121 hS) (s121 hS) rfl ((up_k u65 (by decide) (kp27)))))))))))))))))))))) ?_
                              refine hw_iald (v := x53) (aX12_rows 149 rfl) (c159 hS) (s159 hS) (h_in rfl (by omega) (by omega)) (show FI306 159 (x14).toNatClampNeg = x53 from (up_c u307 (by decide) ((up_c u295 (by decide) ((gf_at f176 (c159 hS) (s159 hS) rfl ((gf_at f161 (c159 hS) (s159 hS) rfl ((gf_at f142 (c159 hS) (s159 hS) rfl ((up_c u131 (by decide) ((gf_at f120 (c159 hS) (s159 hS) rfl ((gf_at f106 (c159 hS) (s159 hS) rfl ((gf_at f76 (c159 hS) (s159 hS) rfl ((up_c u65 (by decide) (h54))))))))))))))))))))) ?_
                              refine hw_ic (v := (1 : Int32)) (aX12_rows 150 rfl) (by decide) ?_
                              refine xw_iadd (aX12_rows 151 rfl) ?_
                              refine hw_tie (A := ((x53).toInt) + (1)) (i_add rfl (by decide : (1 : Int32).toInt = 1) (by omega) (by omega)) (fun x312 e313 => ?_)
                              refine hv_iast (k := (x14).toNatClampNeg) (aX12_rows 152 rfl) (c159 hS) (s159 hS) (h_in rfl (by omega) (by omega)) rfl (fun FI314 u315 => ?_)
                              have rl316 : rl_e (FI314 149) (FI314 121 67) := by rw [show FI314 149 = FI306 149 from up_row u315 (by decide) rfl, show FI314 121 67 = FI306 121 67 from up_c u315 (by decide) rfl]; exact rl308
                              have rl317 : rl_t (FI314 149) (FL 150) := by rw [show FI314 149 = FI306 149 from up_row u315 (by decide) rfl]; exact rl309
                              have rl318 : rl_w (FI314 121 67) (FI314 149) (FL 150) (FI314 151) := by rw [show FI314 149 = FI306 149 from up_row u315 (by decide) rfl, show FI314 151 = FI306 151 from up_row u315 (by decide) rfl, show FI314 121 67 = FI306 121 67 from up_c u315 (by decide) rfl]; exact rl310
                              have hI319 : g_I FI314 := gU_159 hI311 u315 (by have := (e313 : (x312).toInt = ((x53).toInt) + (1)); omega) (by have := (e313 : (x312).toInt = ((x53).toInt) + (1)); omega)
                              refine hw_aloadn (aX12_rows 153 rfl) rfl ?_
                              refine hw_get (v := .int (x196)) (aX12_rows 154 rfl) wf_RX12_475 (c121 hS) (s121 hS) (by decide) (congrArg Value.int (show FI314 121 69 = x196 from (up_c u315 (by decide) ((up_c u307 (by decide) ((up_c u295 (by decide) (h197)))))))) ?_
                              refine hw_ifne (tgt := 302) (aX12_rows 155 rfl) (by decide) rfl (fun cd320 => ?_) (fun cd320 => ?_)
                              · refine hw_ic (v := (0 : Int32)) (aX12_rows 162 rfl) (by decide) ?_
                                refine xw_istoren (L2 := [(1, .int ((0 : Int32))), (5, .int (x200)), (4, .int (x125)), (2, .long (x60)), (0, .ref (base + 121))]) (aX12_rows 163 rfl) (by decide) rfl ?_
                                refine xw_iloadn (aX12_rows 164 rfl) rfl ?_
                                refine hw_ifeq (tgt := 318) (aX12_rows 165 rfl) (by decide) (by decide : (0 : Int32).toInt = 0) (fun cd321 => ?_) (fun cd321 => ?_)
                                · refine xw_goto (tgt := 2) (aX12_rows 172 rfl) (by decide) ?_
                                  refine xw_iloadn (aX12_rows 2 rfl) rfl ?_
                                  refine hw_ifeq (tgt := 321) (aX12_rows 3 rfl) (by decide) (by decide : (0 : Int32).toInt = 0) (fun cd322 => ?_) (fun cd322 => ?_)
                                  · refine hw_aloadn (aX12_rows 173 rfl) rfl ?_
                                    refine hw_lc (v := (0 : Int64)) (aX12_rows 174 rfl) (by decide) ?_
                                    refine hw_bp (v := (8 : Int32)) (aX12_rows 175 rfl) (by decide) ?_
                                    refine hw_callV (Bs := [.long ((0 : Int64)), .int ((8 : Int32))]) (rest := []) (aX12_rows 176 rfl) wc_RX12_505 (by decide) rfl wi_yX12_emits wv_yX12_emits (c121 hS) (s121 hS) rfl rfl rfl (Nat.le_of_ble_eq_true rfl) (Nat.le_of_ble_eq_true rfl) (n_emits0 (d := d + 7) hS hF hI319 ((0 : Int64)) ((8 : Int32)) (by have := congrArg Int32.toInt (show FI314 121 73 = x191 from (up_c u315 (by decide) ((up_c u307 (by decide) ((up_c u295 (by decide) (h192))))))); omega) (by have := ((by decide : (8 : Int32).toInt = 8) : ((8 : Int32)).toInt = 8); have := ((by decide : (8 : Int32).toInt = 8) : ((8 : Int32)).toInt = 8); omega)) (fun v323 sv324 p325 => ?_)
                                    have := congrArg Int32.toInt (show FI314 121 73 = x191 from (up_c u315 (by decide) ((up_c u307 (by decide) ((up_c u295 (by decide) (h192)))))))
                                    have := ((by decide : (8 : Int32).toInt = 8) : ((8 : Int32)).toInt = 8)
                                    obtain ⟨rfl, FI327, rfl, hI328, f329, t330⟩ := p325
                                    have rl331 : rl_e (FI327 149) (FI327 121 67) := by rw [show FI327 149 = FI314 149 from gf_row f329 (c149 hS) (s149 hS) rfl rfl, show FI327 121 67 = FI314 121 67 from gf_at f329 (c121 hS) (s121 hS) rfl rfl]; exact rl316
                                    have rl332 : rl_t (FI327 149) (FL 150) := by rw [show FI327 149 = FI314 149 from gf_row f329 (c149 hS) (s149 hS) rfl rfl]; exact rl317
                                    have rl333 : rl_w (FI327 121 67) (FI327 149) (FL 150) (FI327 151) := by rw [show FI327 149 = FI314 149 from gf_row f329 (c149 hS) (s149 hS) rfl rfl, show FI327 151 = FI314 151 from gf_row f329 (c151 hS) (s151 hS) rfl rfl, show FI327 121 67 = FI314 121 67 from gf_at f329 (c121 hS) (s121 hS) rfl rfl]; exact rl318
                                    obtain ⟨x334, h335⟩ : ∃ y, FI327 121 73 = y := ⟨_, rfl⟩
                                    have h335l := congrArg Int32.toInt h335
                                    have b336 := gI_121_73 hI328; rw [h335] at b336
                                    show hw zk base _ _ _ _ _ [] _ _
                                    refine hw_aloadn (aX12_rows 177 rfl) rfl ?_
                                    refine hw_lc (v := (0 : Int64)) (aX12_rows 178 rfl) (by decide) ?_
                                    refine hw_bp (v := (8 : Int32)) (aX12_rows 179 rfl) (by decide) ?_
                                    refine hw_callV (Bs := [.long ((0 : Int64)), .int ((8 : Int32))]) (rest := []) (aX12_rows 180 rfl) wc_RX12_505 (by decide) rfl wi_yX12_emits wv_yX12_emits (c121 hS) (s121 hS) rfl rfl rfl (Nat.le_of_ble_eq_true rfl) (Nat.le_of_ble_eq_true rfl) (n_emits0 (d := d + 7) hS hF hI328 ((0 : Int64)) ((8 : Int32)) (by have := congrArg Int32.toInt (show FI327 121 73 = x334 from h335); omega) (by have := ((by decide : (8 : Int32).toInt = 8) : ((8 : Int32)).toInt = 8); have := ((by decide : (8 : Int32).toInt = 8) : ((8 : Int32)).toInt = 8); omega)) (fun v337 sv338 p339 => ?_)
                                    have := congrArg Int32.toInt (show FI327 121 73 = x334 from h335)
                                    have := ((by decide : (8 : Int32).toInt = 8) : ((8 : Int32)).toInt = 8)
                                    obtain ⟨rfl, FI341, rfl, hI342, f343, t344⟩ := p339
                                    have rl345 : rl_e (FI341 149) (FI341 121 67) := by rw [show FI341 149 = FI327 149 from gf_row f343 (c149 hS) (s149 hS) rfl rfl, show FI341 121 67 = FI327 121 67 from gf_at f343 (c121 hS) (s121 hS) rfl rfl]; exact rl331
                                    have rl346 : rl_t (FI341 149) (FL 150) := by rw [show FI341 149 = FI327 149 from gf_row f343 (c149 hS) (s149 hS) rfl rfl]; exact rl332
                                    have rl347 : rl_w (FI341 121 67) (FI341 149) (FL 150) (FI341 151) := by rw [show FI341 149 = FI327 149 from gf_row f343 (c149 hS) (s149 hS) rfl rfl, show FI341 151 = FI327 151 from gf_row f343 (c151 hS) (s151 hS) rfl rfl, show FI341 121 67 = FI327 121 67 from gf_at f343 (c121 hS) (s121 hS) rfl rfl]; exact rl333
                                    obtain ⟨x348, h349⟩ : ∃ y, FI341 121 73 = y := ⟨_, rfl⟩
                                    have h349l := congrArg Int32.toInt h349
                                    have b350 := gI_121_73 hI342; rw [h349] at b350
                                    show hw zk base _ _ _ _ _ [] _ _
                                    refine xw_vret (aX12_rows 181 rfl) rfl ?_
                                    exact ⟨rfl, FI341, rfl, hI342, (gf_tr ex_rf (gf_tr ex_rf (gf_a (gf_a (gf_a (gf_tr ex_rf (gf_tr ex_rf (gf_tr ex_rf (gf_f (gf_tr ex_rf (gf_tr ex_rf (gf_tr ex_rf (gf_f fr24 u65 (by decide)) f76 rfl rfl rfl) f106 rfl rfl rfl) f120 rfl rfl rfl) u131 (by decide)) f142 rfl rfl rfl) f161 rfl rfl rfl) f176 rfl rfl rfl) u295 (by decide)) u307 (by decide)) u315 (by decide)) f329 rfl rfl rfl) f343 rfl rfl rfl), (by have := congrArg Int32.toInt (show FI341 121 67 = x4 from (gf_at f343 (c121 hS) (s121 hS) rfl ((gf_at f329 (c121 hS) (s121 hS) rfl ((up_c u315 (by decide) ((up_c u307 (by decide) ((up_c u295 (by decide) ((gf_at f176 (c121 hS) (s121 hS) rfl ((gf_at f161 (c121 hS) (s121 hS) rfl ((gf_at f142 (c121 hS) (s121 hS) rfl ((up_k u131 (by decide) ((gf_at f120 (c121 hS) (s121 hS) rfl ((gf_at f106 (c121 hS) (s121 hS) rfl ((gf_at f76 (c121 hS) (s121 hS) rfl ((up_k u65 (by decide) (kp26))))))))))))))))))))))))))); have := congrArg Int32.toInt (show FI341 121 68 = x188 from (gf_at f343 (c121 hS) (s121 hS) rfl ((gf_at f329 (c121 hS) (s121 hS) rfl ((up_c u315 (by decide) ((up_c u307 (by decide) ((up_c u295 (by decide) (h189))))))))))); omega), (by have := congrArg Int32.toInt (show FI341 121 68 = x188 from (gf_at f343 (c121 hS) (s121 hS) rfl ((gf_at f329 (c121 hS) (s121 hS) rfl ((up_c u315 (by decide) ((up_c u307 (by decide) ((up_c u295 (by decide) (h189))))))))))); omega), (by have := congrArg Int32.toInt (show FI341 121 68 = x188 from (gf_at f343 (c121 hS) (s121 hS) rfl ((gf_at f329 (c121 hS) (s121 hS) rfl ((up_c u315 (by decide) ((up_c u307 (by decide) ((up_c u295 (by decide) (h189))))))))))); have := congrArg Int32.toInt (show FI341 121 73 = x348 from h349); omega), (by have := congrArg Int32.toInt (show FI341 121 73 = x348 from h349); omega), (by have := congrArg Int32.toInt (show FI341 121 69 = x196 from (gf_at f343 (c121 hS) (s121 hS) rfl ((gf_at f329 (c121 hS) (s121 hS) rfl ((up_c u315 (by decide) ((up_c u307 (by decide) ((up_c u295 (by decide) (h197))))))))))); exact fun h => absurd h (by omega)), (by have := congrArg Int32.toInt (show FI341 121 69 = x196 from (gf_at f343 (c121 hS) (s121 hS) rfl ((gf_at f329 (c121 hS) (s121 hS) rfl ((up_c u315 (by decide) ((up_c u307 (by decide) ((up_c u295 (by decide) (h197))))))))))); exact fun h => absurd h (by omega)), (by have := congrArg Int32.toInt (show FI341 121 69 = x196 from (gf_at f343 (c121 hS) (s121 hS) rfl ((gf_at f329 (c121 hS) (s121 hS) rfl ((up_c u315 (by decide) ((up_c u307 (by decide) ((up_c u295 (by decide) (h197))))))))))); exact fun h => absurd h (by omega))⟩
                                  · omega
                                · omega
                              · have ho0 := ho71 (by omega)
                                refine hw_aloadn (aX12_rows 156 rfl) rfl ?_
                                refine hw_bp (v := (44 : Int32)) (aX12_rows 157 rfl) (by decide) ?_
                                refine hw_callV (Bs := [.int ((44 : Int32))]) (rest := []) (aX12_rows 158 rfl) wc_RX12_484 (by decide) rfl wi_yX12_isSign wv_yX12_isSign (c121 hS) (s121 hS) rfl rfl rfl (Nat.le_of_ble_eq_true rfl) (Nat.le_of_ble_eq_true rfl) (n_isSign (d := d + 8) hS hF hI319 ((44 : Int32)) (by have := congrArg Int32.toInt (show FI314 121 68 = x188 from (up_c u315 (by decide) ((up_c u307 (by decide) ((up_c u295 (by decide) (h189))))))); have := congrArg Int32.toInt (show FI314 121 67 = x4 from (up_c u315 (by decide) ((up_c u307 (by decide) ((up_c u295 (by decide) ((gf_at f176 (c121 hS) (s121 hS) rfl ((gf_at f161 (c121 hS) (s121 hS) rfl ((gf_at f142 (c121 hS) (s121 hS) rfl ((up_k u131 (by decide) ((gf_at f120 (c121 hS) (s121 hS) rfl ((gf_at f106 (c121 hS) (s121 hS) rfl ((gf_at f76 (c121 hS) (s121 hS) rfl ((up_k u65 (by decide) (kp26))))))))))))))))))))))); omega) (show rl_e (FI314 149) (FI314 121 67) from rl316)) (fun v351 sv352 p353 => ?_)
                                have := congrArg Int32.toInt (show FI314 121 68 = x188 from (up_c u315 (by decide) ((up_c u307 (by decide) ((up_c u295 (by decide) (h189)))))))
                                have := congrArg Int32.toInt (show FI314 121 67 = x4 from (up_c u315 (by decide) ((up_c u307 (by decide) ((up_c u295 (by decide) ((gf_at f176 (c121 hS) (s121 hS) rfl ((gf_at f161 (c121 hS) (s121 hS) rfl ((gf_at f142 (c121 hS) (s121 hS) rfl ((up_k u131 (by decide) ((gf_at f120 (c121 hS) (s121 hS) rfl ((gf_at f106 (c121 hS) (s121 hS) rfl ((gf_at f76 (c121 hS) (s121 hS) rfl ((up_k u65 (by decide) (kp26)))))))))))))))))))))))
                                obtain ⟨r354, rfl, rfl, t356, t357, u358⟩ := p353
                                show hw zk base _ _ _ _ _ [.int (r354)] _ _
                                refine hw_ifeq (tgt := 302) (aX12_rows 159 rfl) (by decide) rfl (fun cd359 => ?_) (fun cd359 => ?_)
                                · clear t356
                                  refine hw_ic (v := (0 : Int32)) (aX12_rows 162 rfl) (by decide) ?_
                                  refine xw_istoren (L2 := [(1, .int ((0 : Int32))), (5, .int (x200)), (4, .int (x125)), (2, .long (x60)), (0, .ref (base + 121))]) (aX12_rows 163 rfl) (by decide) rfl ?_
                                  refine xw_iloadn (aX12_rows 164 rfl) rfl ?_
                                  refine hw_ifeq (tgt := 318) (aX12_rows 165 rfl) (by decide) (by decide : (0 : Int32).toInt = 0) (fun cd360 => ?_) (fun cd360 => ?_)
                                  · refine xw_goto (tgt := 2) (aX12_rows 172 rfl) (by decide) ?_
                                    refine xw_iloadn (aX12_rows 2 rfl) rfl ?_
                                    refine hw_ifeq (tgt := 321) (aX12_rows 3 rfl) (by decide) (by decide : (0 : Int32).toInt = 0) (fun cd361 => ?_) (fun cd361 => ?_)
                                    · refine hw_aloadn (aX12_rows 173 rfl) rfl ?_
                                      refine hw_lc (v := (0 : Int64)) (aX12_rows 174 rfl) (by decide) ?_
                                      refine hw_bp (v := (8 : Int32)) (aX12_rows 175 rfl) (by decide) ?_
                                      refine hw_callV (Bs := [.long ((0 : Int64)), .int ((8 : Int32))]) (rest := []) (aX12_rows 176 rfl) wc_RX12_505 (by decide) rfl wi_yX12_emits wv_yX12_emits (c121 hS) (s121 hS) rfl rfl rfl (Nat.le_of_ble_eq_true rfl) (Nat.le_of_ble_eq_true rfl) (n_emits0 (d := d + 7) hS hF hI319 ((0 : Int64)) ((8 : Int32)) (by have := congrArg Int32.toInt (show FI314 121 73 = x191 from (up_c u315 (by decide) ((up_c u307 (by decide) ((up_c u295 (by decide) (h192))))))); omega) (by have := ((by decide : (8 : Int32).toInt = 8) : ((8 : Int32)).toInt = 8); have := ((by decide : (8 : Int32).toInt = 8) : ((8 : Int32)).toInt = 8); omega)) (fun v362 sv363 p364 => ?_)
                                      have := congrArg Int32.toInt (show FI314 121 73 = x191 from (up_c u315 (by decide) ((up_c u307 (by decide) ((up_c u295 (by decide) (h192)))))))
                                      have := ((by decide : (8 : Int32).toInt = 8) : ((8 : Int32)).toInt = 8)
                                      obtain ⟨rfl, FI366, rfl, hI367, f368, t369⟩ := p364
                                      have rl370 : rl_e (FI366 149) (FI366 121 67) := by rw [show FI366 149 = FI314 149 from gf_row f368 (c149 hS) (s149 hS) rfl rfl, show FI366 121 67 = FI314 121 67 from gf_at f368 (c121 hS) (s121 hS) rfl rfl]; exact rl316
                                      have rl371 : rl_t (FI366 149) (FL 150) := by rw [show FI366 149 = FI314 149 from gf_row f368 (c149 hS) (s149 hS) rfl rfl]; exact rl317
                                      have rl372 : rl_w (FI366 121 67) (FI366 149) (FL 150) (FI366 151) := by rw [show FI366 149 = FI314 149 from gf_row f368 (c149 hS) (s149 hS) rfl rfl, show FI366 151 = FI314 151 from gf_row f368 (c151 hS) (s151 hS) rfl rfl, show FI366 121 67 = FI314 121 67 from gf_at f368 (c121 hS) (s121 hS) rfl rfl]; exact rl318
                                      obtain ⟨x373, h374⟩ : ∃ y, FI366 121 73 = y := ⟨_, rfl⟩
                                      have h374l := congrArg Int32.toInt h374
                                      have b375 := gI_121_73 hI367; rw [h374] at b375
                                      show hw zk base _ _ _ _ _ [] _ _
                                      refine hw_aloadn (aX12_rows 177 rfl) rfl ?_
                                      refine hw_lc (v := (0 : Int64)) (aX12_rows 178 rfl) (by decide) ?_
                                      refine hw_bp (v := (8 : Int32)) (aX12_rows 179 rfl) (by decide) ?_
                                      refine hw_callV (Bs := [.long ((0 : Int64)), .int ((8 : Int32))]) (rest := []) (aX12_rows 180 rfl) wc_RX12_505 (by decide) rfl wi_yX12_emits wv_yX12_emits (c121 hS) (s121 hS) rfl rfl rfl (Nat.le_of_ble_eq_true rfl) (Nat.le_of_ble_eq_true rfl) (n_emits0 (d := d + 7) hS hF hI367 ((0 : Int64)) ((8 : Int32)) (by have := congrArg Int32.toInt (show FI366 121 73 = x373 from h374); omega) (by have := ((by decide : (8 : Int32).toInt = 8) : ((8 : Int32)).toInt = 8); have := ((by decide : (8 : Int32).toInt = 8) : ((8 : Int32)).toInt = 8); omega)) (fun v376 sv377 p378 => ?_)
                                      have := congrArg Int32.toInt (show FI366 121 73 = x373 from h374)
                                      have := ((by decide : (8 : Int32).toInt = 8) : ((8 : Int32)).toInt = 8)
                                      obtain ⟨rfl, FI380, rfl, hI381, f382, t383⟩ := p378
                                      have rl384 : rl_e (FI380 149) (FI380 121 67) := by rw [show FI380 149 = FI366 149 from gf_row f382 (c149 hS) (s149 hS) rfl rfl, show FI380 121 67 = FI366 121 67 from gf_at f382 (c121 hS) (s121 hS) rfl rfl]; exact rl370
                                      have rl385 : rl_t (FI380 149) (FL 150) := by rw [show FI380 149 = FI366 149 from gf_row f382 (c149 hS) (s149 hS) rfl rfl]; exact rl371
                                      have rl386 : rl_w (FI380 121 67) (FI380 149) (FL 150) (FI380 151) := by rw [show FI380 149 = FI366 149 from gf_row f382 (c149 hS) (s149 hS) rfl rfl, show FI380 151 = FI366 151 from gf_row f382 (c151 hS) (s151 hS) rfl rfl, show FI380 121 67 = FI366 121 67 from gf_at f382 (c121 hS) (s121 hS) rfl rfl]; exact rl372
                                      obtain ⟨x387, h388⟩ : ∃ y, FI380 121 73 = y := ⟨_, rfl⟩
                                      have h388l := congrArg Int32.toInt h388
                                      have b389 := gI_121_73 hI381; rw [h388] at b389
                                      show hw zk base _ _ _ _ _ [] _ _
                                      refine xw_vret (aX12_rows 181 rfl) rfl ?_
                                      exact ⟨rfl, FI380, rfl, hI381, (gf_tr ex_rf (gf_tr ex_rf (gf_a (gf_a (gf_a (gf_tr ex_rf (gf_tr ex_rf (gf_tr ex_rf (gf_f (gf_tr ex_rf (gf_tr ex_rf (gf_tr ex_rf (gf_f fr24 u65 (by decide)) f76 rfl rfl rfl) f106 rfl rfl rfl) f120 rfl rfl rfl) u131 (by decide)) f142 rfl rfl rfl) f161 rfl rfl rfl) f176 rfl rfl rfl) u295 (by decide)) u307 (by decide)) u315 (by decide)) f368 rfl rfl rfl) f382 rfl rfl rfl), (by have := congrArg Int32.toInt (show FI380 121 67 = x4 from (gf_at f382 (c121 hS) (s121 hS) rfl ((gf_at f368 (c121 hS) (s121 hS) rfl ((up_c u315 (by decide) ((up_c u307 (by decide) ((up_c u295 (by decide) ((gf_at f176 (c121 hS) (s121 hS) rfl ((gf_at f161 (c121 hS) (s121 hS) rfl ((gf_at f142 (c121 hS) (s121 hS) rfl ((up_k u131 (by decide) ((gf_at f120 (c121 hS) (s121 hS) rfl ((gf_at f106 (c121 hS) (s121 hS) rfl ((gf_at f76 (c121 hS) (s121 hS) rfl ((up_k u65 (by decide) (kp26))))))))))))))))))))))))))); have := congrArg Int32.toInt (show FI380 121 68 = x188 from (gf_at f382 (c121 hS) (s121 hS) rfl ((gf_at f368 (c121 hS) (s121 hS) rfl ((up_c u315 (by decide) ((up_c u307 (by decide) ((up_c u295 (by decide) (h189))))))))))); omega), (by have := congrArg Int32.toInt (show FI380 121 68 = x188 from (gf_at f382 (c121 hS) (s121 hS) rfl ((gf_at f368 (c121 hS) (s121 hS) rfl ((up_c u315 (by decide) ((up_c u307 (by decide) ((up_c u295 (by decide) (h189))))))))))); omega), (by have := congrArg Int32.toInt (show FI380 121 68 = x188 from (gf_at f382 (c121 hS) (s121 hS) rfl ((gf_at f368 (c121 hS) (s121 hS) rfl ((up_c u315 (by decide) ((up_c u307 (by decide) ((up_c u295 (by decide) (h189))))))))))); have := congrArg Int32.toInt (show FI380 121 73 = x387 from h388); omega), (by have := congrArg Int32.toInt (show FI380 121 73 = x387 from h388); omega), (by have := congrArg Int32.toInt (show FI380 121 68 = x188 from (gf_at f382 (c121 hS) (s121 hS) rfl ((gf_at f368 (c121 hS) (s121 hS) rfl ((up_c u315 (by decide) ((up_c u307 (by decide) ((up_c u295 (by decide) (h189))))))))))); have := congrArg Int32.toInt (show FI380 121 69 = x196 from (gf_at f382 (c121 hS) (s121 hS) rfl ((gf_at f368 (c121 hS) (s121 hS) rfl ((up_c u315 (by decide) ((up_c u307 (by decide) ((up_c u295 (by decide) (h197))))))))))); have := congrArg Int32.toInt (show FI380 159 (FI 121 78).toNatClampNeg = x312 from (by rw [show FI 121 78 = x14 from h15]; exact (gf_at f382 (c159 hS) (s159 hS) rfl ((gf_at f368 (c159 hS) (s159 hS) rfl (up_eq u315)))))); have := (e313 : (x312).toInt = ((x53).toInt) + (1)); have := congrArg Int32.toInt (show FIv23 159 (FI 121 78).toNatClampNeg = x53 from (by rw [show FI 121 78 = x14 from h15]; exact h54)); intro h69; refine ⟨?_, by omega⟩; rw [show ((FI380 159 (FI 121 78).toNatClampNeg).toInt).toNat = ((FIv23 159 (FI 121 78).toNatClampNeg).toInt).toNat + 1 by omega, show (FI380 121 68).toInt.toNat = (FI174 121 68).toInt.toNat by omega]; exact hsn (by omega)), (by have := congrArg Int32.toInt (show FI380 121 68 = x188 from (gf_at f382 (c121 hS) (s121 hS) rfl ((gf_at f368 (c121 hS) (s121 hS) rfl ((up_c u315 (by decide) ((up_c u307 (by decide) ((up_c u295 (by decide) (h189))))))))))); have := congrArg Int32.toInt (show FI380 121 69 = x196 from (gf_at f382 (c121 hS) (s121 hS) rfl ((gf_at f368 (c121 hS) (s121 hS) rfl ((up_c u315 (by decide) ((up_c u307 (by decide) ((up_c u295 (by decide) (h197))))))))))); have := congrArg Int32.toInt (show FI380 121 73 = x387 from h388); intro h69; have := congrArg Int32.toInt (show FI380 121 68 = x188 from (gf_at f382 (c121 hS) (s121 hS) rfl ((gf_at f368 (c121 hS) (s121 hS) rfl ((up_c u315 (by decide) ((up_c u307 (by decide) ((up_c u295 (by decide) (h189))))))))))); have := congrArg Int32.toInt (show FI380 121 69 = x196 from (gf_at f382 (c121 hS) (s121 hS) rfl ((gf_at f368 (c121 hS) (s121 hS) rfl ((up_c u315 (by decide) ((up_c u307 (by decide) ((up_c u295 (by decide) (h197))))))))))); have := congrArg Int32.toInt (show FI380 121 73 = x387 from h388); have := hid_e hsh (by omega); have := wp_nc rel_wh (t := FI174 121 68) (u := FI380 121 68) (by omega); omega), (by intro _; exact (fun i hi => by rw [show FI380 159 = va_up (FIv23 159) ((x14).toNatClampNeg) (x312) from (gf_row f382 (c159 hS) (s159 hS) rfl ((gf_row f368 (c159 hS) (s159 hS) rfl ((up_va u315 ((up_row u307 (by decide) ((up_row u295 (by decide) ((gf_row f176 (c159 hS) (s159 hS) rfl ((gf_row f161 (c159 hS) (s159 hS) rfl ((gf_row f142 (c159 hS) (s159 hS) rfl ((up_row u131 (by decide) ((gf_row f120 (c159 hS) (s159 hS) rfl ((gf_row f106 (c159 hS) (s159 hS) rfl ((gf_row f76 (c159 hS) (s159 hS) rfl ((up_row u65 (by decide) (rfl))))))))))))))))))))))))))]; simp only [va_up]; rw [if_neg (by rw [← (show FI 121 78 = x14 from h15)]; exact hi)]; exact xi13_2 i hi))⟩
                                    · omega
                                  · omega
                                · replace t356 := t356 (by omega)
                                  refine hw_ic (v := (1 : Int32)) (aX12_rows 160 rfl) (by decide) ?_
                                  refine xw_goto (tgt := 303) (aX12_rows 161 rfl) (by decide) ?_
                                  refine xw_istoren (L2 := [(1, .int ((1 : Int32))), (5, .int (x200)), (4, .int (x125)), (2, .long (x60)), (0, .ref (base + 121))]) (aX12_rows 163 rfl) (by decide) rfl ?_
                                  refine xw_iloadn (aX12_rows 164 rfl) rfl ?_
                                  refine hw_ifeq (tgt := 318) (aX12_rows 165 rfl) (by decide) (by decide : (1 : Int32).toInt = 1) (fun cd390 => ?_) (fun cd390 => ?_)
                                  · omega
                                  · refine hw_aloadn (aX12_rows 166 rfl) rfl ?_
                                    refine hw_aloadn (aX12_rows 167 rfl) rfl ?_
                                    refine hw_get (v := .int (x188)) (aX12_rows 168 rfl) wf_RX12_478 (c121 hS) (s121 hS) (by decide) (congrArg Value.int (show FI314 121 68 = x188 from (up_c u315 (by decide) ((up_c u307 (by decide) ((up_c u295 (by decide) (h189)))))))) ?_
                                    refine hw_ic (v := (1 : Int32)) (aX12_rows 169 rfl) (by decide) ?_
                                    refine xw_iadd (aX12_rows 170 rfl) ?_
                                    refine hw_tie (A := ((x188).toInt) + (1)) (i_add rfl (by decide : (1 : Int32).toInt = 1) (by omega) (by omega)) (fun x391 e392 => ?_)
                                    refine hv_puti (aX12_rows 171 rfl) wf_RX12_478 (c121 hS) (s121 hS) (by decide) rfl rfl (fun FI393 u394 => ?_)
                                    have rl395 : rl_e (FI393 149) (FI393 121 67) := by rw [show FI393 149 = FI314 149 from up_row u394 (by decide) rfl, show FI393 121 67 = FI314 121 67 from up_k u394 (by decide) rfl]; exact rl316
                                    have rl396 : rl_t (FI393 149) (FL 150) := by rw [show FI393 149 = FI314 149 from up_row u394 (by decide) rfl]; exact rl317
                                    have rl397 : rl_w (FI393 121 67) (FI393 149) (FL 150) (FI393 151) := by rw [show FI393 149 = FI314 149 from up_row u394 (by decide) rfl, show FI393 151 = FI314 151 from up_row u394 (by decide) rfl, show FI393 121 67 = FI314 121 67 from up_k u394 (by decide) rfl]; exact rl318
                                    have hI398 : g_I FI393 := gU_121_68 hI319 u394 (by have := (e392 : (x391).toInt = ((x188).toInt) + (1)); omega) (by have := (e392 : (x391).toInt = ((x188).toInt) + (1)); omega)
                                    refine xw_goto (tgt := 2) (aX12_rows 172 rfl) (by decide) ?_
                                    refine xw_iloadn (aX12_rows 2 rfl) rfl ?_
                                    refine hw_ifeq (tgt := 321) (aX12_rows 3 rfl) (by decide) (by decide : (1 : Int32).toInt = 1) (fun cd399 => ?_) (fun cd399 => ?_)
                                    · omega
                                    · refine hw_aloadn (aX12_rows 4 rfl) rfl ?_
                                      refine hw_get (v := .int (x196)) (aX12_rows 5 rfl) wf_RX12_475 (c121 hS) (s121 hS) (by decide) (congrArg Value.int (show FI393 121 69 = x196 from (up_k u394 (by decide) ((up_c u315 (by decide) ((up_c u307 (by decide) ((up_c u295 (by decide) (h197)))))))))) ?_
                                      refine hw_ifne (tgt := 321) (aX12_rows 6 rfl) (by decide) rfl (fun cd400 => ?_) (fun cd400 => ?_)
                                      · omega
                                      · exact hw_L (ih FI393 (gf_f (gf_a (gf_a (gf_a (gf_tr ex_rf (gf_tr ex_rf (gf_tr ex_rf (gf_f (gf_tr ex_rf (gf_tr ex_rf (gf_tr ex_rf (gf_f fr24 u65 (by decide)) f76 rfl rfl rfl) f106 rfl rfl rfl) f120 rfl rfl rfl) u131 (by decide)) f142 rfl rfl rfl) f161 rfl rfl rfl) f176 rfl rfl rfl) u295 (by decide)) u307 (by decide)) u315 (by decide)) u394 (by decide)) hI398 (show FI393 121 67 = x4 from (up_k u394 (by decide) ((up_c u315 (by decide) ((up_c u307 (by decide) ((up_c u295 (by decide) ((gf_at f176 (c121 hS) (s121 hS) rfl ((gf_at f161 (c121 hS) (s121 hS) rfl ((gf_at f142 (c121 hS) (s121 hS) rfl ((up_k u131 (by decide) ((gf_at f120 (c121 hS) (s121 hS) rfl ((gf_at f106 (c121 hS) (s121 hS) rfl ((gf_at f76 (c121 hS) (s121 hS) rfl ((up_k u65 (by decide) (kp26))))))))))))))))))))))))) (show FI393 121 78 = x14 from (up_k u394 (by decide) ((up_c u315 (by decide) ((up_c u307 (by decide) ((up_c u295 (by decide) ((gf_at f176 (c121 hS) (s121 hS) rfl ((gf_at f161 (c121 hS) (s121 hS) rfl ((gf_at f142 (c121 hS) (s121 hS) rfl ((up_k u131 (by decide) ((gf_at f120 (c121 hS) (s121 hS) rfl ((gf_at f106 (c121 hS) (s121 hS) rfl ((gf_at f76 (c121 hS) (s121 hS) rfl ((up_k u65 (by decide) (kp27))))))))))))))))))))))))) (show rl_e (FI393 149) (FI393 121 67) from rl395) (show rl_t (FI393 149) (FL 150) from rl396) (show rl_w (FI393 121 67) (FI393 149) (FL 150) (FI393 151) from rl397) (by have := congrArg Int32.toInt (show FI393 121 68 = x391 from up_eq u394); have := (e392 : (x391).toInt = ((x188).toInt) + (1)); omega) (by have := congrArg Int32.toInt (show FI393 121 69 = x196 from (up_k u394 (by decide) ((up_c u315 (by decide) ((up_c u307 (by decide) ((up_c u295 (by decide) (h197))))))))); omega) (by have := congrArg Int32.toInt (show FI393 121 67 = x4 from (up_k u394 (by decide) ((up_c u315 (by decide) ((up_c u307 (by decide) ((up_c u295 (by decide) ((gf_at f176 (c121 hS) (s121 hS) rfl ((gf_at f161 (c121 hS) (s121 hS) rfl ((gf_at f142 (c121 hS) (s121 hS) rfl ((up_k u131 (by decide) ((gf_at f120 (c121 hS) (s121 hS) rfl ((gf_at f106 (c121 hS) (s121 hS) rfl ((gf_at f76 (c121 hS) (s121 hS) rfl ((up_k u65 (by decide) (kp26))))))))))))))))))))))))); have := congrArg Int32.toInt (show FI393 121 68 = x391 from up_eq u394); have := (e392 : (x391).toInt = ((x188).toInt) + (1)); omega) (by have := congrArg Int32.toInt (show FI393 121 68 = x391 from up_eq u394); have := (e392 : (x391).toInt = ((x188).toInt) + (1)); omega) (by have := congrArg Int32.toInt (show FI393 121 68 = x391 from up_eq u394); have := (e392 : (x391).toInt = ((x188).toInt) + (1)); have := congrArg Int32.toInt (show FI393 121 73 = x191 from (up_k u394 (by decide) ((up_c u315 (by decide) ((up_c u307 (by decide) ((up_c u295 (by decide) (h192))))))))); omega) (by have := congrArg Int32.toInt (show FI393 121 73 = x191 from (up_k u394 (by decide) ((up_c u315 (by decide) ((up_c u307 (by decide) ((up_c u295 (by decide) (h192))))))))); omega) (by have := congrArg Int32.toInt (show FI393 121 71 = x194 from (up_k u394 (by decide) ((up_c u315 (by decide) ((up_c u307 (by decide) ((up_c u295 (by decide) (h195))))))))); omega) (show gr_rws (kf (FI 149)) (wf (FL 150)) ((FI393 159 (FI 121 78).toNatClampNeg).toInt).toNat (FI 121 68).toInt.toNat ((FI393 121 68).toInt).toNat from (by have := congrArg Int32.toInt (show FI393 121 68 = x391 from up_eq u394); have := (e392 : (x391).toInt = ((x188).toInt) + (1)); exact (by { have := congrArg Int32.toInt (show FI393 159 (FI 121 78).toNatClampNeg = x312 from (by rw [show FI 121 78 = x14 from h15]; exact (up_c u394 (by decide) (up_eq u315)))); have := (e313 : (x312).toInt = ((x53).toInt) + (1)); have := congrArg Int32.toInt (show FIv23 159 (FI 121 78).toNatClampNeg = x53 from (by rw [show FI 121 78 = x14 from h15]; exact h54)); rw [show ((FI393 159 (FI 121 78).toNatClampNeg).toInt).toNat = ((FIv23 159 (FI 121 78).toNatClampNeg).toInt).toNat + 1 by omega, show ((FI393 121 68).toInt).toNat = (FI174 121 68).toInt.toNat + 1 by omega]; exact hsn (by omega) }))) (show (FI393 121 73).toInt - 4 * wp (FI 151) (FI393 121 68) ≤ (FI 121 73).toInt - 4 * wp (FI 151) (FI 121 68) from (by have := congrArg Int32.toInt (show FI393 121 73 = x191 from (up_k u394 (by decide) ((up_c u315 (by decide) ((up_c u307 (by decide) ((up_c u295 (by decide) (h192))))))))); exact (by have := congrArg Int32.toInt (show FI393 121 68 = x391 from up_eq u394); have := (e392 : (x391).toInt = ((x188).toInt) + (1)); have := congrArg Int32.toInt (show FI393 121 69 = x196 from (up_k u394 (by decide) ((up_c u315 (by decide) ((up_c u307 (by decide) ((up_c u295 (by decide) (h197))))))))); have := congrArg Int32.toInt (show FI393 121 73 = x191 from (up_k u394 (by decide) ((up_c u315 (by decide) ((up_c u307 (by decide) ((up_c u295 (by decide) (h192))))))))); have := hid_e hsh (by omega); have := wp_nc rel_wh (t := FI174 121 68) (u := FI393 121 68) (by omega); omega))) (show ∀ i : Nat, i ≠ (FI 121 78).toNatClampNeg → FI393 159 i = FI 159 i from (by exact (fun i hi => by rw [show FI393 159 = va_up (FIv23 159) ((x14).toNatClampNeg) (x312) from (up_row u394 (by decide) ((up_va u315 ((up_row u307 (by decide) ((up_row u295 (by decide) ((gf_row f176 (c159 hS) (s159 hS) rfl ((gf_row f161 (c159 hS) (s159 hS) rfl ((gf_row f142 (c159 hS) (s159 hS) rfl ((up_row u131 (by decide) ((gf_row f120 (c159 hS) (s159 hS) rfl ((gf_row f106 (c159 hS) (s159 hS) rfl ((gf_row f76 (c159 hS) (s159 hS) rfl ((up_row u65 (by decide) (rfl))))))))))))))))))))))))]; simp only [va_up]; rw [if_neg (by rw [← (show FI 121 78 = x14 from h15)]; exact hi)]; exact xi13_2 i hi))) (show FI393 149 = FI 149 from (up_row u394 (by decide) ((up_row u315 (by decide) ((up_row u307 (by decide) ((up_row u295 (by decide) ((gf_row f176 (c149 hS) (s149 hS) rfl ((gf_row f161 (c149 hS) (s149 hS) rfl ((gf_row f142 (c149 hS) (s149 hS) rfl ((up_row u131 (by decide) ((gf_row f120 (c149 hS) (s149 hS) rfl ((gf_row f106 (c149 hS) (s149 hS) rfl ((gf_row f76 (c149 hS) (s149 hS) rfl ((up_row u65 (by decide) (rw38))))))))))))))))))))))))) (show FI393 151 = FI 151 from (up_row u394 (by decide) ((up_row u315 (by decide) ((up_row u307 (by decide) ((up_row u295 (by decide) ((gf_row f176 (c151 hS) (s151 hS) rfl ((gf_row f161 (c151 hS) (s151 hS) rfl ((gf_row f142 (c151 hS) (s151 hS) rfl ((up_row u131 (by decide) ((gf_row f120 (c151 hS) (s151 hS) rfl ((gf_row f106 (c151 hS) (s151 hS) rfl ((gf_row f76 (c151 hS) (s151 hS) rfl ((up_row u65 (by decide) (rw39))))))))))))))))))))))))) (by have := congrArg Int32.toInt (show FI393 121 68 = x391 from up_eq u394); have := (e392 : (x391).toInt = ((x188).toInt) + (1)); omega)) ⟨rfl, trivial⟩
                          · refine xw_vret (aX12_rows 109 rfl) rfl ?_
                            exact ⟨rfl, FI159, rfl, hI160, (gf_tr ex_rf (gf_tr ex_rf (gf_f (gf_tr ex_rf (gf_tr ex_rf (gf_tr ex_rf (gf_f fr24 u65 (by decide)) f76 rfl rfl rfl) f106 rfl rfl rfl) f120 rfl rfl rfl) u131 (by decide)) f142 rfl rfl rfl) f161 rfl rfl rfl), (by have := congrArg Int32.toInt (show FI159 121 67 = x4 from (gf_at f161 (c121 hS) (s121 hS) rfl ((gf_at f142 (c121 hS) (s121 hS) rfl ((up_k u131 (by decide) ((gf_at f120 (c121 hS) (s121 hS) rfl ((gf_at f106 (c121 hS) (s121 hS) rfl ((gf_at f76 (c121 hS) (s121 hS) rfl ((up_k u65 (by decide) (kp26))))))))))))))); have := congrArg Int32.toInt (show FI159 121 68 = x150 from (gf_at f161 (c121 hS) (s121 hS) rfl (h151))); omega), (by have := congrArg Int32.toInt (show FI159 121 68 = x150 from (gf_at f161 (c121 hS) (s121 hS) rfl (h151))); omega), (by have := congrArg Int32.toInt (show FI159 121 68 = x150 from (gf_at f161 (c121 hS) (s121 hS) rfl (h151))); have := congrArg Int32.toInt (show FI159 121 73 = x166 from h167); omega), (by have := congrArg Int32.toInt (show FI159 121 73 = x166 from h167); omega), (by have := congrArg Int32.toInt (show FI159 121 69 = x153 from (gf_at f161 (c121 hS) (s121 hS) rfl (h154))); exact fun h => absurd h (by omega)), (by have := congrArg Int32.toInt (show FI159 121 69 = x153 from (gf_at f161 (c121 hS) (s121 hS) rfl (h154))); exact fun h => absurd h (by omega)), (by have := congrArg Int32.toInt (show FI159 121 69 = x153 from (gf_at f161 (c121 hS) (s121 hS) rfl (h154))); exact fun h => absurd h (by omega))⟩
                        · omega
                      · refine hw_aloadn (aX12_rows 71 rfl) rfl ?_
                        refine hw_ic (v := (3 : Int32)) (aX12_rows 72 rfl) (by decide) ?_
                        refine hw_callV (Bs := [.int ((3 : Int32))]) (rest := []) (aX12_rows 73 rfl) wc_RX12_487 (by decide) rfl wi_yX12_fail wv_yX12_fail (c121 hS) (s121 hS) rfl rfl rfl (Nat.le_of_ble_eq_true rfl) (Nat.le_of_ble_eq_true rfl) (n_fail (d := d + 8) hS hF hI75 ((3 : Int32)) (by have := ((by decide : (3 : Int32).toInt = 3) : ((3 : Int32)).toInt = 3); omega)) (fun v401 sv402 p403 => ?_)
                        obtain ⟨rfl, FI405, rfl, hI406, f407, t408⟩ := p403
                        have rl409 : rl_e (FI405 149) (FI405 121 67) := by rw [show FI405 149 = FI74 149 from gf_row f407 (c149 hS) (s149 hS) rfl rfl, show FI405 121 67 = FI74 121 67 from gf_at f407 (c121 hS) (s121 hS) rfl rfl]; exact rl81
                        have rl410 : rl_t (FI405 149) (FL 150) := by rw [show FI405 149 = FI74 149 from gf_row f407 (c149 hS) (s149 hS) rfl rfl]; exact rl82
                        have rl411 : rl_w (FI405 121 67) (FI405 149) (FL 150) (FI405 151) := by rw [show FI405 149 = FI74 149 from gf_row f407 (c149 hS) (s149 hS) rfl rfl, show FI405 151 = FI74 151 from gf_row f407 (c151 hS) (s151 hS) rfl rfl, show FI405 121 67 = FI74 121 67 from gf_at f407 (c121 hS) (s121 hS) rfl rfl]; exact rl83
                        obtain ⟨x412, h413⟩ : ∃ y, FI405 121 69 = y := ⟨_, rfl⟩
                        have h413l := congrArg Int32.toInt h413
                        have := i_rng x412
                        show hw zk base _ _ _ _ _ [] _ _
                        refine hw_aloadn (aX12_rows 74 rfl) rfl ?_
                        refine hw_get (v := .int (x412)) (aX12_rows 75 rfl) wf_RX12_475 (c121 hS) (s121 hS) (by decide) (congrArg Value.int (show FI405 121 69 = x412 from h413)) ?_
                        refine hw_ifeq (tgt := 148) (aX12_rows 76 rfl) (by decide) rfl (fun cd414 => ?_) (fun cd414 => ?_)
                        · omega
                        · refine xw_vret (aX12_rows 77 rfl) rfl ?_
                          exact ⟨rfl, FI405, rfl, hI406, (gf_tr ex_rf (gf_tr ex_rf (gf_f fr24 u65 (by decide)) f76 rfl rfl rfl) f407 rfl rfl rfl), (by have := congrArg Int32.toInt (show FI405 121 67 = x4 from (gf_at f407 (c121 hS) (s121 hS) rfl ((gf_at f76 (c121 hS) (s121 hS) rfl ((up_k u65 (by decide) (kp26))))))); have := congrArg Int32.toInt (show FI405 121 68 = x84 from (gf_at f407 (c121 hS) (s121 hS) rfl (h85))); omega), (by have := congrArg Int32.toInt (show FI405 121 68 = x84 from (gf_at f407 (c121 hS) (s121 hS) rfl (h85))); omega), (by have := congrArg Int32.toInt (show FI405 121 68 = x84 from (gf_at f407 (c121 hS) (s121 hS) rfl (h85))); have := congrArg Int32.toInt (show FI405 121 73 = x46 from (gf_at f407 (c121 hS) (s121 hS) rfl ((gf_at f76 (c121 hS) (s121 hS) rfl ((up_k u65 (by decide) (h47))))))); omega), (by have := congrArg Int32.toInt (show FI405 121 73 = x46 from (gf_at f407 (c121 hS) (s121 hS) rfl ((gf_at f76 (c121 hS) (s121 hS) rfl ((up_k u65 (by decide) (h47))))))); omega), (by have := congrArg Int32.toInt (show FI405 121 69 = x412 from h413); exact fun h => absurd h (by omega)), (by have := congrArg Int32.toInt (show FI405 121 69 = x412 from h413); exact fun h => absurd h (by omega)), (by have := congrArg Int32.toInt (show FI405 121 69 = x412 from h413); exact fun h => absurd h (by omega))⟩
                  · refine hw_aloadn (aX12_rows 57 rfl) rfl ?_
                    refine hw_ic (v := (1 : Int32)) (aX12_rows 58 rfl) (by decide) ?_
                    refine hw_callV (Bs := [.int ((1 : Int32))]) (rest := []) (aX12_rows 59 rfl) wc_RX12_487 (by decide) rfl wi_yX12_fail wv_yX12_fail (c121 hS) (s121 hS) rfl rfl rfl (Nat.le_of_ble_eq_true rfl) (Nat.le_of_ble_eq_true rfl) (n_fail (d := d + 8) hS hF hI75 ((1 : Int32)) (by have := ((by decide : (1 : Int32).toInt = 1) : ((1 : Int32)).toInt = 1); omega)) (fun v415 sv416 p417 => ?_)
                    obtain ⟨rfl, FI419, rfl, hI420, f421, t422⟩ := p417
                    have rl423 : rl_e (FI419 149) (FI419 121 67) := by rw [show FI419 149 = FI74 149 from gf_row f421 (c149 hS) (s149 hS) rfl rfl, show FI419 121 67 = FI74 121 67 from gf_at f421 (c121 hS) (s121 hS) rfl rfl]; exact rl81
                    have rl424 : rl_t (FI419 149) (FL 150) := by rw [show FI419 149 = FI74 149 from gf_row f421 (c149 hS) (s149 hS) rfl rfl]; exact rl82
                    have rl425 : rl_w (FI419 121 67) (FI419 149) (FL 150) (FI419 151) := by rw [show FI419 149 = FI74 149 from gf_row f421 (c149 hS) (s149 hS) rfl rfl, show FI419 151 = FI74 151 from gf_row f421 (c151 hS) (s151 hS) rfl rfl, show FI419 121 67 = FI74 121 67 from gf_at f421 (c121 hS) (s121 hS) rfl rfl]; exact rl83
                    obtain ⟨x426, h427⟩ : ∃ y, FI419 121 69 = y := ⟨_, rfl⟩
                    have h427l := congrArg Int32.toInt h427
                    have := i_rng x426
                    show hw zk base _ _ _ _ _ [] _ _
                    refine hw_aloadn (aX12_rows 60 rfl) rfl ?_
                    refine hw_get (v := .int (x426)) (aX12_rows 61 rfl) wf_RX12_475 (c121 hS) (s121 hS) (by decide) (congrArg Value.int (show FI419 121 69 = x426 from h427)) ?_
                    refine hw_ifne (tgt := 140) (aX12_rows 62 rfl) (by decide) rfl (fun cd428 => ?_) (fun cd428 => ?_)
                    · refine hw_aloadn (aX12_rows 74 rfl) rfl ?_
                      refine hw_get (v := .int (x426)) (aX12_rows 75 rfl) wf_RX12_475 (c121 hS) (s121 hS) (by decide) (congrArg Value.int (show FI419 121 69 = x426 from h427)) ?_
                      refine hw_ifeq (tgt := 148) (aX12_rows 76 rfl) (by decide) rfl (fun cd429 => ?_) (fun cd429 => ?_)
                      · omega
                      · refine xw_vret (aX12_rows 77 rfl) rfl ?_
                        exact ⟨rfl, FI419, rfl, hI420, (gf_tr ex_rf (gf_tr ex_rf (gf_f fr24 u65 (by decide)) f76 rfl rfl rfl) f421 rfl rfl rfl), (by have := congrArg Int32.toInt (show FI419 121 67 = x4 from (gf_at f421 (c121 hS) (s121 hS) rfl ((gf_at f76 (c121 hS) (s121 hS) rfl ((up_k u65 (by decide) (kp26))))))); have := congrArg Int32.toInt (show FI419 121 68 = x84 from (gf_at f421 (c121 hS) (s121 hS) rfl (h85))); omega), (by have := congrArg Int32.toInt (show FI419 121 68 = x84 from (gf_at f421 (c121 hS) (s121 hS) rfl (h85))); omega), (by have := congrArg Int32.toInt (show FI419 121 68 = x84 from (gf_at f421 (c121 hS) (s121 hS) rfl (h85))); have := congrArg Int32.toInt (show FI419 121 73 = x46 from (gf_at f421 (c121 hS) (s121 hS) rfl ((gf_at f76 (c121 hS) (s121 hS) rfl ((up_k u65 (by decide) (h47))))))); omega), (by have := congrArg Int32.toInt (show FI419 121 73 = x46 from (gf_at f421 (c121 hS) (s121 hS) rfl ((gf_at f76 (c121 hS) (s121 hS) rfl ((up_k u65 (by decide) (h47))))))); omega), (by have := congrArg Int32.toInt (show FI419 121 69 = x426 from h427); exact fun h => absurd h (by omega)), (by have := congrArg Int32.toInt (show FI419 121 69 = x426 from h427); exact fun h => absurd h (by omega)), (by have := congrArg Int32.toInt (show FI419 121 69 = x426 from h427); exact fun h => absurd h (by omega))⟩
                    · omega
              · omega
            · refine hw_aloadn (aX12_rows 25 rfl) rfl ?_
              refine hw_bp (v := (6 : Int32)) (aX12_rows 26 rfl) (by decide) ?_
              refine hw_callV (Bs := [.int ((6 : Int32))]) (rest := []) (aX12_rows 27 rfl) wc_RX12_487 (by decide) rfl wi_yX12_fail wv_yX12_fail (c121 hS) (s121 hS) rfl rfl rfl (Nat.le_of_ble_eq_true rfl) (Nat.le_of_ble_eq_true rfl) (n_fail (d := d + 8) hS hF hI25 ((6 : Int32)) (by have := ((by decide : (6 : Int32).toInt = 6) : ((6 : Int32)).toInt = 6); omega)) (fun v430 sv431 p432 => ?_)
              obtain ⟨rfl, FI434, rfl, hI435, f436, t437⟩ := p432
              have rl438 : rl_e (FI434 149) (FI434 121 67) := by rw [show FI434 149 = FIv23 149 from gf_row f436 (c149 hS) (s149 hS) rfl rfl, show FI434 121 67 = FIv23 121 67 from gf_at f436 (c121 hS) (s121 hS) rfl rfl]; exact rl28
              have rl439 : rl_t (FI434 149) (FL 150) := by rw [show FI434 149 = FIv23 149 from gf_row f436 (c149 hS) (s149 hS) rfl rfl]; exact rl29
              have rl440 : rl_w (FI434 121 67) (FI434 149) (FL 150) (FI434 151) := by rw [show FI434 149 = FIv23 149 from gf_row f436 (c149 hS) (s149 hS) rfl rfl, show FI434 151 = FIv23 151 from gf_row f436 (c151 hS) (s151 hS) rfl rfl, show FI434 121 67 = FIv23 121 67 from gf_at f436 (c121 hS) (s121 hS) rfl rfl]; exact rl30
              obtain ⟨x441, h442⟩ : ∃ y, FI434 121 69 = y := ⟨_, rfl⟩
              have h442l := congrArg Int32.toInt h442
              have := i_rng x441
              show hw zk base _ _ _ _ _ [] _ _
              refine hw_aloadn (aX12_rows 28 rfl) rfl ?_
              refine hw_get (v := .int (x441)) (aX12_rows 29 rfl) wf_RX12_475 (c121 hS) (s121 hS) (by decide) (congrArg Value.int (show FI434 121 69 = x441 from h442)) ?_
              refine hw_ifeq (tgt := 62) (aX12_rows 30 rfl) (by decide) rfl (fun cd443 => ?_) (fun cd443 => ?_)
              · omega
              · refine xw_vret (aX12_rows 31 rfl) rfl ?_
                exact ⟨rfl, FI434, rfl, hI435, (gf_tr ex_rf fr24 f436 rfl rfl rfl), (by have := congrArg Int32.toInt (show FI434 121 67 = x4 from (gf_at f436 (c121 hS) (s121 hS) rfl (kp26))); have := congrArg Int32.toInt (show FI434 121 68 = x41 from (gf_at f436 (c121 hS) (s121 hS) rfl (h42))); omega), (by have := congrArg Int32.toInt (show FI434 121 68 = x41 from (gf_at f436 (c121 hS) (s121 hS) rfl (h42))); omega), (by have := congrArg Int32.toInt (show FI434 121 68 = x41 from (gf_at f436 (c121 hS) (s121 hS) rfl (h42))); have := congrArg Int32.toInt (show FI434 121 73 = x46 from (gf_at f436 (c121 hS) (s121 hS) rfl (h47))); omega), (by have := congrArg Int32.toInt (show FI434 121 73 = x46 from (gf_at f436 (c121 hS) (s121 hS) rfl (h47))); omega), (by have := congrArg Int32.toInt (show FI434 121 69 = x441 from h442); exact fun h => absurd h (by omega)), (by have := congrArg Int32.toInt (show FI434 121 69 = x441 from h442); exact fun h => absurd h (by omega)), (by have := congrArg Int32.toInt (show FI434 121 69 = x441 from h442); exact fun h => absurd h (by omega))⟩
          · refine hw_aloadn (aX12_rows 14 rfl) rfl ?_
            refine hw_ic (v := (1 : Int32)) (aX12_rows 15 rfl) (by decide) ?_
            refine hw_callV (Bs := [.int ((1 : Int32))]) (rest := []) (aX12_rows 16 rfl) wc_RX12_487 (by decide) rfl wi_yX12_fail wv_yX12_fail (c121 hS) (s121 hS) rfl rfl rfl (Nat.le_of_ble_eq_true rfl) (Nat.le_of_ble_eq_true rfl) (n_fail (d := d + 8) hS hF hI25 ((1 : Int32)) (by have := ((by decide : (1 : Int32).toInt = 1) : ((1 : Int32)).toInt = 1); omega)) (fun v444 sv445 p446 => ?_)
            obtain ⟨rfl, FI448, rfl, hI449, f450, t451⟩ := p446
            have rl452 : rl_e (FI448 149) (FI448 121 67) := by rw [show FI448 149 = FIv23 149 from gf_row f450 (c149 hS) (s149 hS) rfl rfl, show FI448 121 67 = FIv23 121 67 from gf_at f450 (c121 hS) (s121 hS) rfl rfl]; exact rl28
            have rl453 : rl_t (FI448 149) (FL 150) := by rw [show FI448 149 = FIv23 149 from gf_row f450 (c149 hS) (s149 hS) rfl rfl]; exact rl29
            have rl454 : rl_w (FI448 121 67) (FI448 149) (FL 150) (FI448 151) := by rw [show FI448 149 = FIv23 149 from gf_row f450 (c149 hS) (s149 hS) rfl rfl, show FI448 151 = FIv23 151 from gf_row f450 (c151 hS) (s151 hS) rfl rfl, show FI448 121 67 = FIv23 121 67 from gf_at f450 (c121 hS) (s121 hS) rfl rfl]; exact rl30
            obtain ⟨x455, h456⟩ : ∃ y, FI448 121 69 = y := ⟨_, rfl⟩
            have h456l := congrArg Int32.toInt h456
            have := i_rng x455
            show hw zk base _ _ _ _ _ [] _ _
            refine xw_goto (tgt := 54) (aX12_rows 17 rfl) (by decide) ?_
            refine hw_aloadn (aX12_rows 28 rfl) rfl ?_
            refine hw_get (v := .int (x455)) (aX12_rows 29 rfl) wf_RX12_475 (c121 hS) (s121 hS) (by decide) (congrArg Value.int (show FI448 121 69 = x455 from h456)) ?_
            refine hw_ifeq (tgt := 62) (aX12_rows 30 rfl) (by decide) rfl (fun cd457 => ?_) (fun cd457 => ?_)
            · omega
            · refine xw_vret (aX12_rows 31 rfl) rfl ?_
              exact ⟨rfl, FI448, rfl, hI449, (gf_tr ex_rf fr24 f450 rfl rfl rfl), (by have := congrArg Int32.toInt (show FI448 121 67 = x4 from (gf_at f450 (c121 hS) (s121 hS) rfl (kp26))); have := congrArg Int32.toInt (show FI448 121 68 = x41 from (gf_at f450 (c121 hS) (s121 hS) rfl (h42))); omega), (by have := congrArg Int32.toInt (show FI448 121 68 = x41 from (gf_at f450 (c121 hS) (s121 hS) rfl (h42))); omega), (by have := congrArg Int32.toInt (show FI448 121 68 = x41 from (gf_at f450 (c121 hS) (s121 hS) rfl (h42))); have := congrArg Int32.toInt (show FI448 121 73 = x46 from (gf_at f450 (c121 hS) (s121 hS) rfl (h47))); omega), (by have := congrArg Int32.toInt (show FI448 121 73 = x46 from (gf_at f450 (c121 hS) (s121 hS) rfl (h47))); omega), (by have := congrArg Int32.toInt (show FI448 121 69 = x455 from h456); exact fun h => absurd h (by omega)), (by have := congrArg Int32.toInt (show FI448 121 69 = x455 from h456); exact fun h => absurd h (by omega)), (by have := congrArg Int32.toInt (show FI448 121 69 = x455 from h456); exact fun h => absurd h (by omega))⟩
      exact hw_L (lp40 ((1001 - (x1).toInt : Int).toNat + 1) FI gf_rf hI (show FI 121 67 = x4 from h5) (show FI 121 78 = x14 from h15) (show rl_e (FI 149) (FI 121 67) from rel_tend) (show rl_t (FI 149) (FL 150) from rel_tok) (show rl_w (FI 121 67) (FI 149) (FL 150) (FI 151) from rel_wh) (by have := congrArg Int32.toInt (show FI 121 68 = x1 from h2); omega) (by have := congrArg Int32.toInt (show FI 121 69 = x7 from h8); omega) (by have := congrArg Int32.toInt (show FI 121 67 = x4 from h5); have := congrArg Int32.toInt (show FI 121 68 = x1 from h2); omega) (by have := congrArg Int32.toInt (show FI 121 68 = x1 from h2); omega) (by have := congrArg Int32.toInt (show FI 121 68 = x1 from h2); have := congrArg Int32.toInt (show FI 121 73 = x9 from h10); omega) (by have := congrArg Int32.toInt (show FI 121 73 = x9 from h10); omega) (by have := congrArg Int32.toInt (show FI 121 71 = x12 from h13); omega) (show gr_rws (kf (FI 149)) (wf (FL 150)) ((FI 159 (FI 121 78).toNatClampNeg).toInt).toNat (FI 121 68).toInt.toNat ((FI 121 68).toInt).toNat from (by have := congrArg Int32.toInt (show FI 121 68 = x1 from h2); exact (by { have := congrArg Int32.toInt (show FI 159 (FI 121 78).toNatClampNeg = x19 from (by rw [show FI 121 78 = x14 from h15]; exact h20)); rw [show ((FI 159 (FI 121 78).toNatClampNeg).toInt).toNat = 0 by omega, show ((FI 121 68).toInt).toNat = (FI 121 68).toInt.toNat by omega]; rfl }))) (show (FI 121 73).toInt - 4 * wp (FI 151) (FI 121 68) ≤ (FI 121 73).toInt - 4 * wp (FI 151) (FI 121 68) from (by have := congrArg Int32.toInt (show FI 121 73 = x9 from h10); exact by omega)) (show ∀ i : Nat, i ≠ (FI 121 78).toNatClampNeg → FI 159 i = FI 159 i from (by exact (fun i hi => rfl))) (show FI 149 = FI 149 from rfl) (show FI 151 = FI 151 from rfl) (by have := congrArg Int32.toInt (show FI 121 68 = x1 from h2); omega)) ⟨rfl, trivial⟩
end
section
/-! For means: what waits, how many values stand. -/
def rl_wm (w : Int32) (c b : Nat → Int32) : Prop := ∀ i : Nat, (i : Int) < w.toInt → (b i).toInt = 9 → (c i).toInt = 31 ∨ (c i).toInt = 32 ∨ (c i).toInt = 155 ∨ (257 ≤ (c i).toInt ∧ (c i).toInt ≤ 264)
theorem rl_wm_mono {w w2 : Int32} {c b : Nat → Int32} (h : rl_wm w c b) (h1 : w2.toInt ≤ w.toInt) : rl_wm w2 c b := fun i hi => h i (by omega)
theorem rl_wm_0 {w : Int32} {c b : Nat → Int32} (h : w.toInt = 0) : rl_wm w c b := fun i hi => by omega
theorem rl_wm_push {w w2 x y : Int32} {c b : Nat → Int32} (h : rl_wm w c b) (h0 : 0 ≤ w.toInt) (h1 : w2.toInt = w.toInt + 1) (hx : y.toInt = 9 → x.toInt = 31 ∨ x.toInt = 32 ∨ x.toInt = 155 ∨ (257 ≤ x.toInt ∧ x.toInt ≤ 264)) : rl_wm w2 (va_up c w.toNatClampNeg x) (va_up b w.toNatClampNeg y) := fun i hi => by
  have e2 : w.toNatClampNeg = w.toInt.toNat := i_cl rfl
  by_cases e : i = w.toNatClampNeg
  · subst e; simp only [va_up, if_pos]; exact hx
  · simp only [va_up, if_neg e]; exact h i (by omega)
theorem au_vc_red {b : Int} (hb : 1 ≤ b) : ∀ {l : List Int}, au_ok l → (∀ y r, l = y :: r → y ≠ 9) → (au_vc l : Int) - (au_vc (au_red b l) : Int) = (l.length : Int) - ((au_red b l).length : Int)
  | [], _, _ => by simp [au_red]
  | x :: l, h, hh => by
    obtain ⟨h1, h2, h3⟩ := h
    by_cases hx : b ≤ x
    · have hx9 := hh x l rfl
      have hx7 : 1 ≤ x ∧ x ≤ 7 := by unfold au_el at h1; omega
      have := au_vc_red hb h2 (fun y r e => ((h3 y r e).1 hx7).2)
      rw [au_red_pop hx]
      simp only [au_vc, List.length_cons]
      rw [if_pos (Or.inl hx7)]
      omega
    · rw [au_red_stop (by omega)]
      omega
theorem au_pop1 {b : Int} {x : Int} {l : List Int} (hb : 1 ≤ b) (hx : b ≤ x) (h : au_ok (x :: l)) (hh : ∀ y r, x :: l = y :: r → y ≠ 9) : (1 ≤ x ∧ x ≤ 7) ∧ au_ok l ∧ (∀ y r, l = y :: r → y ≠ 9) ∧ (au_vc (x :: l) : Int) = au_vc l + 1 := by
  obtain ⟨h1, h2, h3⟩ := h
  have hx9 := hh x l rfl
  have hx7 : 1 ≤ x ∧ x ≤ 7 := by unfold au_el at h1; omega
  refine ⟨hx7, h2, fun y r e => ((h3 y r e).1 hx7).2, ?_⟩
  simp only [au_vc]
  rw [if_pos (Or.inl hx7)]
  omega
theorem ma_0 {l : List Int} (h : au_ok l) (hh : ∀ y r, l = y :: r → y ≠ 9) : au_all (au_red 1 l) = au_all l ∧ au_ok (au_red 1 l) ∧ ∀ y r, au_red 1 l = y :: r → y < 1 := ⟨(ra_0 h hh).1, (ra_0 h hh).2.2.1, (ra_0 h hh).2.2.2⟩
theorem ma_s {l l1 : List Int} (e : l = -3 :: l1) (h : au_ok l) : au_all (au_red 1 l1) = au_all l ∧ au_ok (au_red 1 l1) ∧ (∀ y r, au_red 1 l1 = y :: r → y < 1) ∧ au_ok l1 ∧ (∀ y r, l1 = y :: r → y ≠ 9) ∧ (au_vc l : Int) = au_vc l1 + 1 := by
  have g := ra_s e h
  subst e
  refine ⟨g.1, g.2.2.1, g.2.2.2, h.2.1, fun y r e => by have := (h.2.2 y r e).2 (Or.inr rfl); omega, ?_⟩
  rw [show au_vc (-3 :: l1) = 1 + au_vc l1 from by simp [au_vc]]; omega
theorem rl_wm_b {w x : Int32} {c b : Nat → Int32} {k : Nat} (h : rl_wm w c b) (hx : x.toInt ≠ 9) : rl_wm w c (va_up b k x) := fun i hi => by
  by_cases e : i = k
  · subst e; simp only [va_up, if_pos]; exact fun h => absurd h hx
  · simp only [va_up, if_neg e]; exact h i hi
end
