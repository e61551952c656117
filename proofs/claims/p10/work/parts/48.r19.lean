def nX12_place : Nat := 0xb14f1d1c7800b42a0a00a3a00f11ed01b42aacffa7de01b56004de01b42a2a3e60041df001b6882fde01b42a6c00b42a2ae701b606102a0900a040101d0f00a7e701b6062a0b009e94f701142fde01b42a6c00b42a4600a0062ede01b42a6900b42a53009adb01b42a3e03f001b6032a3ded01b42af001b69e00112ae701b6042a08009f062ede01b42a6900b42a9000a0051b9500a7f001b69f00112a2902b62a1100a0041ba800a7de01b56004de01b42a2af001b660882fde01b42a6c00b42a50102ab1040099db01b42ae701b6052a08009e943601142fde01b42a6c00b42a1800a7e701b6042a0b009f062ede01b42a6900b42a53009a1bde01b56004de01b42a2a3c882fde01b42a6c00b42ab1ea01b56404ea01b42a2a0f02b65d102a2902b62a1a02b62a1c0099e401b65b102a
theorem bX12_place : cX12_place.data.toList.map UInt8.toNat = x_un nX12_place 305 := by decide +kernel
def iX12_place : List (Nat × Jvm.ClassFile.Instr × Nat) := [(0, .aload_n 0, 1), (1, .bipush 91, 2), (3, .invokevirtual 484, 3), (6, .ifCond .eq 28, 3), (9, .aload_n 0, 1), (10, .invokevirtual 538, 3), (13, .aload_n 0, 1), (14, .invokevirtual 553, 3), (17, .aload_n 0, 1), (18, .bipush 93, 2), (20, .invokevirtual 527, 3), (23, .aload_n 0, 1), (24, .aload_n 0, 1), (25, .getfield 490, 3), (28, .iconst 1, 1), (29, .isub, 1), (30, .putfield 490, 3), (33, .return_, 1), (34, .aload_n 0, 1), (35, .getfield 108, 3), (38, .aload_n 0, 1), (39, .getfield 478, 3), (42, .laload, 1), (43, .l2i, 1), (44, .istore_n 1, 1), (45, .aload_n 0, 1), (46, .aload_n 0, 1), (47, .getfield 478, 3), (50, .iconst 1, 1), (51, .iadd, 1), (52, .putfield 478, 3), (55, .iload_n 1, 1), (56, .ifCond .ne 83, 3), (59, .aload_n 0, 1), (60, .getfield 105, 3), (63, .aload_n 0, 1), (64, .getfield 478, 3), (67, .iaload, 1), (68, .iconst 3, 1), (69, .if_icmp .eq 11, 3), (72, .aload_n 0, 1), (73, .iconst 1, 1), (74, .invokevirtual 487, 3), (77, .goto 24, 3), (80, .aload_n 0, 1), (81, .getfield 108, 3), (84, .aload_n 0, 1), (85, .getfield 478, 3), (88, .laload, 1), (89, .ldc2_w 310, 3), (92, .lcmp, 1), (93, .ifCond .le 8, 3), (96, .aload_n 0, 1), (97, .iconst 2, 1), (98, .invokevirtual 487, 3), (101, .aload_n 0, 1), (102, .getfield 475, 3), (105, .ifCond .eq 4, 3), (108, .return_, 1), (109, .aload_n 0, 1), (110, .bipush 80, 2), (112, .aload_n 0, 1), (113, .getfield 108, 3), (116, .aload_n 0, 1), (117, .getfield 478, 3), (120, .laload, 1), (121, .l2i, 1), (122, .iadd, 1), (123, .invokevirtual 496, 3), (126, .aload_n 0, 1), (127, .aload_n 0, 1), (128, .getfield 478, 3), (131, .iconst 1, 1), (132, .iadd, 1), (133, .putfield 478, 3), (136, .goto 168, 3), (139, .iload_n 1, 1), (140, .iconst 1, 1), (141, .if_icmp .ne 17, 3), (144, .aload_n 0, 1), (145, .invokevirtual 553, 3), (148, .aload_n 0, 1), (149, .sipush 159, 3), (152, .invokevirtual 496, 3), (155, .goto 149, 3), (158, .iload_n 1, 1), (159, .iconst 2, 1), (160, .if_icmp .ne 144, 3), (163, .aload_n 0, 1), (164, .getfield 105, 3), (167, .aload_n 0, 1), (168, .getfield 478, 3), (171, .iaload, 1), (172, .iconst 3, 1), (173, .if_icmp .eq 8, 3), (176, .aload_n 0, 1), (177, .iconst 1, 1), (178, .invokevirtual 487, 3), (181, .aload_n 0, 1), (182, .sipush 158, 3), (185, .invokevirtual 496, 3), (188, .aload_n 0, 1), (189, .getfield 493, 3), (192, .istore_n 2, 1), (193, .aload_n 0, 1), (194, .iconst 0, 1), (195, .invokevirtual 496, 3), (198, .iconst 0, 1), (199, .istore_n 3, 1), (200, .aload_n 0, 1), (201, .getfield 475, 3), (204, .ifCond .ne 83, 3), (207, .aload_n 0, 1), (208, .getfield 105, 3), (211, .aload_n 0, 1), (212, .getfield 478, 3), (215, .iaload, 1), (216, .iconst 3, 1), (217, .if_icmp .ne 70, 3), (220, .aload_n 0, 1), (221, .getfield 108, 3), (224, .aload_n 0, 1), (225, .getfield 478, 3), (228, .laload, 1), (229, .ldc2_w 503, 3), (232, .lcmp, 1), (233, .ifCond .le 11, 3), (236, .aload_n 0, 1), (237, .iconst 3, 1), (238, .invokevirtual 487, 3), (241, .goto 15, 3), (244, .iload_n 3, 1), (245, .bipush 64, 2), (247, .if_icmp .ne 9, 3), (250, .aload_n 0, 1), (251, .bipush 6, 2), (253, .invokevirtual 487, 3), (256, .aload_n 0, 1), (257, .aload_n 0, 1), (258, .getfield 108, 3), (261, .aload_n 0, 1), (262, .getfield 478, 3), (265, .laload, 1), (266, .l2i, 1), (267, .invokevirtual 496, 3), (270, .iload_n 3, 1), (271, .iconst 1, 1), (272, .iadd, 1), (273, .istore_n 3, 1), (274, .aload_n 0, 1), (275, .aload_n 0, 1), (276, .getfield 478, 3), (279, .iconst 1, 1), (280, .iadd, 1), (281, .putfield 478, 3), (284, .goto (-84), 3), (287, .aload_n 0, 1), (288, .getfield 493, 3), (291, .sipush 4000, 3), (294, .if_icmp .gt 10, 3), (297, .aload_n 0, 1), (298, .getfield 120, 3), (301, .iload_n 2, 1), (302, .iload_n 3, 1), (303, .iastore, 1), (304, .return_, 1)]
theorem dX12_place : x_il nX12_place 305 iX12_place = true := by decide +kernel
theorem aX12_place (k : Nat) {pc : Nat} {i : Jvm.ClassFile.Instr} {len : Nat} (hk : iX12_place[k]? = some (pc, i, len)) : x_at xMM 230 pc i len yX12_place 4 none := ⟨cX12_place, rfl, x_il_ok bX12_place dX12_place k hk⟩
set_option maxHeartbeats 4000000 in
set_option maxRecDepth 100000 in
theorem n_place {base d n sl : Nat} {SH : Nat → Nat × Nat} {FI : Nat → Nat → Int32} {FL : Nat → Nat → Int64} {FR : Nat → Nat → Option Nat} (hS : h_S n SH) (hF : h_FR FR) (hI : g_I FI) (g0 : (FI 121 68).toInt < (FI 121 67).toInt - 1) (g1 : (FI 121 69).toInt = 0) (g2 : (FI 121 73).toInt ≤ 20 * (FI 121 68).toInt + 150) (g3 : 0 ≤ (FI 121 71).toInt ∧ (FI 121 71).toInt ≤ 12) (gg0 : ((kf (FI 149) (FI 121 68).toInt.toNat = 5 ∧ wf (FL 150) (FI 121 68).toInt.toNat = 91) ∨ (kf (FI 149) (FI 121 68).toInt.toNat = 2 ∧ (wf (FL 150) (FI 121 68).toInt.toNat = 0 ∨ wf (FL 150) (FI 121 68).toInt.toNat = 1 ∨ wf (FL 150) (FI 121 68).toInt.toNat = 2 ∨ wf (FL 150) (FI 121 68).toInt.toNat = 3)))) (rel_tend : rl_e (FI 149) (FI 121 67)) (rel_tok : rl_t (FI 149) (FL 150)) : hw base (d + 7) none 230 0 [(0, .ref (base + 121))] [] (n, sl, SH, FI, FL, FR) (h_V (fun s => ∃ FI', s = (n, sl, SH, FI', FL, FR) ∧ g_I FI' ∧ g_fr n SH [(121, 68), (121, 69), (121, 70), (121, 71), (121, 73), (121, 90), (121, 91)] [154, 164, 165, 166, 167, 168] [] FI FI' ∧ ((FI' 121 68).toInt ≤ (FI' 121 67).toInt - 1) ∧ ((FI 121 68).toInt ≤ (FI' 121 68).toInt) ∧ ((FI' 121 73).toInt ≤ (FI 121 73).toInt + 20 * ((FI' 121 68).toInt - (FI 121 68).toInt)) ∧ ((FI 121 73).toInt ≤ (FI' 121 73).toInt) ∧ (-800 ≤ (FI' 121 71).toInt ∧ (FI' 121 71).toInt ≤ 100) ∧ ((FI' 121 69).toInt = 0 → gr_pl (kf (FI 149)) (wf (FL 150)) (FI 121 68).toInt.toNat (FI' 121 68).toInt.toNat) ∧ ((FI' 121 69).toInt = 0 → (FI' 121 71).toInt = (FI 121 71).toInt))) := by
  obtain ⟨x1, h2⟩ : ∃ y, FI 121 68 = y := ⟨_, rfl⟩
  have h2l := congrArg Int32.toInt h2
  have b3 := gI_121_68 hI; rw [h2] at b3
  obtain ⟨x4, h5⟩ : ∃ y, FI 121 67 = y := ⟨_, rfl⟩
  have h5l := congrArg Int32.toInt h5
  have b6 := gI_121_67 hI; rw [h5] at b6
  obtain ⟨x7, h8⟩ : ∃ y, FI 121 69 = y := ⟨_, rfl⟩
  have h8l := congrArg Int32.toInt h8
  have := i_rng x7
  obtain ⟨x9, h10⟩ : ∃ y, FI 121 73 = y := ⟨_, rfl⟩
  have h10l := congrArg Int32.toInt h10
  have b11 := gI_121_73 hI; rw [h10] at b11
  obtain ⟨x12, h13⟩ : ∃ y, FI 121 71 = y := ⟨_, rfl⟩
  have h13l := congrArg Int32.toInt h13
  have := i_rng x12
  have e14 : 0 ≤ (x12).toInt ∧ (x12).toInt ≤ 12 := by omega
  have e15 : 0 ≤ (x7).toInt ∧ (x7).toInt ≤ 0 := by omega
  refine hw_aloadn (aX12_place 0 rfl) rfl ?_
  refine hw_bp (v := (91 : Int32)) (aX12_place 1 rfl) (by decide) ?_
  refine hw_callV (Bs := [.int ((91 : Int32))]) (rest := []) (aX12_place 2 rfl) wc_RX12_484 (by decide) rfl wi_yX12_isSign wv_yX12_isSign (c121 hS) (s121 hS) rfl rfl rfl (Nat.le_of_ble_eq_true rfl) (Nat.le_of_ble_eq_true rfl) (n_isSign (d := d + 6) hS hF hI ((91 : Int32)) (by have := congrArg Int32.toInt (show FI 121 68 = x1 from h2); have := congrArg Int32.toInt (show FI 121 67 = x4 from h5); omega) (show rl_e (FI 149) (FI 121 67) from rel_tend)) (fun v16 sv17 p18 => ?_)
  have := congrArg Int32.toInt (show FI 121 68 = x1 from h2)
  have := congrArg Int32.toInt (show FI 121 67 = x4 from h5)
  obtain ⟨r19, rfl, rfl, t21, t22, u23⟩ := p18
  show hw base _ _ _ _ _ [.int (r19)] _ _
  refine hw_ifeq (tgt := 34) (aX12_place 3 rfl) (by decide) rfl (fun cd24 => ?_) (fun cd24 => ?_)
  · clear t21
    refine hw_aloadn (aX12_place 18 rfl) rfl ?_
    refine hw_get (v := .ref (base + 150)) (aX12_place 19 rfl) wf_RX12_108 (c121 hS) (s121 hS) (by decide) (congrArg (fun r => va_rf (h_rf base r)) (r121_63 hF)) ?_
    refine hw_aloadn (aX12_place 20 rfl) rfl ?_
    refine hw_get (v := .int (x1)) (aX12_place 21 rfl) wf_RX12_478 (c121 hS) (s121 hS) (by decide) (congrArg Value.int (show FI 121 68 = x1 from h2)) ?_
    obtain ⟨x25, h26⟩ : ∃ y, FL 150 (x1).toNatClampNeg = y := ⟨_, rfl⟩
    have h26l := congrArg Int64.toInt h26
    have := l_rng x25
    refine hw_lald (v := x25) (aX12_place 22 rfl) (c150 hS) (s150 hS) (h_in rfl (by omega) (by omega)) (show FL 150 (x1).toNatClampNeg = x25 from h26) ?_
    have hW0 : wf (FL 150) (FI 121 68).toInt.toNat = (x25).toInt := (by { have e : (FI 121 68).toInt.toNat = (x1).toNatClampNeg := by { rw [i_cl (x := x1) rfl]; try omega }; show (FL 150 ((FI 121 68).toInt.toNat)).toInt = (x25).toInt; rw [e, show FL 150 (x1).toNatClampNeg = x25 from h26]; try omega })
    have hnb : ¬ gr_br (kf (FI 149)) (wf (FL 150)) (FI 121 68).toInt.toNat := fun h => absurd (u23.mpr (by rw [show ((91 : Int32)).toInt = (91 : Int) from by decide]; exact h)) (by omega)
    have e27 : 0 ≤ (x25).toInt ∧ (x25).toInt ≤ 3 := by rcases gg0 with h | h; { exact absurd h hnb }; { obtain ⟨h9, h⟩ := h; rw [hW0] at h; omega }
    refine xw_l2i (aX12_place 23 rfl) ?_
    refine hw_tie (A := (x25).toInt) (l_2i rfl (by omega) (by omega)) (fun x28 e29 => ?_)
    refine xw_istoren (L2 := [(1, .int (x28)), (0, .ref (base + 121))]) (aX12_place 24 rfl) (by decide) rfl ?_
    refine hw_aloadn (aX12_place 25 rfl) rfl ?_
    refine hw_aloadn (aX12_place 26 rfl) rfl ?_
    refine hw_get (v := .int (x1)) (aX12_place 27 rfl) wf_RX12_478 (c121 hS) (s121 hS) (by decide) (congrArg Value.int (show FI 121 68 = x1 from h2)) ?_
    refine hw_ic (v := (1 : Int32)) (aX12_place 28 rfl) (by decide) ?_
    refine xw_iadd (aX12_place 29 rfl) ?_
    refine hw_tie (A := ((x1).toInt) + (1)) (i_add rfl (by decide : (1 : Int32).toInt = 1) (by omega) (by omega)) (fun x30 e31 => ?_)
    refine hv_puti (aX12_place 30 rfl) wf_RX12_478 (c121 hS) (s121 hS) (by decide) rfl rfl (fun FI32 u33 => ?_)
    have rl34 : rl_e (FI32 149) (FI32 121 67) := by rw [show FI32 149 = FI 149 from up_row u33 (by decide) rfl, show FI32 121 67 = FI 121 67 from up_k u33 (by decide) rfl]; exact rel_tend
    have rl35 : rl_t (FI32 149) (FL 150) := by rw [show FI32 149 = FI 149 from up_row u33 (by decide) rfl]; exact rel_tok
    have hI36 : g_I FI32 := gU_121_68 hI u33 (by have := (e31 : (x30).toInt = ((x1).toInt) + (1)); omega) (by have := (e31 : (x30).toInt = ((x1).toInt) + (1)); omega)
    refine xw_iloadn (aX12_place 31 rfl) rfl ?_
    refine hw_ifne (tgt := 139) (aX12_place 32 rfl) (by decide) e29 (fun cd37 => ?_) (fun cd37 => ?_)
    · refine xw_iloadn (aX12_place 76 rfl) rfl ?_
      refine hw_ic (v := (1 : Int32)) (aX12_place 77 rfl) (by decide) ?_
      refine hw_icne (tgt := 158) (aX12_place 78 rfl) (by decide) e29 (by decide : (1 : Int32).toInt = 1) (fun cd38 => ?_) (fun cd38 => ?_)
      · refine xw_iloadn (aX12_place 85 rfl) rfl ?_
        refine hw_ic (v := (2 : Int32)) (aX12_place 86 rfl) (by decide) ?_
        refine hw_icne (tgt := 304) (aX12_place 87 rfl) (by decide) e29 (by decide : (2 : Int32).toInt = 2) (fun cd39 => ?_) (fun cd39 => ?_)
        · refine xw_vret (aX12_place 165 rfl) rfl ?_
          exact ⟨rfl, FI32, rfl, hI36, (gf_f gf_rf u33 (by decide)), (by have := congrArg Int32.toInt (show FI32 121 67 = x4 from (up_k u33 (by decide) (h5))); have := congrArg Int32.toInt (show FI32 121 68 = x30 from up_eq u33); have := (e31 : (x30).toInt = ((x1).toInt) + (1)); omega), (by have := congrArg Int32.toInt (show FI32 121 68 = x30 from up_eq u33); have := (e31 : (x30).toInt = ((x1).toInt) + (1)); omega), (by have := congrArg Int32.toInt (show FI32 121 68 = x30 from up_eq u33); have := (e31 : (x30).toInt = ((x1).toInt) + (1)); have := congrArg Int32.toInt (show FI32 121 73 = x9 from (up_k u33 (by decide) (h10))); omega), (by have := congrArg Int32.toInt (show FI32 121 73 = x9 from (up_k u33 (by decide) (h10))); omega), (by have := congrArg Int32.toInt (show FI32 121 71 = x12 from (up_k u33 (by decide) (h13))); omega), (by have := congrArg Int32.toInt (show FI32 121 68 = x30 from up_eq u33); have := (e31 : (x30).toInt = ((x1).toInt) + (1)); have := congrArg Int32.toInt (show FI32 121 69 = x7 from (up_k u33 (by decide) (h8))); intro h69; exact Or.inr (Or.inr (Or.inr (Or.inr ⟨hnb, by omega, by omega⟩)))), (by have := congrArg Int32.toInt (show FI32 121 71 = x12 from (up_k u33 (by decide) (h13))); exact fun _ => by omega)⟩
        · refine hw_aloadn (aX12_place 88 rfl) rfl ?_
          refine hw_get (v := .ref (base + 149)) (aX12_place 89 rfl) wf_RX12_105 (c121 hS) (s121 hS) (by decide) (congrArg (fun r => va_rf (h_rf base r)) (r121_62 hF)) ?_
          refine hw_aloadn (aX12_place 90 rfl) rfl ?_
          refine hw_get (v := .int (x30)) (aX12_place 91 rfl) wf_RX12_478 (c121 hS) (s121 hS) (by decide) (congrArg Value.int (show FI32 121 68 = x30 from up_eq u33)) ?_
          obtain ⟨x40, h41⟩ : ∃ y, FI32 149 (x30).toNatClampNeg = y := ⟨_, rfl⟩
          have h41l := congrArg Int32.toInt h41
          have := i_rng x40
          refine hw_iald (v := x40) (aX12_place 92 rfl) (c149 hS) (s149 hS) (h_in e31 (by omega) (by omega)) (show FI32 149 (x30).toNatClampNeg = x40 from h41) ?_
          refine hw_ic (v := (3 : Int32)) (aX12_place 93 rfl) (by decide) ?_
          refine hw_iceq (tgt := 181) (aX12_place 94 rfl) (by decide) rfl (by decide : (3 : Int32).toInt = 3) (fun cd42 => ?_) (fun cd42 => ?_)
          · refine hw_aloadn (aX12_place 98 rfl) rfl ?_
            refine hw_sp (v := (158 : Int32)) (aX12_place 99 rfl) (by decide) ?_
            refine hw_callV (Bs := [.int ((158 : Int32))]) (rest := []) (aX12_place 100 rfl) wc_RX12_496 (by decide) rfl wi_yX12_emit wv_yX12_emit (c121 hS) (s121 hS) rfl rfl rfl (Nat.le_of_ble_eq_true rfl) (Nat.le_of_ble_eq_true rfl) (n_emit0 (d := d + 6) hS hF hI36 ((158 : Int32)) (by have := congrArg Int32.toInt (show FI32 121 73 = x9 from (up_k u33 (by decide) (h10))); omega)) (fun v43 sv44 p45 => ?_)
            have := congrArg Int32.toInt (show FI32 121 73 = x9 from (up_k u33 (by decide) (h10)))
            obtain ⟨rfl, FI47, rfl, hI48, f49, t50⟩ := p45
            have rl51 : rl_e (FI47 149) (FI47 121 67) := by rw [show FI47 149 = FI32 149 from gf_row f49 (c149 hS) (s149 hS) rfl rfl, show FI47 121 67 = FI32 121 67 from gf_at f49 (c121 hS) (s121 hS) rfl rfl]; exact rl34
            have rl52 : rl_t (FI47 149) (FL 150) := by rw [show FI47 149 = FI32 149 from gf_row f49 (c149 hS) (s149 hS) rfl rfl]; exact rl35
            obtain ⟨x53, h54⟩ : ∃ y, FI47 121 73 = y := ⟨_, rfl⟩
            have h54l := congrArg Int32.toInt h54
            have b55 := gI_121_73 hI48; rw [h54] at b55
            show hw base _ _ _ _ _ [] _ _
            refine hw_aloadn (aX12_place 101 rfl) rfl ?_
            refine hw_get (v := .int (x53)) (aX12_place 102 rfl) wf_RX12_493 (c121 hS) (s121 hS) (by decide) (congrArg Value.int (show FI47 121 73 = x53 from h54)) ?_
            refine xw_istoren (L2 := [(2, .int (x53)), (1, .int (x28)), (0, .ref (base + 121))]) (aX12_place 103 rfl) (by decide) rfl ?_
            refine hw_aloadn (aX12_place 104 rfl) rfl ?_
            refine hw_ic (v := (0 : Int32)) (aX12_place 105 rfl) (by decide) ?_
            refine hw_callV (Bs := [.int ((0 : Int32))]) (rest := []) (aX12_place 106 rfl) wc_RX12_496 (by decide) rfl wi_yX12_emit wv_yX12_emit (c121 hS) (s121 hS) rfl rfl rfl (Nat.le_of_ble_eq_true rfl) (Nat.le_of_ble_eq_true rfl) (n_emit0 (d := d + 6) hS hF hI48 ((0 : Int32)) (by have := congrArg Int32.toInt (show FI47 121 73 = x53 from h54); omega)) (fun v56 sv57 p58 => ?_)
            have := congrArg Int32.toInt (show FI47 121 73 = x53 from h54)
            obtain ⟨rfl, FI60, rfl, hI61, f62, t63⟩ := p58
            have rl64 : rl_e (FI60 149) (FI60 121 67) := by rw [show FI60 149 = FI47 149 from gf_row f62 (c149 hS) (s149 hS) rfl rfl, show FI60 121 67 = FI47 121 67 from gf_at f62 (c121 hS) (s121 hS) rfl rfl]; exact rl51
            have rl65 : rl_t (FI60 149) (FL 150) := by rw [show FI60 149 = FI47 149 from gf_row f62 (c149 hS) (s149 hS) rfl rfl]; exact rl52
            obtain ⟨x66, h67⟩ : ∃ y, FI60 121 73 = y := ⟨_, rfl⟩
            have h67l := congrArg Int32.toInt h67
            have b68 := gI_121_73 hI61; rw [h67] at b68
            show hw base _ _ _ _ _ [] _ _
            refine hw_ic (v := (0 : Int32)) (aX12_place 107 rfl) (by decide) ?_
            refine xw_istoren (L2 := [(3, .int ((0 : Int32))), (2, .int (x53)), (1, .int (x28)), (0, .ref (base + 121))]) (aX12_place 108 rfl) (by decide) rfl ?_
            refine hw_aloadn (aX12_place 109 rfl) rfl ?_
            refine hw_get (v := .int (x7)) (aX12_place 110 rfl) wf_RX12_475 (c121 hS) (s121 hS) (by decide) (congrArg Value.int (show FI60 121 69 = x7 from (gf_at f62 (c121 hS) (s121 hS) rfl ((gf_at f49 (c121 hS) (s121 hS) rfl ((up_k u33 (by decide) (h8)))))))) ?_
            refine hw_ifne (tgt := 287) (aX12_place 111 rfl) (by decide) rfl (fun cd69 => ?_) (fun cd69 => ?_)
            · omega
            · have lp87 : ∀ (m : Nat) (y3 : Int32) (FIv70 : Nat → Nat → Int32), (g_fr n SH [(121, 68), (121, 69), (121, 70), (121, 71), (121, 73), (121, 90), (121, 91)] [154, 164, 165, 166, 167, 168] [] FI FIv70) → (g_I FIv70) → (FIv70 121 67 = x4) → (FIv70 121 71 = x12) → (FIv70 149 (x30).toNatClampNeg = x40) → (rl_e (FIv70 149) (FIv70 121 67)) → (rl_t (FIv70 149) (FL 150)) → (0 ≤ (y3).toInt ∧ (y3).toInt ≤ 64) → (0 ≤ (FIv70 121 68).toInt ∧ (FIv70 121 68).toInt ≤ 1000) → ((FIv70 121 69).toInt = 0) → ((FIv70 121 68).toInt ≤ (x4).toInt - 1) → ((y3).toInt = (FIv70 121 68).toInt - (FI 121 68).toInt - 1) → ((FIv70 121 73).toInt ≤ (FI 121 73).toInt + 20 * ((FIv70 121 68).toInt - (FI 121 68).toInt)) → ((FI 121 73).toInt ≤ (FIv70 121 73).toInt) → ((x53).toInt < (FIv70 121 73).toInt) → (∀ i : Nat, (FI 121 68).toInt.toNat < i → i < ((FIv70 121 68).toInt).toNat → kf (FI 149) i = 3) → (FIv70 149 = FI 149) → 1001 - (FIv70 121 68).toInt < m → hw base (d + 7) none 230 207 [(3, .int (y3)), (2, .int (x53)), (0, .ref (base + 121))] [] (n, sl, SH, FIv70, FL, FR) (h_V (fun s => ∃ FI', s = (n, sl, SH, FI', FL, FR) ∧ g_I FI' ∧ g_fr n SH [(121, 68), (121, 69), (121, 70), (121, 71), (121, 73), (121, 90), (121, 91)] [154, 164, 165, 166, 167, 168] [] FI FI' ∧ ((FI' 121 68).toInt ≤ (FI' 121 67).toInt - 1) ∧ ((FI 121 68).toInt ≤ (FI' 121 68).toInt) ∧ ((FI' 121 73).toInt ≤ (FI 121 73).toInt + 20 * ((FI' 121 68).toInt - (FI 121 68).toInt)) ∧ ((FI 121 73).toInt ≤ (FI' 121 73).toInt) ∧ (-800 ≤ (FI' 121 71).toInt ∧ (FI' 121 71).toInt ≤ 100) ∧ ((FI' 121 69).toInt = 0 → gr_pl (kf (FI 149)) (wf (FL 150)) (FI 121 68).toInt.toNat (FI' 121 68).toInt.toNat) ∧ ((FI' 121 69).toInt = 0 → (FI' 121 71).toInt = (FI 121 71).toInt))) := by
                intro m
                induction m with
                | zero => intro y3 FIv70 fr71 hI72 kp73 kp74 kp75 rl76 rl77 iv78 iv79 iv80 iv81 iv82 iv83 iv84 iv85 xi207_0 rw86 hm; omega
                | succ m ih =>
                  intro y3 FIv70 fr71 hI72 kp73 kp74 kp75 rl76 rl77 iv78 iv79 iv80 iv81 iv82 iv83 iv84 iv85 xi207_0 rw86 hm
                  have rg_y3 := i_rng y3
                  have := congrArg Int32.toInt kp73
                  have := congrArg Int32.toInt kp74
                  have := congrArg Int32.toInt kp75
                  obtain ⟨x88, h89⟩ : ∃ y, FIv70 121 68 = y := ⟨_, rfl⟩
                  have h89l := congrArg Int32.toInt h89
                  have b90 := gI_121_68 hI72; rw [h89] at b90
                  obtain ⟨x91, h92⟩ : ∃ y, FIv70 121 69 = y := ⟨_, rfl⟩
                  have h92l := congrArg Int32.toInt h92
                  have := i_rng x91
                  obtain ⟨x93, h94⟩ : ∃ y, FIv70 121 73 = y := ⟨_, rfl⟩
                  have h94l := congrArg Int32.toInt h94
                  have b95 := gI_121_73 hI72; rw [h94] at b95
                  refine hw_aloadn (aX12_place 112 rfl) rfl ?_
                  refine hw_get (v := .ref (base + 149)) (aX12_place 113 rfl) wf_RX12_105 (c121 hS) (s121 hS) (by decide) (congrArg (fun r => va_rf (h_rf base r)) (r121_62 hF)) ?_
                  refine hw_aloadn (aX12_place 114 rfl) rfl ?_
                  refine hw_get (v := .int (x88)) (aX12_place 115 rfl) wf_RX12_478 (c121 hS) (s121 hS) (by decide) (congrArg Value.int (show FIv70 121 68 = x88 from h89)) ?_
                  obtain ⟨x96, h97⟩ : ∃ y, FIv70 149 (x88).toNatClampNeg = y := ⟨_, rfl⟩
                  have h97l := congrArg Int32.toInt h97
                  have := i_rng x96
                  refine hw_iald (v := x96) (aX12_place 116 rfl) (c149 hS) (s149 hS) (h_in rfl (by omega) (by omega)) (show FIv70 149 (x88).toNatClampNeg = x96 from h97) ?_
                  refine hw_ic (v := (3 : Int32)) (aX12_place 117 rfl) (by decide) ?_
                  refine hw_icne (tgt := 287) (aX12_place 118 rfl) (by decide) rfl (by decide : (3 : Int32).toInt = 3) (fun cd98 => ?_) (fun cd98 => ?_)
                  · have hby : kf (FI 149) (x88).toInt.toNat ≠ 3 := (by { have e : (x88).toInt.toNat = (x88).toNatClampNeg := by { rw [i_cl (x := x88) rfl]; try omega }; show (FI 149 ((x88).toInt.toNat)).toInt ≠ 3; rw [e, ← (show FIv70 149 = FI 149 from rw86), show FIv70 149 (x88).toNatClampNeg = x96 from h97]; try omega })
                    refine hw_aloadn (aX12_place 156 rfl) rfl ?_
                    refine hw_get (v := .int (x93)) (aX12_place 157 rfl) wf_RX12_493 (c121 hS) (s121 hS) (by decide) (congrArg Value.int (show FIv70 121 73 = x93 from h94)) ?_
                    refine hw_sp (v := (4000 : Int32)) (aX12_place 158 rfl) (by decide) ?_
                    refine hw_icgt (tgt := 304) (aX12_place 159 rfl) (by decide) rfl (by decide : (4000 : Int32).toInt = 4000) (fun cd99 => ?_) (fun cd99 => ?_)
                    · refine xw_vret (aX12_place 165 rfl) rfl ?_
                      exact ⟨rfl, FIv70, rfl, hI72, fr71, (by have := congrArg Int32.toInt (show FIv70 121 67 = x4 from kp73); have := congrArg Int32.toInt (show FIv70 121 68 = x88 from h89); omega), (by have := congrArg Int32.toInt (show FIv70 121 68 = x88 from h89); omega), (by have := congrArg Int32.toInt (show FIv70 121 68 = x88 from h89); have := congrArg Int32.toInt (show FIv70 121 73 = x93 from h94); omega), (by have := congrArg Int32.toInt (show FIv70 121 73 = x93 from h94); omega), (by have := congrArg Int32.toInt (show FIv70 121 71 = x12 from kp74); omega), (by have := congrArg Int32.toInt (show FIv70 121 68 = x88 from h89); have := congrArg Int32.toInt (show FIv70 121 69 = x91 from h92); intro h69; exact Or.inr (Or.inr (Or.inr (Or.inl ⟨hnb, by omega, by omega, fun i h1 h2 => xi207_0 i h1 (by omega), by rw [show (FIv70 121 68).toInt.toNat = (x88).toInt.toNat by omega]; exact hby, by omega⟩)))), (by have := congrArg Int32.toInt (show FIv70 121 71 = x12 from kp74); exact fun _ => by omega)⟩
                    · refine hw_aloadn (aX12_place 160 rfl) rfl ?_
                      refine hw_get (v := .ref (base + 154)) (aX12_place 161 rfl) wf_RX12_120 (c121 hS) (s121 hS) (by decide) (congrArg (fun r => va_rf (h_rf base r)) (r121_72 hF)) ?_
                      refine xw_iloadn (aX12_place 162 rfl) rfl ?_
                      refine xw_iloadn (aX12_place 163 rfl) rfl ?_
                      refine hv_iast (k := (x53).toNatClampNeg) (aX12_place 164 rfl) (c154 hS) (s154 hS) (h_in rfl (by omega) (by omega)) rfl (fun FI100 u101 => ?_)
                      have rl102 : rl_e (FI100 149) (FI100 121 67) := by rw [show FI100 149 = FIv70 149 from up_row u101 (by decide) rfl, show FI100 121 67 = FIv70 121 67 from up_c u101 (by decide) rfl]; exact rl76
                      have rl103 : rl_t (FI100 149) (FL 150) := by rw [show FI100 149 = FIv70 149 from up_row u101 (by decide) rfl]; exact rl77
                      have hI104 : g_I FI100 := gU_F hI72 u101 rfl
                      refine xw_vret (aX12_place 165 rfl) rfl ?_
                      exact ⟨rfl, FI100, rfl, hI104, (gf_a fr71 u101 (by decide)), (by have := congrArg Int32.toInt (show FI100 121 67 = x4 from (up_c u101 (by decide) (kp73))); have := congrArg Int32.toInt (show FI100 121 68 = x88 from (up_c u101 (by decide) (h89))); omega), (by have := congrArg Int32.toInt (show FI100 121 68 = x88 from (up_c u101 (by decide) (h89))); omega), (by have := congrArg Int32.toInt (show FI100 121 68 = x88 from (up_c u101 (by decide) (h89))); have := congrArg Int32.toInt (show FI100 121 73 = x93 from (up_c u101 (by decide) (h94))); omega), (by have := congrArg Int32.toInt (show FI100 121 73 = x93 from (up_c u101 (by decide) (h94))); omega), (by have := congrArg Int32.toInt (show FI100 121 71 = x12 from (up_c u101 (by decide) (kp74))); omega), (by have := congrArg Int32.toInt (show FI100 121 68 = x88 from (up_c u101 (by decide) (h89))); have := congrArg Int32.toInt (show FI100 121 69 = x91 from (up_c u101 (by decide) (h92))); intro h69; exact Or.inr (Or.inr (Or.inr (Or.inl ⟨hnb, by omega, by omega, fun i h1 h2 => xi207_0 i h1 (by omega), by rw [show (FI100 121 68).toInt.toNat = (x88).toInt.toNat by omega]; exact hby, by omega⟩)))), (by have := congrArg Int32.toInt (show FI100 121 71 = x12 from (up_c u101 (by decide) (kp74))); exact fun _ => by omega)⟩
                  · have hk207 : kf (FI 149) (x88).toInt.toNat = 3 := (by { have e : (x88).toInt.toNat = (x88).toNatClampNeg := by { rw [i_cl (x := x88) rfl]; try omega }; show (FI 149 ((x88).toInt.toNat)).toInt = 3; rw [e, ← (show FIv70 149 = FI 149 from rw86), show FIv70 149 (x88).toNatClampNeg = x96 from h97]; try omega })
                    have := congrArg Int32.toInt (show FIv70 121 67 = x4 from kp73)
                    have hne104 := rl_e_ne rl76 (t := x88) (by omega)
                    refine hw_aloadn (aX12_place 119 rfl) rfl ?_
                    refine hw_get (v := .ref (base + 150)) (aX12_place 120 rfl) wf_RX12_108 (c121 hS) (s121 hS) (by decide) (congrArg (fun r => va_rf (h_rf base r)) (r121_63 hF)) ?_
                    refine hw_aloadn (aX12_place 121 rfl) rfl ?_
                    refine hw_get (v := .int (x88)) (aX12_place 122 rfl) wf_RX12_478 (c121 hS) (s121 hS) (by decide) (congrArg Value.int (show FIv70 121 68 = x88 from h89)) ?_
                    obtain ⟨x105, h106⟩ : ∃ y, FL 150 (x88).toNatClampNeg = y := ⟨_, rfl⟩
                    have h106l := congrArg Int64.toInt h106
                    have := l_rng x105
                    refine hw_lald (v := x105) (aX12_place 123 rfl) (c150 hS) (s150 hS) (h_in rfl (by omega) (by omega)) (show FL 150 (x88).toNatClampNeg = x105 from h106) ?_
                    refine xw_ldc2 (aX12_place 124 rfl) wk_RX12_503 ?_
                    have j178 : ∀ (g138 : Int32) (FIj133 : Nat → Nat → Int32), (g_fr n SH [(121, 68), (121, 69), (121, 70), (121, 71), (121, 73), (121, 90), (121, 91)] [154, 164, 165, 166, 167, 168] [] FI FIj133) → (g_I FIj133) → (FIj133 121 67 = x4) → (FIj133 121 68 = x88) → (FIj133 121 69 = g138) → (FIj133 121 71 = x12) → (FIj133 121 73 = x93) → (FIj133 149 (x30).toNatClampNeg = x40) → (FIj133 149 (x88).toNatClampNeg = x96) → (FIj133 149 = FI 149) → (rl_e (FIj133 149) (FIj133 121 67)) → (rl_t (FIj133 149) (FL 150)) → ((g138).toInt = 0 → (y3).toInt ≤ 63) → hw base (d + 7) none 230 256 [(0, .ref (base + 121)), (2, .int (x53)), (3, .int (y3))] [] (n, sl, SH, FIj133, FL, FR) (h_V (fun s => ∃ FI', s = (n, sl, SH, FI', FL, FR) ∧ g_I FI' ∧ g_fr n SH [(121, 68), (121, 69), (121, 70), (121, 71), (121, 73), (121, 90), (121, 91)] [154, 164, 165, 166, 167, 168] [] FI FI' ∧ ((FI' 121 68).toInt ≤ (FI' 121 67).toInt - 1) ∧ ((FI 121 68).toInt ≤ (FI' 121 68).toInt) ∧ ((FI' 121 73).toInt ≤ (FI 121 73).toInt + 20 * ((FI' 121 68).toInt - (FI 121 68).toInt)) ∧ ((FI 121 73).toInt ≤ (FI' 121 73).toInt) ∧ (-800 ≤ (FI' 121 71).toInt ∧ (FI' 121 71).toInt ≤ 100) ∧ ((FI' 121 69).toInt = 0 → gr_pl (kf (FI 149)) (wf (FL 150)) (FI 121 68).toInt.toNat (FI' 121 68).toInt.toNat) ∧ ((FI' 121 69).toInt = 0 → (FI' 121 71).toInt = (FI 121 71).toInt))) := by
                      intro g138 FIj133 fr134 hI135 kp136 kp137 kp139 kp140 kp141 kp142 kp143 rw144 rl145 rl146 fc256_0
                      have rg_g138 := i_rng g138
                      have := congrArg Int32.toInt kp136
                      have := congrArg Int32.toInt kp137
                      have := congrArg Int32.toInt kp139
                      have := congrArg Int32.toInt kp140
                      have := congrArg Int32.toInt kp141
                      have := congrArg Int32.toInt kp142
                      have := congrArg Int32.toInt kp143
                      refine hw_aloadn (aX12_place 137 rfl) rfl ?_
                      refine hw_aloadn (aX12_place 138 rfl) rfl ?_
                      refine hw_get (v := .ref (base + 150)) (aX12_place 139 rfl) wf_RX12_108 (c121 hS) (s121 hS) (by decide) (congrArg (fun r => va_rf (h_rf base r)) (r121_63 hF)) ?_
                      refine hw_aloadn (aX12_place 140 rfl) rfl ?_
                      refine hw_get (v := .int (x88)) (aX12_place 141 rfl) wf_RX12_478 (c121 hS) (s121 hS) (by decide) (congrArg Value.int (show FIj133 121 68 = x88 from kp137)) ?_
                      refine hw_lald (v := x105) (aX12_place 142 rfl) (c150 hS) (s150 hS) (h_in rfl (by omega) (by omega)) (show FL 150 (x88).toNatClampNeg = x105 from h106) ?_
                      refine xw_l2i (aX12_place 143 rfl) ?_
                      refine hw_ti (fun x179 => ?_)
                      have b180 := i_rng x179
                      refine hw_callV (Bs := [.int (x179)]) (rest := []) (aX12_place 144 rfl) wc_RX12_496 (by decide) rfl wi_yX12_emit wv_yX12_emit (c121 hS) (s121 hS) rfl rfl rfl (Nat.le_of_ble_eq_true rfl) (Nat.le_of_ble_eq_true rfl) (n_emit0 (d := d + 6) hS hF hI135 (x179) (by have := congrArg Int32.toInt (show FIj133 121 73 = x93 from kp141); omega)) (fun v181 sv182 p183 => ?_)
                      have := congrArg Int32.toInt (show FIj133 121 73 = x93 from kp141)
                      obtain ⟨rfl, FI185, rfl, hI186, f187, t188⟩ := p183
                      have rl189 : rl_e (FI185 149) (FI185 121 67) := by rw [show FI185 149 = FIj133 149 from gf_row f187 (c149 hS) (s149 hS) rfl rfl, show FI185 121 67 = FIj133 121 67 from gf_at f187 (c121 hS) (s121 hS) rfl rfl]; exact rl145
                      have rl190 : rl_t (FI185 149) (FL 150) := by rw [show FI185 149 = FIj133 149 from gf_row f187 (c149 hS) (s149 hS) rfl rfl]; exact rl146
                      obtain ⟨x191, h192⟩ : ∃ y, FI185 121 73 = y := ⟨_, rfl⟩
                      have h192l := congrArg Int32.toInt h192
                      have b193 := gI_121_73 hI186; rw [h192] at b193
                      show hw base _ _ _ _ _ [] _ _
                      refine xw_iloadn (aX12_place 145 rfl) rfl ?_
                      refine hw_ic (v := (1 : Int32)) (aX12_place 146 rfl) (by decide) ?_
                      refine xw_iadd (aX12_place 147 rfl) ?_
                      refine hw_tie (A := ((y3).toInt) + (1)) (i_add rfl (by decide : (1 : Int32).toInt = 1) (by omega) (by omega)) (fun x194 e195 => ?_)
                      refine xw_istoren (L2 := [(3, .int (x194)), (0, .ref (base + 121)), (2, .int (x53))]) (aX12_place 148 rfl) (by decide) rfl ?_
                      refine hw_aloadn (aX12_place 149 rfl) rfl ?_
                      refine hw_aloadn (aX12_place 150 rfl) rfl ?_
                      refine hw_get (v := .int (x88)) (aX12_place 151 rfl) wf_RX12_478 (c121 hS) (s121 hS) (by decide) (congrArg Value.int (show FI185 121 68 = x88 from (gf_at f187 (c121 hS) (s121 hS) rfl (kp137)))) ?_
                      refine hw_ic (v := (1 : Int32)) (aX12_place 152 rfl) (by decide) ?_
                      refine xw_iadd (aX12_place 153 rfl) ?_
                      refine hw_tie (A := ((x88).toInt) + (1)) (i_add rfl (by decide : (1 : Int32).toInt = 1) (by omega) (by omega)) (fun x196 e197 => ?_)
                      refine hv_puti (aX12_place 154 rfl) wf_RX12_478 (c121 hS) (s121 hS) (by decide) rfl rfl (fun FI198 u199 => ?_)
                      have rl200 : rl_e (FI198 149) (FI198 121 67) := by rw [show FI198 149 = FI185 149 from up_row u199 (by decide) rfl, show FI198 121 67 = FI185 121 67 from up_k u199 (by decide) rfl]; exact rl189
                      have rl201 : rl_t (FI198 149) (FL 150) := by rw [show FI198 149 = FI185 149 from up_row u199 (by decide) rfl]; exact rl190
                      have hI202 : g_I FI198 := gU_121_68 hI186 u199 (by have := (e197 : (x196).toInt = ((x88).toInt) + (1)); omega) (by have := (e197 : (x196).toInt = ((x88).toInt) + (1)); omega)
                      refine xw_goto (tgt := 200) (aX12_place 155 rfl) (by decide) ?_
                      refine hw_aloadn (aX12_place 109 rfl) rfl ?_
                      refine hw_get (v := .int (g138)) (aX12_place 110 rfl) wf_RX12_475 (c121 hS) (s121 hS) (by decide) (congrArg Value.int (show FI198 121 69 = g138 from (up_k u199 (by decide) ((gf_at f187 (c121 hS) (s121 hS) rfl (kp139)))))) ?_
                      refine hw_ifne (tgt := 287) (aX12_place 111 rfl) (by decide) rfl (fun cd203 => ?_) (fun cd203 => ?_)
                      · refine hw_aloadn (aX12_place 156 rfl) rfl ?_
                        refine hw_get (v := .int (x191)) (aX12_place 157 rfl) wf_RX12_493 (c121 hS) (s121 hS) (by decide) (congrArg Value.int (show FI198 121 73 = x191 from (up_k u199 (by decide) (h192)))) ?_
                        refine hw_sp (v := (4000 : Int32)) (aX12_place 158 rfl) (by decide) ?_
                        refine hw_icgt (tgt := 304) (aX12_place 159 rfl) (by decide) rfl (by decide : (4000 : Int32).toInt = 4000) (fun cd204 => ?_) (fun cd204 => ?_)
                        · refine xw_vret (aX12_place 165 rfl) rfl ?_
                          exact ⟨rfl, FI198, rfl, hI202, (gf_f (gf_tr ex_rf fr134 f187 rfl rfl rfl) u199 (by decide)), (by have := congrArg Int32.toInt (show FI198 121 67 = x4 from (up_k u199 (by decide) ((gf_at f187 (c121 hS) (s121 hS) rfl (kp136))))); have := congrArg Int32.toInt (show FI198 121 68 = x196 from up_eq u199); have := (e197 : (x196).toInt = ((x88).toInt) + (1)); omega), (by have := congrArg Int32.toInt (show FI198 121 68 = x196 from up_eq u199); have := (e197 : (x196).toInt = ((x88).toInt) + (1)); omega), (by have := congrArg Int32.toInt (show FI198 121 68 = x196 from up_eq u199); have := (e197 : (x196).toInt = ((x88).toInt) + (1)); have := congrArg Int32.toInt (show FI198 121 73 = x191 from (up_k u199 (by decide) (h192))); omega), (by have := congrArg Int32.toInt (show FI198 121 73 = x191 from (up_k u199 (by decide) (h192))); omega), (by have := congrArg Int32.toInt (show FI198 121 71 = x12 from (up_k u199 (by decide) ((gf_at f187 (c121 hS) (s121 hS) rfl (kp140))))); omega), (by have := congrArg Int32.toInt (show FI198 121 69 = g138 from (up_k u199 (by decide) ((gf_at f187 (c121 hS) (s121 hS) rfl (kp139))))); exact fun h => absurd h (by omega)), (by have := congrArg Int32.toInt (show FI198 121 69 = g138 from (up_k u199 (by decide) ((gf_at f187 (c121 hS) (s121 hS) rfl (kp139))))); exact fun h => absurd h (by omega))⟩
                        · refine hw_aloadn (aX12_place 160 rfl) rfl ?_
                          refine hw_get (v := .ref (base + 154)) (aX12_place 161 rfl) wf_RX12_120 (c121 hS) (s121 hS) (by decide) (congrArg (fun r => va_rf (h_rf base r)) (r121_72 hF)) ?_
                          refine xw_iloadn (aX12_place 162 rfl) rfl ?_
                          refine xw_iloadn (aX12_place 163 rfl) rfl ?_
                          refine hv_iast (k := (x53).toNatClampNeg) (aX12_place 164 rfl) (c154 hS) (s154 hS) (h_in rfl (by omega) (by omega)) rfl (fun FI205 u206 => ?_)
                          have rl207 : rl_e (FI205 149) (FI205 121 67) := by rw [show FI205 149 = FI198 149 from up_row u206 (by decide) rfl, show FI205 121 67 = FI198 121 67 from up_c u206 (by decide) rfl]; exact rl200
                          have rl208 : rl_t (FI205 149) (FL 150) := by rw [show FI205 149 = FI198 149 from up_row u206 (by decide) rfl]; exact rl201
                          have hI209 : g_I FI205 := gU_F hI202 u206 rfl
                          refine xw_vret (aX12_place 165 rfl) rfl ?_
                          exact ⟨rfl, FI205, rfl, hI209, (gf_a (gf_f (gf_tr ex_rf fr134 f187 rfl rfl rfl) u199 (by decide)) u206 (by decide)), (by have := congrArg Int32.toInt (show FI205 121 67 = x4 from (up_c u206 (by decide) ((up_k u199 (by decide) ((gf_at f187 (c121 hS) (s121 hS) rfl (kp136))))))); have := congrArg Int32.toInt (show FI205 121 68 = x196 from (up_c u206 (by decide) (up_eq u199))); have := (e197 : (x196).toInt = ((x88).toInt) + (1)); omega), (by have := congrArg Int32.toInt (show FI205 121 68 = x196 from (up_c u206 (by decide) (up_eq u199))); have := (e197 : (x196).toInt = ((x88).toInt) + (1)); omega), (by have := congrArg Int32.toInt (show FI205 121 68 = x196 from (up_c u206 (by decide) (up_eq u199))); have := (e197 : (x196).toInt = ((x88).toInt) + (1)); have := congrArg Int32.toInt (show FI205 121 73 = x191 from (up_c u206 (by decide) ((up_k u199 (by decide) (h192))))); omega), (by have := congrArg Int32.toInt (show FI205 121 73 = x191 from (up_c u206 (by decide) ((up_k u199 (by decide) (h192))))); omega), (by have := congrArg Int32.toInt (show FI205 121 71 = x12 from (up_c u206 (by decide) ((up_k u199 (by decide) ((gf_at f187 (c121 hS) (s121 hS) rfl (kp140))))))); omega), (by have := congrArg Int32.toInt (show FI205 121 69 = g138 from (up_c u206 (by decide) ((up_k u199 (by decide) ((gf_at f187 (c121 hS) (s121 hS) rfl (kp139))))))); exact fun h => absurd h (by omega)), (by have := congrArg Int32.toInt (show FI205 121 69 = g138 from (up_c u206 (by decide) ((up_k u199 (by decide) ((gf_at f187 (c121 hS) (s121 hS) rfl (kp139))))))); exact fun h => absurd h (by omega))⟩
                      · exact hw_L (ih (x194) FI198 (gf_f (gf_tr ex_rf fr134 f187 rfl rfl rfl) u199 (by decide)) hI202 (show FI198 121 67 = x4 from (up_k u199 (by decide) ((gf_at f187 (c121 hS) (s121 hS) rfl (kp136))))) (show FI198 121 71 = x12 from (up_k u199 (by decide) ((gf_at f187 (c121 hS) (s121 hS) rfl (kp140))))) (show FI198 149 (x30).toNatClampNeg = x40 from (up_c u199 (by decide) ((gf_at f187 (c149 hS) (s149 hS) rfl (kp142))))) (show rl_e (FI198 149) (FI198 121 67) from rl200) (show rl_t (FI198 149) (FL 150) from rl201) (by have := (e195 : (x194).toInt = ((y3).toInt) + (1)); omega) (by have := (e195 : (x194).toInt = ((y3).toInt) + (1)); have := congrArg Int32.toInt (show FI198 121 68 = x196 from up_eq u199); have := (e197 : (x196).toInt = ((x88).toInt) + (1)); omega) (by have := (e195 : (x194).toInt = ((y3).toInt) + (1)); have := congrArg Int32.toInt (show FI198 121 69 = g138 from (up_k u199 (by decide) ((gf_at f187 (c121 hS) (s121 hS) rfl (kp139))))); omega) (by have := (e195 : (x194).toInt = ((y3).toInt) + (1)); have := congrArg Int32.toInt (show FI198 121 67 = x4 from (up_k u199 (by decide) ((gf_at f187 (c121 hS) (s121 hS) rfl (kp136))))); have := congrArg Int32.toInt (show FI198 121 68 = x196 from up_eq u199); have := (e197 : (x196).toInt = ((x88).toInt) + (1)); omega) (by have := (e195 : (x194).toInt = ((y3).toInt) + (1)); have := congrArg Int32.toInt (show FI198 121 68 = x196 from up_eq u199); have := (e197 : (x196).toInt = ((x88).toInt) + (1)); omega) (by have := (e195 : (x194).toInt = ((y3).toInt) + (1)); have := congrArg Int32.toInt (show FI198 121 68 = x196 from up_eq u199); have := (e197 : (x196).toInt = ((x88).toInt) + (1)); have := congrArg Int32.toInt (show FI198 121 73 = x191 from (up_k u199 (by decide) (h192))); omega) (by have := (e195 : (x194).toInt = ((y3).toInt) + (1)); have := congrArg Int32.toInt (show FI198 121 73 = x191 from (up_k u199 (by decide) (h192))); omega) (by have := (e195 : (x194).toInt = ((y3).toInt) + (1)); have := congrArg Int32.toInt (show FI198 121 73 = x191 from (up_k u199 (by decide) (h192))); omega) (show ∀ i : Nat, (FI 121 68).toInt.toNat < i → i < ((FI198 121 68).toInt).toNat → kf (FI 149) i = 3 from (by have := (e195 : (x194).toInt = ((y3).toInt) + (1)); have := congrArg Int32.toInt (show FI198 121 68 = x196 from up_eq u199); have := (e197 : (x196).toInt = ((x88).toInt) + (1)); exact (fun i h1 h2 => by { rcases Nat.lt_or_ge i (x88).toInt.toNat with h | h; { exact xi207_0 i h1 (by omega) }; { rw [show i = (x88).toInt.toNat by omega]; exact hk207 } }))) (show FI198 149 = FI 149 from (up_row u199 (by decide) ((gf_row f187 (c149 hS) (s149 hS) rfl (rw144))))) (by have := (e195 : (x194).toInt = ((y3).toInt) + (1)); have := congrArg Int32.toInt (show FI198 121 68 = x196 from up_eq u199); have := (e197 : (x196).toInt = ((x88).toInt) + (1)); omega)) ⟨rfl, rfl, rfl, trivial⟩
                    refine hw_lcle (tgt := 244) (aX12_place 125 rfl) (aX12_place 126 rfl) (by decide) rfl (by decide : (255 : Int64).toInt = 255) (fun cd210 => ?_) (fun cd210 => ?_)
                    · refine xw_iloadn (aX12_place 131 rfl) rfl ?_
                      refine hw_bp (v := (64 : Int32)) (aX12_place 132 rfl) (by decide) ?_
                      refine hw_icne (tgt := 256) (aX12_place 133 rfl) (by decide) rfl (by decide : (64 : Int32).toInt = 64) (fun cd211 => ?_) (fun cd211 => ?_)
                      · exact hw_L (j178 (x91) FIv70 fr71 hI72 (show FIv70 121 67 = x4 from kp73) (show FIv70 121 68 = x88 from h89) (show FIv70 121 69 = x91 from h92) (show FIv70 121 71 = x12 from kp74) (show FIv70 121 73 = x93 from h94) (show FIv70 149 (x30).toNatClampNeg = x40 from kp75) (show FIv70 149 (x88).toNatClampNeg = x96 from h97) (show FIv70 149 = FI 149 from rw86) (show rl_e (FIv70 149) (FIv70 121 67) from rl76) (show rl_t (FIv70 149) (FL 150) from rl77) (by show (x91).toInt = 0 → (y3).toInt ≤ 63; omega)) ⟨rfl, rfl, rfl, trivial⟩
                      · refine hw_aloadn (aX12_place 134 rfl) rfl ?_
                        refine hw_bp (v := (6 : Int32)) (aX12_place 135 rfl) (by decide) ?_
                        refine hw_callV (Bs := [.int ((6 : Int32))]) (rest := []) (aX12_place 136 rfl) wc_RX12_487 (by decide) rfl wi_yX12_fail wv_yX12_fail (c121 hS) (s121 hS) rfl rfl rfl (Nat.le_of_ble_eq_true rfl) (Nat.le_of_ble_eq_true rfl) (n_fail (d := d + 6) hS hF hI72 ((6 : Int32)) (by have := ((by decide : (6 : Int32).toInt = 6) : ((6 : Int32)).toInt = 6); omega)) (fun v212 sv213 p214 => ?_)
                        obtain ⟨rfl, FI216, rfl, hI217, f218, t219⟩ := p214
                        have rl220 : rl_e (FI216 149) (FI216 121 67) := by rw [show FI216 149 = FIv70 149 from gf_row f218 (c149 hS) (s149 hS) rfl rfl, show FI216 121 67 = FIv70 121 67 from gf_at f218 (c121 hS) (s121 hS) rfl rfl]; exact rl76
                        have rl221 : rl_t (FI216 149) (FL 150) := by rw [show FI216 149 = FIv70 149 from gf_row f218 (c149 hS) (s149 hS) rfl rfl]; exact rl77
                        obtain ⟨x222, h223⟩ : ∃ y, FI216 121 69 = y := ⟨_, rfl⟩
                        have h223l := congrArg Int32.toInt h223
                        have := i_rng x222
                        show hw base _ _ _ _ _ [] _ _
                        exact hw_L (j178 (x222) FI216 (gf_tr ex_rf fr71 f218 rfl rfl rfl) hI217 (show FI216 121 67 = x4 from (gf_at f218 (c121 hS) (s121 hS) rfl (kp73))) (show FI216 121 68 = x88 from (gf_at f218 (c121 hS) (s121 hS) rfl (h89))) (show FI216 121 69 = x222 from h223) (show FI216 121 71 = x12 from (gf_at f218 (c121 hS) (s121 hS) rfl (kp74))) (show FI216 121 73 = x93 from (gf_at f218 (c121 hS) (s121 hS) rfl (h94))) (show FI216 149 (x30).toNatClampNeg = x40 from (gf_at f218 (c149 hS) (s149 hS) rfl (kp75))) (show FI216 149 (x88).toNatClampNeg = x96 from (gf_at f218 (c149 hS) (s149 hS) rfl (h97))) (show FI216 149 = FI 149 from (gf_row f218 (c149 hS) (s149 hS) rfl (rw86))) (show rl_e (FI216 149) (FI216 121 67) from rl220) (show rl_t (FI216 149) (FL 150) from rl221) (by show (x222).toInt = 0 → (y3).toInt ≤ 63; omega)) ⟨rfl, rfl, rfl, trivial⟩
                    · refine hw_aloadn (aX12_place 127 rfl) rfl ?_
                      refine hw_ic (v := (3 : Int32)) (aX12_place 128 rfl) (by decide) ?_
                      refine hw_callV (Bs := [.int ((3 : Int32))]) (rest := []) (aX12_place 129 rfl) wc_RX12_487 (by decide) rfl wi_yX12_fail wv_yX12_fail (c121 hS) (s121 hS) rfl rfl rfl (Nat.le_of_ble_eq_true rfl) (Nat.le_of_ble_eq_true rfl) (n_fail (d := d + 6) hS hF hI72 ((3 : Int32)) (by have := ((by decide : (3 : Int32).toInt = 3) : ((3 : Int32)).toInt = 3); omega)) (fun v224 sv225 p226 => ?_)
                      obtain ⟨rfl, FI228, rfl, hI229, f230, t231⟩ := p226
                      have rl232 : rl_e (FI228 149) (FI228 121 67) := by rw [show FI228 149 = FIv70 149 from gf_row f230 (c149 hS) (s149 hS) rfl rfl, show FI228 121 67 = FIv70 121 67 from gf_at f230 (c121 hS) (s121 hS) rfl rfl]; exact rl76
                      have rl233 : rl_t (FI228 149) (FL 150) := by rw [show FI228 149 = FIv70 149 from gf_row f230 (c149 hS) (s149 hS) rfl rfl]; exact rl77
                      obtain ⟨x234, h235⟩ : ∃ y, FI228 121 69 = y := ⟨_, rfl⟩
                      have h235l := congrArg Int32.toInt h235
                      have := i_rng x234
                      show hw base _ _ _ _ _ [] _ _
                      refine xw_goto (tgt := 256) (aX12_place 130 rfl) (by decide) ?_
                      exact hw_L (j178 (x234) FI228 (gf_tr ex_rf fr71 f230 rfl rfl rfl) hI229 (show FI228 121 67 = x4 from (gf_at f230 (c121 hS) (s121 hS) rfl (kp73))) (show FI228 121 68 = x88 from (gf_at f230 (c121 hS) (s121 hS) rfl (h89))) (show FI228 121 69 = x234 from h235) (show FI228 121 71 = x12 from (gf_at f230 (c121 hS) (s121 hS) rfl (kp74))) (show FI228 121 73 = x93 from (gf_at f230 (c121 hS) (s121 hS) rfl (h94))) (show FI228 149 (x30).toNatClampNeg = x40 from (gf_at f230 (c149 hS) (s149 hS) rfl (kp75))) (show FI228 149 (x88).toNatClampNeg = x96 from (gf_at f230 (c149 hS) (s149 hS) rfl (h97))) (show FI228 149 = FI 149 from (gf_row f230 (c149 hS) (s149 hS) rfl (rw86))) (show rl_e (FI228 149) (FI228 121 67) from rl232) (show rl_t (FI228 149) (FL 150) from rl233) (by show (x234).toInt = 0 → (y3).toInt ≤ 63; omega)) ⟨rfl, rfl, rfl, trivial⟩
              exact hw_L (lp87 ((1001 - (x30).toInt : Int).toNat + 1) ((0 : Int32)) FI60 (gf_tr ex_rf (gf_tr ex_rf (gf_f gf_rf u33 (by decide)) f49 rfl rfl rfl) f62 rfl rfl rfl) hI61 (show FI60 121 67 = x4 from (gf_at f62 (c121 hS) (s121 hS) rfl ((gf_at f49 (c121 hS) (s121 hS) rfl ((up_k u33 (by decide) (h5))))))) (show FI60 121 71 = x12 from (gf_at f62 (c121 hS) (s121 hS) rfl ((gf_at f49 (c121 hS) (s121 hS) rfl ((up_k u33 (by decide) (h13))))))) (show FI60 149 (x30).toNatClampNeg = x40 from (gf_at f62 (c149 hS) (s149 hS) rfl ((gf_at f49 (c149 hS) (s149 hS) rfl (h41))))) (show rl_e (FI60 149) (FI60 121 67) from rl64) (show rl_t (FI60 149) (FL 150) from rl65) (by have := ((by decide : (0 : Int32).toInt = 0) : ((0 : Int32)).toInt = 0); omega) (by have := ((by decide : (0 : Int32).toInt = 0) : ((0 : Int32)).toInt = 0); have := congrArg Int32.toInt (show FI60 121 68 = x30 from (gf_at f62 (c121 hS) (s121 hS) rfl ((gf_at f49 (c121 hS) (s121 hS) rfl (up_eq u33))))); have := (e31 : (x30).toInt = ((x1).toInt) + (1)); omega) (by have := ((by decide : (0 : Int32).toInt = 0) : ((0 : Int32)).toInt = 0); have := congrArg Int32.toInt (show FI60 121 69 = x7 from (gf_at f62 (c121 hS) (s121 hS) rfl ((gf_at f49 (c121 hS) (s121 hS) rfl ((up_k u33 (by decide) (h8))))))); omega) (by have := ((by decide : (0 : Int32).toInt = 0) : ((0 : Int32)).toInt = 0); have := congrArg Int32.toInt (show FI60 121 67 = x4 from (gf_at f62 (c121 hS) (s121 hS) rfl ((gf_at f49 (c121 hS) (s121 hS) rfl ((up_k u33 (by decide) (h5))))))); have := congrArg Int32.toInt (show FI60 121 68 = x30 from (gf_at f62 (c121 hS) (s121 hS) rfl ((gf_at f49 (c121 hS) (s121 hS) rfl (up_eq u33))))); have := (e31 : (x30).toInt = ((x1).toInt) + (1)); omega) (by have := ((by decide : (0 : Int32).toInt = 0) : ((0 : Int32)).toInt = 0); have := congrArg Int32.toInt (show FI60 121 68 = x30 from (gf_at f62 (c121 hS) (s121 hS) rfl ((gf_at f49 (c121 hS) (s121 hS) rfl (up_eq u33))))); have := (e31 : (x30).toInt = ((x1).toInt) + (1)); omega) (by have := ((by decide : (0 : Int32).toInt = 0) : ((0 : Int32)).toInt = 0); have := congrArg Int32.toInt (show FI60 121 68 = x30 from (gf_at f62 (c121 hS) (s121 hS) rfl ((gf_at f49 (c121 hS) (s121 hS) rfl (up_eq u33))))); have := (e31 : (x30).toInt = ((x1).toInt) + (1)); have := congrArg Int32.toInt (show FI60 121 73 = x66 from h67); omega) (by have := ((by decide : (0 : Int32).toInt = 0) : ((0 : Int32)).toInt = 0); have := congrArg Int32.toInt (show FI60 121 73 = x66 from h67); omega) (by have := ((by decide : (0 : Int32).toInt = 0) : ((0 : Int32)).toInt = 0); have := congrArg Int32.toInt (show FI60 121 73 = x66 from h67); omega) (show ∀ i : Nat, (FI 121 68).toInt.toNat < i → i < ((FI60 121 68).toInt).toNat → kf (FI 149) i = 3 from (by have := ((by decide : (0 : Int32).toInt = 0) : ((0 : Int32)).toInt = 0); have := congrArg Int32.toInt (show FI60 121 68 = x30 from (gf_at f62 (c121 hS) (s121 hS) rfl ((gf_at f49 (c121 hS) (s121 hS) rfl (up_eq u33))))); have := (e31 : (x30).toInt = ((x1).toInt) + (1)); exact (fun i h1 h2 => absurd h1 (by omega)))) (show FI60 149 = FI 149 from (gf_row f62 (c149 hS) (s149 hS) rfl ((gf_row f49 (c149 hS) (s149 hS) rfl ((up_row u33 (by decide) (rfl))))))) (by have := ((by decide : (0 : Int32).toInt = 0) : ((0 : Int32)).toInt = 0); have := congrArg Int32.toInt (show FI60 121 68 = x30 from (gf_at f62 (c121 hS) (s121 hS) rfl ((gf_at f49 (c121 hS) (s121 hS) rfl (up_eq u33))))); have := (e31 : (x30).toInt = ((x1).toInt) + (1)); omega)) ⟨rfl, rfl, rfl, trivial⟩
          · refine hw_aloadn (aX12_place 95 rfl) rfl ?_
            refine hw_ic (v := (1 : Int32)) (aX12_place 96 rfl) (by decide) ?_
            refine hw_callV (Bs := [.int ((1 : Int32))]) (rest := []) (aX12_place 97 rfl) wc_RX12_487 (by decide) rfl wi_yX12_fail wv_yX12_fail (c121 hS) (s121 hS) rfl rfl rfl (Nat.le_of_ble_eq_true rfl) (Nat.le_of_ble_eq_true rfl) (n_fail (d := d + 6) hS hF hI36 ((1 : Int32)) (by have := ((by decide : (1 : Int32).toInt = 1) : ((1 : Int32)).toInt = 1); omega)) (fun v236 sv237 p238 => ?_)
            obtain ⟨rfl, FI240, rfl, hI241, f242, t243⟩ := p238
            have rl244 : rl_e (FI240 149) (FI240 121 67) := by rw [show FI240 149 = FI32 149 from gf_row f242 (c149 hS) (s149 hS) rfl rfl, show FI240 121 67 = FI32 121 67 from gf_at f242 (c121 hS) (s121 hS) rfl rfl]; exact rl34
            have rl245 : rl_t (FI240 149) (FL 150) := by rw [show FI240 149 = FI32 149 from gf_row f242 (c149 hS) (s149 hS) rfl rfl]; exact rl35
            obtain ⟨x246, h247⟩ : ∃ y, FI240 121 69 = y := ⟨_, rfl⟩
            have h247l := congrArg Int32.toInt h247
            have := i_rng x246
            show hw base _ _ _ _ _ [] _ _
            refine hw_aloadn (aX12_place 98 rfl) rfl ?_
            refine hw_sp (v := (158 : Int32)) (aX12_place 99 rfl) (by decide) ?_
            refine hw_callV (Bs := [.int ((158 : Int32))]) (rest := []) (aX12_place 100 rfl) wc_RX12_496 (by decide) rfl wi_yX12_emit wv_yX12_emit (c121 hS) (s121 hS) rfl rfl rfl (Nat.le_of_ble_eq_true rfl) (Nat.le_of_ble_eq_true rfl) (n_emit0 (d := d + 6) hS hF hI241 ((158 : Int32)) (by have := congrArg Int32.toInt (show FI240 121 73 = x9 from (gf_at f242 (c121 hS) (s121 hS) rfl ((up_k u33 (by decide) (h10))))); omega)) (fun v248 sv249 p250 => ?_)
            have := congrArg Int32.toInt (show FI240 121 73 = x9 from (gf_at f242 (c121 hS) (s121 hS) rfl ((up_k u33 (by decide) (h10)))))
            obtain ⟨rfl, FI252, rfl, hI253, f254, t255⟩ := p250
            have rl256 : rl_e (FI252 149) (FI252 121 67) := by rw [show FI252 149 = FI240 149 from gf_row f254 (c149 hS) (s149 hS) rfl rfl, show FI252 121 67 = FI240 121 67 from gf_at f254 (c121 hS) (s121 hS) rfl rfl]; exact rl244
            have rl257 : rl_t (FI252 149) (FL 150) := by rw [show FI252 149 = FI240 149 from gf_row f254 (c149 hS) (s149 hS) rfl rfl]; exact rl245
            obtain ⟨x258, h259⟩ : ∃ y, FI252 121 73 = y := ⟨_, rfl⟩
            have h259l := congrArg Int32.toInt h259
            have b260 := gI_121_73 hI253; rw [h259] at b260
            show hw base _ _ _ _ _ [] _ _
            refine hw_aloadn (aX12_place 101 rfl) rfl ?_
            refine hw_get (v := .int (x258)) (aX12_place 102 rfl) wf_RX12_493 (c121 hS) (s121 hS) (by decide) (congrArg Value.int (show FI252 121 73 = x258 from h259)) ?_
            refine xw_istoren (L2 := [(2, .int (x258)), (1, .int (x28)), (0, .ref (base + 121))]) (aX12_place 103 rfl) (by decide) rfl ?_
            refine hw_aloadn (aX12_place 104 rfl) rfl ?_
            refine hw_ic (v := (0 : Int32)) (aX12_place 105 rfl) (by decide) ?_
            refine hw_callV (Bs := [.int ((0 : Int32))]) (rest := []) (aX12_place 106 rfl) wc_RX12_496 (by decide) rfl wi_yX12_emit wv_yX12_emit (c121 hS) (s121 hS) rfl rfl rfl (Nat.le_of_ble_eq_true rfl) (Nat.le_of_ble_eq_true rfl) (n_emit0 (d := d + 6) hS hF hI253 ((0 : Int32)) (by have := congrArg Int32.toInt (show FI252 121 73 = x258 from h259); omega)) (fun v261 sv262 p263 => ?_)
            have := congrArg Int32.toInt (show FI252 121 73 = x258 from h259)
            obtain ⟨rfl, FI265, rfl, hI266, f267, t268⟩ := p263
            have rl269 : rl_e (FI265 149) (FI265 121 67) := by rw [show FI265 149 = FI252 149 from gf_row f267 (c149 hS) (s149 hS) rfl rfl, show FI265 121 67 = FI252 121 67 from gf_at f267 (c121 hS) (s121 hS) rfl rfl]; exact rl256
            have rl270 : rl_t (FI265 149) (FL 150) := by rw [show FI265 149 = FI252 149 from gf_row f267 (c149 hS) (s149 hS) rfl rfl]; exact rl257
            obtain ⟨x271, h272⟩ : ∃ y, FI265 121 73 = y := ⟨_, rfl⟩
            have h272l := congrArg Int32.toInt h272
            have b273 := gI_121_73 hI266; rw [h272] at b273
            show hw base _ _ _ _ _ [] _ _
            refine hw_ic (v := (0 : Int32)) (aX12_place 107 rfl) (by decide) ?_
            refine xw_istoren (L2 := [(3, .int ((0 : Int32))), (2, .int (x258)), (1, .int (x28)), (0, .ref (base + 121))]) (aX12_place 108 rfl) (by decide) rfl ?_
            refine hw_aloadn (aX12_place 109 rfl) rfl ?_
            refine hw_get (v := .int (x246)) (aX12_place 110 rfl) wf_RX12_475 (c121 hS) (s121 hS) (by decide) (congrArg Value.int (show FI265 121 69 = x246 from (gf_at f267 (c121 hS) (s121 hS) rfl ((gf_at f254 (c121 hS) (s121 hS) rfl (h247)))))) ?_
            refine hw_ifne (tgt := 287) (aX12_place 111 rfl) (by decide) rfl (fun cd274 => ?_) (fun cd274 => ?_)
            · refine hw_aloadn (aX12_place 156 rfl) rfl ?_
              refine hw_get (v := .int (x271)) (aX12_place 157 rfl) wf_RX12_493 (c121 hS) (s121 hS) (by decide) (congrArg Value.int (show FI265 121 73 = x271 from h272)) ?_
              refine hw_sp (v := (4000 : Int32)) (aX12_place 158 rfl) (by decide) ?_
              refine hw_icgt (tgt := 304) (aX12_place 159 rfl) (by decide) rfl (by decide : (4000 : Int32).toInt = 4000) (fun cd275 => ?_) (fun cd275 => ?_)
              · refine xw_vret (aX12_place 165 rfl) rfl ?_
                exact ⟨rfl, FI265, rfl, hI266, (gf_tr ex_rf (gf_tr ex_rf (gf_tr ex_rf (gf_f gf_rf u33 (by decide)) f242 rfl rfl rfl) f254 rfl rfl rfl) f267 rfl rfl rfl), (by have := congrArg Int32.toInt (show FI265 121 67 = x4 from (gf_at f267 (c121 hS) (s121 hS) rfl ((gf_at f254 (c121 hS) (s121 hS) rfl ((gf_at f242 (c121 hS) (s121 hS) rfl ((up_k u33 (by decide) (h5))))))))); have := congrArg Int32.toInt (show FI265 121 68 = x30 from (gf_at f267 (c121 hS) (s121 hS) rfl ((gf_at f254 (c121 hS) (s121 hS) rfl ((gf_at f242 (c121 hS) (s121 hS) rfl (up_eq u33))))))); have := (e31 : (x30).toInt = ((x1).toInt) + (1)); omega), (by have := congrArg Int32.toInt (show FI265 121 68 = x30 from (gf_at f267 (c121 hS) (s121 hS) rfl ((gf_at f254 (c121 hS) (s121 hS) rfl ((gf_at f242 (c121 hS) (s121 hS) rfl (up_eq u33))))))); have := (e31 : (x30).toInt = ((x1).toInt) + (1)); omega), (by have := congrArg Int32.toInt (show FI265 121 68 = x30 from (gf_at f267 (c121 hS) (s121 hS) rfl ((gf_at f254 (c121 hS) (s121 hS) rfl ((gf_at f242 (c121 hS) (s121 hS) rfl (up_eq u33))))))); have := (e31 : (x30).toInt = ((x1).toInt) + (1)); have := congrArg Int32.toInt (show FI265 121 73 = x271 from h272); omega), (by have := congrArg Int32.toInt (show FI265 121 73 = x271 from h272); omega), (by have := congrArg Int32.toInt (show FI265 121 71 = x12 from (gf_at f267 (c121 hS) (s121 hS) rfl ((gf_at f254 (c121 hS) (s121 hS) rfl ((gf_at f242 (c121 hS) (s121 hS) rfl ((up_k u33 (by decide) (h13))))))))); omega), (by have := congrArg Int32.toInt (show FI265 121 69 = x246 from (gf_at f267 (c121 hS) (s121 hS) rfl ((gf_at f254 (c121 hS) (s121 hS) rfl (h247))))); exact fun h => absurd h (by omega)), (by have := congrArg Int32.toInt (show FI265 121 69 = x246 from (gf_at f267 (c121 hS) (s121 hS) rfl ((gf_at f254 (c121 hS) (s121 hS) rfl (h247))))); exact fun h => absurd h (by omega))⟩
              · refine hw_aloadn (aX12_place 160 rfl) rfl ?_
                refine hw_get (v := .ref (base + 154)) (aX12_place 161 rfl) wf_RX12_120 (c121 hS) (s121 hS) (by decide) (congrArg (fun r => va_rf (h_rf base r)) (r121_72 hF)) ?_
                refine xw_iloadn (aX12_place 162 rfl) rfl ?_
                refine xw_iloadn (aX12_place 163 rfl) rfl ?_
                refine hv_iast (k := (x258).toNatClampNeg) (aX12_place 164 rfl) (c154 hS) (s154 hS) (h_in rfl (by omega) (by omega)) rfl (fun FI276 u277 => ?_)
                have rl278 : rl_e (FI276 149) (FI276 121 67) := by rw [show FI276 149 = FI265 149 from up_row u277 (by decide) rfl, show FI276 121 67 = FI265 121 67 from up_c u277 (by decide) rfl]; exact rl269
                have rl279 : rl_t (FI276 149) (FL 150) := by rw [show FI276 149 = FI265 149 from up_row u277 (by decide) rfl]; exact rl270
                have hI280 : g_I FI276 := gU_F hI266 u277 rfl
                refine xw_vret (aX12_place 165 rfl) rfl ?_
                exact ⟨rfl, FI276, rfl, hI280, (gf_a (gf_tr ex_rf (gf_tr ex_rf (gf_tr ex_rf (gf_f gf_rf u33 (by decide)) f242 rfl rfl rfl) f254 rfl rfl rfl) f267 rfl rfl rfl) u277 (by decide)), (by have := congrArg Int32.toInt (show FI276 121 67 = x4 from (up_c u277 (by decide) ((gf_at f267 (c121 hS) (s121 hS) rfl ((gf_at f254 (c121 hS) (s121 hS) rfl ((gf_at f242 (c121 hS) (s121 hS) rfl ((up_k u33 (by decide) (h5))))))))))); have := congrArg Int32.toInt (show FI276 121 68 = x30 from (up_c u277 (by decide) ((gf_at f267 (c121 hS) (s121 hS) rfl ((gf_at f254 (c121 hS) (s121 hS) rfl ((gf_at f242 (c121 hS) (s121 hS) rfl (up_eq u33))))))))); have := (e31 : (x30).toInt = ((x1).toInt) + (1)); omega), (by have := congrArg Int32.toInt (show FI276 121 68 = x30 from (up_c u277 (by decide) ((gf_at f267 (c121 hS) (s121 hS) rfl ((gf_at f254 (c121 hS) (s121 hS) rfl ((gf_at f242 (c121 hS) (s121 hS) rfl (up_eq u33))))))))); have := (e31 : (x30).toInt = ((x1).toInt) + (1)); omega), (by have := congrArg Int32.toInt (show FI276 121 68 = x30 from (up_c u277 (by decide) ((gf_at f267 (c121 hS) (s121 hS) rfl ((gf_at f254 (c121 hS) (s121 hS) rfl ((gf_at f242 (c121 hS) (s121 hS) rfl (up_eq u33))))))))); have := (e31 : (x30).toInt = ((x1).toInt) + (1)); have := congrArg Int32.toInt (show FI276 121 73 = x271 from (up_c u277 (by decide) (h272))); omega), (by have := congrArg Int32.toInt (show FI276 121 73 = x271 from (up_c u277 (by decide) (h272))); omega), (by have := congrArg Int32.toInt (show FI276 121 71 = x12 from (up_c u277 (by decide) ((gf_at f267 (c121 hS) (s121 hS) rfl ((gf_at f254 (c121 hS) (s121 hS) rfl ((gf_at f242 (c121 hS) (s121 hS) rfl ((up_k u33 (by decide) (h13))))))))))); omega), (by have := congrArg Int32.toInt (show FI276 121 69 = x246 from (up_c u277 (by decide) ((gf_at f267 (c121 hS) (s121 hS) rfl ((gf_at f254 (c121 hS) (s121 hS) rfl (h247))))))); exact fun h => absurd h (by omega)), (by have := congrArg Int32.toInt (show FI276 121 69 = x246 from (up_c u277 (by decide) ((gf_at f267 (c121 hS) (s121 hS) rfl ((gf_at f254 (c121 hS) (s121 hS) rfl (h247))))))); exact fun h => absurd h (by omega))⟩
            · omega
      · refine hw_aloadn (aX12_place 79 rfl) rfl ?_
        have := congrArg Int32.toInt (show FI32 121 68 = x30 from up_eq u33)
        have := congrArg Int32.toInt (show FI32 121 71 = x12 from (up_k u33 (by decide) (h13)))
        refine hw_callV (Bs := []) (rest := []) (aX12_place 80 rfl) wc_RX12_553 (by decide) rfl wi_yX12_chosen wv_yX12_chosen (c121 hS) (s121 hS) rfl rfl rfl (Nat.le_of_ble_eq_true rfl) (Nat.le_of_ble_eq_true rfl) (n_chosen (d := d) hS hF hI36 (by have := congrArg Int32.toInt (show FI32 121 68 = x30 from up_eq u33); have := (e31 : (x30).toInt = ((x1).toInt) + (1)); have := congrArg Int32.toInt (show FI32 121 67 = x4 from (up_k u33 (by decide) (h5))); omega) (by have := congrArg Int32.toInt (show FI32 121 73 = x9 from (up_k u33 (by decide) (h10))); have := congrArg Int32.toInt (show FI32 121 68 = x30 from up_eq u33); have := (e31 : (x30).toInt = ((x1).toInt) + (1)); omega) (by have := congrArg Int32.toInt (show FI32 121 69 = x7 from (up_k u33 (by decide) (h8))); have := congrArg Int32.toInt (show FI32 121 71 = x12 from (up_k u33 (by decide) (h13))); have := congrArg Int32.toInt (show FI32 121 71 = x12 from (up_k u33 (by decide) (h13))); omega) (by have := congrArg Int32.toInt (show FI32 121 71 = x12 from (up_k u33 (by decide) (h13))); have := congrArg Int32.toInt (show FI32 121 71 = x12 from (up_k u33 (by decide) (h13))); omega) (show rl_e (FI32 149) (FI32 121 67) from rl34) (show rl_t (FI32 149) (FL 150) from rl35)) (fun v281 sv282 p283 => ?_)
        have := congrArg Int32.toInt (show FI32 121 68 = x30 from up_eq u33)
        have := (e31 : (x30).toInt = ((x1).toInt) + (1))
        have := congrArg Int32.toInt (show FI32 121 73 = x9 from (up_k u33 (by decide) (h10)))
        have := congrArg Int32.toInt (show FI32 121 68 = x30 from up_eq u33)
        have := (e31 : (x30).toInt = ((x1).toInt) + (1))
        have := congrArg Int32.toInt (show FI32 121 73 = x9 from (up_k u33 (by decide) (h10)))
        obtain ⟨rfl, FI285, rfl, hI286, f287, t288, t289, t290, t291, t292, u293, u294⟩ := p283
        have rl295 : rl_e (FI285 149) (FI285 121 67) := by rw [show FI285 149 = FI32 149 from gf_row f287 (c149 hS) (s149 hS) rfl rfl, show FI285 121 67 = FI32 121 67 from gf_at f287 (c121 hS) (s121 hS) rfl rfl]; exact rl34
        have rl296 : rl_t (FI285 149) (FL 150) := by rw [show FI285 149 = FI32 149 from gf_row f287 (c149 hS) (s149 hS) rfl rfl]; exact rl35
        obtain ⟨x297, h298⟩ : ∃ y, FI285 121 68 = y := ⟨_, rfl⟩
        have h298l := congrArg Int32.toInt h298
        have b299 := gI_121_68 hI286; rw [h298] at b299
        have := congrArg Int32.toInt (show FI285 121 67 = x4 from (gf_at f287 (c121 hS) (s121 hS) rfl ((up_k u33 (by decide) (h5)))))
        obtain ⟨x300, h301⟩ : ∃ y, FI285 121 73 = y := ⟨_, rfl⟩
        have h301l := congrArg Int32.toInt h301
        have b302 := gI_121_73 hI286; rw [h301] at b302
        obtain ⟨x303, h304⟩ : ∃ y, FI285 121 90 = y := ⟨_, rfl⟩
        have h304l := congrArg Int32.toInt h304
        have b305 := gI_121_90 hI286; rw [h304] at b305
        obtain ⟨x306, h307⟩ : ∃ y, FI285 121 71 = y := ⟨_, rfl⟩
        have h307l := congrArg Int32.toInt h307
        have := i_rng x306
        show hw base _ _ _ _ _ [] _ _
        have hacc := u293; rw [show FI32 149 = FI 149 from (up_row u33 (by decide) (rfl)), show (FI32 121 68).toInt.toNat = (FI 121 68).toInt.toNat + 1 by omega] at hacc
        have ho71 := u294
        obtain ⟨x308, h309⟩ : ∃ y, FI285 121 69 = y := ⟨_, rfl⟩
        have h309l := congrArg Int32.toInt h309
        have := i_rng x308
        have := congrArg Int32.toInt (show FI285 121 69 = x308 from h309)
        refine hw_aloadn (aX12_place 81 rfl) rfl ?_
        refine hw_sp (v := (159 : Int32)) (aX12_place 82 rfl) (by decide) ?_
        refine hw_callV (Bs := [.int ((159 : Int32))]) (rest := []) (aX12_place 83 rfl) wc_RX12_496 (by decide) rfl wi_yX12_emit wv_yX12_emit (c121 hS) (s121 hS) rfl rfl rfl (Nat.le_of_ble_eq_true rfl) (Nat.le_of_ble_eq_true rfl) (n_emit0 (d := d + 6) hS hF hI286 ((159 : Int32)) (by have := congrArg Int32.toInt (show FI285 121 73 = x300 from h301); omega)) (fun v310 sv311 p312 => ?_)
        have := congrArg Int32.toInt (show FI285 121 73 = x300 from h301)
        obtain ⟨rfl, FI314, rfl, hI315, f316, t317⟩ := p312
        have rl318 : rl_e (FI314 149) (FI314 121 67) := by rw [show FI314 149 = FI285 149 from gf_row f316 (c149 hS) (s149 hS) rfl rfl, show FI314 121 67 = FI285 121 67 from gf_at f316 (c121 hS) (s121 hS) rfl rfl]; exact rl295
        have rl319 : rl_t (FI314 149) (FL 150) := by rw [show FI314 149 = FI285 149 from gf_row f316 (c149 hS) (s149 hS) rfl rfl]; exact rl296
        obtain ⟨x320, h321⟩ : ∃ y, FI314 121 73 = y := ⟨_, rfl⟩
        have h321l := congrArg Int32.toInt h321
        have b322 := gI_121_73 hI315; rw [h321] at b322
        show hw base _ _ _ _ _ [] _ _
        refine xw_goto (tgt := 304) (aX12_place 84 rfl) (by decide) ?_
        refine xw_vret (aX12_place 165 rfl) rfl ?_
        exact ⟨rfl, FI314, rfl, hI315, (gf_tr ex_rf (gf_tr ex_rf (gf_f gf_rf u33 (by decide)) f287 rfl rfl rfl) f316 rfl rfl rfl), (by have := congrArg Int32.toInt (show FI314 121 67 = x4 from (gf_at f316 (c121 hS) (s121 hS) rfl ((gf_at f287 (c121 hS) (s121 hS) rfl ((up_k u33 (by decide) (h5))))))); have := congrArg Int32.toInt (show FI314 121 68 = x297 from (gf_at f316 (c121 hS) (s121 hS) rfl (h298))); omega), (by have := congrArg Int32.toInt (show FI314 121 68 = x297 from (gf_at f316 (c121 hS) (s121 hS) rfl (h298))); omega), (by have := congrArg Int32.toInt (show FI314 121 68 = x297 from (gf_at f316 (c121 hS) (s121 hS) rfl (h298))); have := congrArg Int32.toInt (show FI314 121 73 = x320 from h321); omega), (by have := congrArg Int32.toInt (show FI314 121 73 = x320 from h321); omega), (by have := congrArg Int32.toInt (show FI314 121 71 = x306 from (gf_at f316 (c121 hS) (s121 hS) rfl (h307))); omega), (by have := congrArg Int32.toInt (show FI314 121 68 = x297 from (gf_at f316 (c121 hS) (s121 hS) rfl (h298))); have := congrArg Int32.toInt (show FI314 121 69 = x308 from (gf_at f316 (c121 hS) (s121 hS) rfl (h309))); intro h69; rw [show FI314 121 68 = FI285 121 68 from ((gf_at f316 (c121 hS) (s121 hS) rfl (h298))).trans (h298).symm]; exact Or.inr (Or.inr (Or.inl ⟨hnb, by omega, hacc (by omega)⟩))), (by have := congrArg Int32.toInt (show FI314 121 69 = x308 from (gf_at f316 (c121 hS) (s121 hS) rfl (h309))); have := congrArg Int32.toInt (show FI314 121 71 = x306 from (gf_at f316 (c121 hS) (s121 hS) rfl (h307))); intro h69; have := ho71 (by omega); omega)⟩
    · refine hw_aloadn (aX12_place 33 rfl) rfl ?_
      refine hw_get (v := .ref (base + 149)) (aX12_place 34 rfl) wf_RX12_105 (c121 hS) (s121 hS) (by decide) (congrArg (fun r => va_rf (h_rf base r)) (r121_62 hF)) ?_
      refine hw_aloadn (aX12_place 35 rfl) rfl ?_
      refine hw_get (v := .int (x30)) (aX12_place 36 rfl) wf_RX12_478 (c121 hS) (s121 hS) (by decide) (congrArg Value.int (show FI32 121 68 = x30 from up_eq u33)) ?_
      obtain ⟨x323, h324⟩ : ∃ y, FI32 149 (x30).toNatClampNeg = y := ⟨_, rfl⟩
      have h324l := congrArg Int32.toInt h324
      have := i_rng x323
      refine hw_iald (v := x323) (aX12_place 37 rfl) (c149 hS) (s149 hS) (h_in e31 (by omega) (by omega)) (show FI32 149 (x30).toNatClampNeg = x323 from h324) ?_
      refine hw_ic (v := (3 : Int32)) (aX12_place 38 rfl) (by decide) ?_
      refine hw_iceq (tgt := 80) (aX12_place 39 rfl) (by decide) rfl (by decide : (3 : Int32).toInt = 3) (fun cd325 => ?_) (fun cd325 => ?_)
      · refine hw_aloadn (aX12_place 44 rfl) rfl ?_
        refine hw_get (v := .ref (base + 150)) (aX12_place 45 rfl) wf_RX12_108 (c121 hS) (s121 hS) (by decide) (congrArg (fun r => va_rf (h_rf base r)) (r121_63 hF)) ?_
        refine hw_aloadn (aX12_place 46 rfl) rfl ?_
        refine hw_get (v := .int (x30)) (aX12_place 47 rfl) wf_RX12_478 (c121 hS) (s121 hS) (by decide) (congrArg Value.int (show FI32 121 68 = x30 from up_eq u33)) ?_
        obtain ⟨x326, h327⟩ : ∃ y, FL 150 (x30).toNatClampNeg = y := ⟨_, rfl⟩
        have h327l := congrArg Int64.toInt h327
        have := l_rng x326
        refine hw_lald (v := x326) (aX12_place 48 rfl) (c150 hS) (s150 hS) (h_in e31 (by omega) (by omega)) (show FL 150 (x30).toNatClampNeg = x326 from h327) ?_
        refine xw_ldc2 (aX12_place 49 rfl) wk_RX12_310 ?_
        refine hw_lcle (tgt := 101) (aX12_place 50 rfl) (aX12_place 51 rfl) (by decide) rfl (by decide : (31 : Int64).toInt = 31) (fun cd328 => ?_) (fun cd328 => ?_)
        · refine hw_aloadn (aX12_place 55 rfl) rfl ?_
          refine hw_get (v := .int (x7)) (aX12_place 56 rfl) wf_RX12_475 (c121 hS) (s121 hS) (by decide) (congrArg Value.int (show FI32 121 69 = x7 from (up_k u33 (by decide) (h8)))) ?_
          refine hw_ifeq (tgt := 109) (aX12_place 57 rfl) (by decide) rfl (fun cd329 => ?_) (fun cd329 => ?_)
          · have kq330 : kf (FI 149) ((FI 121 68).toInt.toNat + 1) = 3 := (by { have e : (FI 121 68).toInt.toNat + 1 = (x30).toNatClampNeg := by { rw [i_cl (x := x30) rfl]; try omega }; show (FI 149 ((FI 121 68).toInt.toNat + 1)).toInt = 3; rw [e, ← (show FI32 149 = FI 149 from (up_row u33 (by decide) (rfl))), show FI32 149 (x30).toNatClampNeg = x323 from h324]; try omega })
            have kq331 : wf (FL 150) ((FI 121 68).toInt.toNat + 1) ≤ 31 := (by { have e : (FI 121 68).toInt.toNat + 1 = (x30).toNatClampNeg := by { rw [i_cl (x := x30) rfl]; try omega }; show (FL 150 ((FI 121 68).toInt.toNat + 1)).toInt ≤ 31; rw [e, show FL 150 (x30).toNatClampNeg = x326 from h327]; try omega })
            have := congrArg Int32.toInt (show FI32 121 67 = x4 from (up_k u33 (by decide) (h5)))
            have hne331 := rl_e_ne rl34 (t := x30) (by omega)
            refine hw_aloadn (aX12_place 59 rfl) rfl ?_
            refine hw_bp (v := (80 : Int32)) (aX12_place 60 rfl) (by decide) ?_
            refine hw_aloadn (aX12_place 61 rfl) rfl ?_
            refine hw_get (v := .ref (base + 150)) (aX12_place 62 rfl) wf_RX12_108 (c121 hS) (s121 hS) (by decide) (congrArg (fun r => va_rf (h_rf base r)) (r121_63 hF)) ?_
            refine hw_aloadn (aX12_place 63 rfl) rfl ?_
            refine hw_get (v := .int (x30)) (aX12_place 64 rfl) wf_RX12_478 (c121 hS) (s121 hS) (by decide) (congrArg Value.int (show FI32 121 68 = x30 from up_eq u33)) ?_
            refine hw_lald (v := x326) (aX12_place 65 rfl) (c150 hS) (s150 hS) (h_in e31 (by omega) (by omega)) (show FL 150 (x30).toNatClampNeg = x326 from h327) ?_
            refine xw_l2i (aX12_place 66 rfl) ?_
            refine hw_ti (fun x332 => ?_)
            have b333 := i_rng x332
            refine xw_iadd (aX12_place 67 rfl) ?_
            refine hw_ti (fun x334 => ?_)
            have b335 := i_rng x334
            refine hw_callV (Bs := [.int (x334)]) (rest := []) (aX12_place 68 rfl) wc_RX12_496 (by decide) rfl wi_yX12_emit wv_yX12_emit (c121 hS) (s121 hS) rfl rfl rfl (Nat.le_of_ble_eq_true rfl) (Nat.le_of_ble_eq_true rfl) (n_emit0 (d := d + 6) hS hF hI36 (x334) (by have := congrArg Int32.toInt (show FI32 121 73 = x9 from (up_k u33 (by decide) (h10))); omega)) (fun v336 sv337 p338 => ?_)
            have := congrArg Int32.toInt (show FI32 121 73 = x9 from (up_k u33 (by decide) (h10)))
            obtain ⟨rfl, FI340, rfl, hI341, f342, t343⟩ := p338
            have rl344 : rl_e (FI340 149) (FI340 121 67) := by rw [show FI340 149 = FI32 149 from gf_row f342 (c149 hS) (s149 hS) rfl rfl, show FI340 121 67 = FI32 121 67 from gf_at f342 (c121 hS) (s121 hS) rfl rfl]; exact rl34
            have rl345 : rl_t (FI340 149) (FL 150) := by rw [show FI340 149 = FI32 149 from gf_row f342 (c149 hS) (s149 hS) rfl rfl]; exact rl35
            obtain ⟨x346, h347⟩ : ∃ y, FI340 121 73 = y := ⟨_, rfl⟩
            have h347l := congrArg Int32.toInt h347
            have b348 := gI_121_73 hI341; rw [h347] at b348
            show hw base _ _ _ _ _ [] _ _
            refine hw_aloadn (aX12_place 69 rfl) rfl ?_
            refine hw_aloadn (aX12_place 70 rfl) rfl ?_
            refine hw_get (v := .int (x30)) (aX12_place 71 rfl) wf_RX12_478 (c121 hS) (s121 hS) (by decide) (congrArg Value.int (show FI340 121 68 = x30 from (gf_at f342 (c121 hS) (s121 hS) rfl (up_eq u33)))) ?_
            refine hw_ic (v := (1 : Int32)) (aX12_place 72 rfl) (by decide) ?_
            refine xw_iadd (aX12_place 73 rfl) ?_
            refine hw_tie (A := (((x1).toInt) + (1)) + (1)) (i_add e31 (by decide : (1 : Int32).toInt = 1) (by omega) (by omega)) (fun x349 e350 => ?_)
            refine hv_puti (aX12_place 74 rfl) wf_RX12_478 (c121 hS) (s121 hS) (by decide) rfl rfl (fun FI351 u352 => ?_)
            have rl353 : rl_e (FI351 149) (FI351 121 67) := by rw [show FI351 149 = FI340 149 from up_row u352 (by decide) rfl, show FI351 121 67 = FI340 121 67 from up_k u352 (by decide) rfl]; exact rl344
            have rl354 : rl_t (FI351 149) (FL 150) := by rw [show FI351 149 = FI340 149 from up_row u352 (by decide) rfl]; exact rl345
            have hI355 : g_I FI351 := gU_121_68 hI341 u352 (by have := (e350 : (x349).toInt = (((x1).toInt) + (1)) + (1)); omega) (by have := (e350 : (x349).toInt = (((x1).toInt) + (1)) + (1)); omega)
            refine xw_goto (tgt := 304) (aX12_place 75 rfl) (by decide) ?_
            refine xw_vret (aX12_place 165 rfl) rfl ?_
            exact ⟨rfl, FI351, rfl, hI355, (gf_f (gf_tr ex_rf (gf_f gf_rf u33 (by decide)) f342 rfl rfl rfl) u352 (by decide)), (by have := congrArg Int32.toInt (show FI351 121 67 = x4 from (up_k u352 (by decide) ((gf_at f342 (c121 hS) (s121 hS) rfl ((up_k u33 (by decide) (h5))))))); have := congrArg Int32.toInt (show FI351 121 68 = x349 from up_eq u352); have := (e350 : (x349).toInt = (((x1).toInt) + (1)) + (1)); omega), (by have := congrArg Int32.toInt (show FI351 121 68 = x349 from up_eq u352); have := (e350 : (x349).toInt = (((x1).toInt) + (1)) + (1)); omega), (by have := congrArg Int32.toInt (show FI351 121 68 = x349 from up_eq u352); have := (e350 : (x349).toInt = (((x1).toInt) + (1)) + (1)); have := congrArg Int32.toInt (show FI351 121 73 = x346 from (up_k u352 (by decide) (h347))); omega), (by have := congrArg Int32.toInt (show FI351 121 73 = x346 from (up_k u352 (by decide) (h347))); omega), (by have := congrArg Int32.toInt (show FI351 121 71 = x12 from (up_k u352 (by decide) ((gf_at f342 (c121 hS) (s121 hS) rfl ((up_k u33 (by decide) (h13))))))); omega), (by have := congrArg Int32.toInt (show FI351 121 68 = x349 from up_eq u352); have := (e350 : (x349).toInt = (((x1).toInt) + (1)) + (1)); have := congrArg Int32.toInt (show FI351 121 69 = x7 from (up_k u352 (by decide) ((gf_at f342 (c121 hS) (s121 hS) rfl ((up_k u33 (by decide) (h8))))))); intro h69; exact Or.inr (Or.inl ⟨hnb, by omega, kq330, kq331, by omega⟩)), (by have := congrArg Int32.toInt (show FI351 121 71 = x12 from (up_k u352 (by decide) ((gf_at f342 (c121 hS) (s121 hS) rfl ((up_k u33 (by decide) (h13))))))); exact fun _ => by omega)⟩
          · omega
        · refine hw_aloadn (aX12_place 52 rfl) rfl ?_
          refine hw_ic (v := (2 : Int32)) (aX12_place 53 rfl) (by decide) ?_
          refine hw_callV (Bs := [.int ((2 : Int32))]) (rest := []) (aX12_place 54 rfl) wc_RX12_487 (by decide) rfl wi_yX12_fail wv_yX12_fail (c121 hS) (s121 hS) rfl rfl rfl (Nat.le_of_ble_eq_true rfl) (Nat.le_of_ble_eq_true rfl) (n_fail (d := d + 6) hS hF hI36 ((2 : Int32)) (by have := ((by decide : (2 : Int32).toInt = 2) : ((2 : Int32)).toInt = 2); omega)) (fun v356 sv357 p358 => ?_)
          obtain ⟨rfl, FI360, rfl, hI361, f362, t363⟩ := p358
          have rl364 : rl_e (FI360 149) (FI360 121 67) := by rw [show FI360 149 = FI32 149 from gf_row f362 (c149 hS) (s149 hS) rfl rfl, show FI360 121 67 = FI32 121 67 from gf_at f362 (c121 hS) (s121 hS) rfl rfl]; exact rl34
          have rl365 : rl_t (FI360 149) (FL 150) := by rw [show FI360 149 = FI32 149 from gf_row f362 (c149 hS) (s149 hS) rfl rfl]; exact rl35
          obtain ⟨x366, h367⟩ : ∃ y, FI360 121 69 = y := ⟨_, rfl⟩
          have h367l := congrArg Int32.toInt h367
          have := i_rng x366
          show hw base _ _ _ _ _ [] _ _
          refine hw_aloadn (aX12_place 55 rfl) rfl ?_
          refine hw_get (v := .int (x366)) (aX12_place 56 rfl) wf_RX12_475 (c121 hS) (s121 hS) (by decide) (congrArg Value.int (show FI360 121 69 = x366 from h367)) ?_
          refine hw_ifeq (tgt := 109) (aX12_place 57 rfl) (by decide) rfl (fun cd368 => ?_) (fun cd368 => ?_)
          · omega
          · refine xw_vret (aX12_place 58 rfl) rfl ?_
            exact ⟨rfl, FI360, rfl, hI361, (gf_tr ex_rf (gf_f gf_rf u33 (by decide)) f362 rfl rfl rfl), (by have := congrArg Int32.toInt (show FI360 121 67 = x4 from (gf_at f362 (c121 hS) (s121 hS) rfl ((up_k u33 (by decide) (h5))))); have := congrArg Int32.toInt (show FI360 121 68 = x30 from (gf_at f362 (c121 hS) (s121 hS) rfl (up_eq u33))); have := (e31 : (x30).toInt = ((x1).toInt) + (1)); omega), (by have := congrArg Int32.toInt (show FI360 121 68 = x30 from (gf_at f362 (c121 hS) (s121 hS) rfl (up_eq u33))); have := (e31 : (x30).toInt = ((x1).toInt) + (1)); omega), (by have := congrArg Int32.toInt (show FI360 121 68 = x30 from (gf_at f362 (c121 hS) (s121 hS) rfl (up_eq u33))); have := (e31 : (x30).toInt = ((x1).toInt) + (1)); have := congrArg Int32.toInt (show FI360 121 73 = x9 from (gf_at f362 (c121 hS) (s121 hS) rfl ((up_k u33 (by decide) (h10))))); omega), (by have := congrArg Int32.toInt (show FI360 121 73 = x9 from (gf_at f362 (c121 hS) (s121 hS) rfl ((up_k u33 (by decide) (h10))))); omega), (by have := congrArg Int32.toInt (show FI360 121 71 = x12 from (gf_at f362 (c121 hS) (s121 hS) rfl ((up_k u33 (by decide) (h13))))); omega), (by have := congrArg Int32.toInt (show FI360 121 69 = x366 from h367); exact fun h => absurd h (by omega)), (by have := congrArg Int32.toInt (show FI360 121 69 = x366 from h367); exact fun h => absurd h (by omega))⟩
      · refine hw_aloadn (aX12_place 40 rfl) rfl ?_
        refine hw_ic (v := (1 : Int32)) (aX12_place 41 rfl) (by decide) ?_
        refine hw_callV (Bs := [.int ((1 : Int32))]) (rest := []) (aX12_place 42 rfl) wc_RX12_487 (by decide) rfl wi_yX12_fail wv_yX12_fail (c121 hS) (s121 hS) rfl rfl rfl (Nat.le_of_ble_eq_true rfl) (Nat.le_of_ble_eq_true rfl) (n_fail (d := d + 6) hS hF hI36 ((1 : Int32)) (by have := ((by decide : (1 : Int32).toInt = 1) : ((1 : Int32)).toInt = 1); omega)) (fun v369 sv370 p371 => ?_)
        obtain ⟨rfl, FI373, rfl, hI374, f375, t376⟩ := p371
        have rl377 : rl_e (FI373 149) (FI373 121 67) := by rw [show FI373 149 = FI32 149 from gf_row f375 (c149 hS) (s149 hS) rfl rfl, show FI373 121 67 = FI32 121 67 from gf_at f375 (c121 hS) (s121 hS) rfl rfl]; exact rl34
        have rl378 : rl_t (FI373 149) (FL 150) := by rw [show FI373 149 = FI32 149 from gf_row f375 (c149 hS) (s149 hS) rfl rfl]; exact rl35
        obtain ⟨x379, h380⟩ : ∃ y, FI373 121 69 = y := ⟨_, rfl⟩
        have h380l := congrArg Int32.toInt h380
        have := i_rng x379
        show hw base _ _ _ _ _ [] _ _
        refine xw_goto (tgt := 101) (aX12_place 43 rfl) (by decide) ?_
        refine hw_aloadn (aX12_place 55 rfl) rfl ?_
        refine hw_get (v := .int (x379)) (aX12_place 56 rfl) wf_RX12_475 (c121 hS) (s121 hS) (by decide) (congrArg Value.int (show FI373 121 69 = x379 from h380)) ?_
        refine hw_ifeq (tgt := 109) (aX12_place 57 rfl) (by decide) rfl (fun cd381 => ?_) (fun cd381 => ?_)
        · omega
        · refine xw_vret (aX12_place 58 rfl) rfl ?_
          exact ⟨rfl, FI373, rfl, hI374, (gf_tr ex_rf (gf_f gf_rf u33 (by decide)) f375 rfl rfl rfl), (by have := congrArg Int32.toInt (show FI373 121 67 = x4 from (gf_at f375 (c121 hS) (s121 hS) rfl ((up_k u33 (by decide) (h5))))); have := congrArg Int32.toInt (show FI373 121 68 = x30 from (gf_at f375 (c121 hS) (s121 hS) rfl (up_eq u33))); have := (e31 : (x30).toInt = ((x1).toInt) + (1)); omega), (by have := congrArg Int32.toInt (show FI373 121 68 = x30 from (gf_at f375 (c121 hS) (s121 hS) rfl (up_eq u33))); have := (e31 : (x30).toInt = ((x1).toInt) + (1)); omega), (by have := congrArg Int32.toInt (show FI373 121 68 = x30 from (gf_at f375 (c121 hS) (s121 hS) rfl (up_eq u33))); have := (e31 : (x30).toInt = ((x1).toInt) + (1)); have := congrArg Int32.toInt (show FI373 121 73 = x9 from (gf_at f375 (c121 hS) (s121 hS) rfl ((up_k u33 (by decide) (h10))))); omega), (by have := congrArg Int32.toInt (show FI373 121 73 = x9 from (gf_at f375 (c121 hS) (s121 hS) rfl ((up_k u33 (by decide) (h10))))); omega), (by have := congrArg Int32.toInt (show FI373 121 71 = x12 from (gf_at f375 (c121 hS) (s121 hS) rfl ((up_k u33 (by decide) (h13))))); omega), (by have := congrArg Int32.toInt (show FI373 121 69 = x379 from h380); exact fun h => absurd h (by omega)), (by have := congrArg Int32.toInt (show FI373 121 69 = x379 from h380); exact fun h => absurd h (by omega))⟩
  · replace t21 := t21 (by omega)
    have hbr := u23.mp (by omega); rw [show ((91 : Int32)).toInt = (91 : Int) from by decide] at hbr
    refine hw_aloadn (aX12_place 4 rfl) rfl ?_
    refine hw_callV (Bs := []) (rest := []) (aX12_place 5 rfl) wc_RX12_538 (by decide) rfl wi_yX12_opens wv_yX12_opens (c121 hS) (s121 hS) rfl rfl rfl (Nat.le_of_ble_eq_true rfl) (Nat.le_of_ble_eq_true rfl) (n_opens (d := d + 5) hS hF hI (by have := congrArg Int32.toInt (show FI 121 68 = x1 from h2); have := congrArg Int32.toInt (show FI 121 67 = x4 from h5); omega) (by have := congrArg Int32.toInt (show FI 121 71 = x12 from h13); have := congrArg Int32.toInt (show FI 121 71 = x12 from h13); omega)) (fun v382 sv383 p384 => ?_)
    have := congrArg Int32.toInt (show FI 121 68 = x1 from h2)
    have := congrArg Int32.toInt (show FI 121 71 = x12 from h13)
    have := congrArg Int32.toInt (show FI 121 71 = x12 from h13)
    have := congrArg Int32.toInt (show FI 121 69 = x7 from h8)
    obtain ⟨rfl, FI386, rfl, hI387, f388, t389, t390, t391⟩ := p384
    have rl392 : rl_e (FI386 149) (FI386 121 67) := by rw [show FI386 149 = FI 149 from gf_row f388 (c149 hS) (s149 hS) rfl rfl, show FI386 121 67 = FI 121 67 from gf_at f388 (c121 hS) (s121 hS) rfl rfl]; exact rel_tend
    have rl393 : rl_t (FI386 149) (FL 150) := by rw [show FI386 149 = FI 149 from gf_row f388 (c149 hS) (s149 hS) rfl rfl]; exact rel_tok
    obtain ⟨x394, h395⟩ : ∃ y, FI386 121 68 = y := ⟨_, rfl⟩
    have h395l := congrArg Int32.toInt h395
    have b396 := gI_121_68 hI387; rw [h395] at b396
    obtain ⟨x397, h398⟩ : ∃ y, FI386 121 71 = y := ⟨_, rfl⟩
    have h398l := congrArg Int32.toInt h398
    have := i_rng x397
    obtain ⟨x399, h400⟩ : ∃ y, FI386 121 69 = y := ⟨_, rfl⟩
    have h400l := congrArg Int32.toInt h400
    have := i_rng x399
    show hw base _ _ _ _ _ [] _ _
    refine hw_aloadn (aX12_place 6 rfl) rfl ?_
    have := congrArg Int32.toInt (show FI386 121 68 = x394 from h395)
    have := congrArg Int32.toInt (show FI386 121 71 = x397 from h398)
    refine hw_callV (Bs := []) (rest := []) (aX12_place 7 rfl) wc_RX12_553 (by decide) rfl wi_yX12_chosen wv_yX12_chosen (c121 hS) (s121 hS) rfl rfl rfl (Nat.le_of_ble_eq_true rfl) (Nat.le_of_ble_eq_true rfl) (n_chosen (d := d) hS hF hI387 (by have := congrArg Int32.toInt (show FI386 121 68 = x394 from h395); have := congrArg Int32.toInt (show FI386 121 67 = x4 from (gf_at f388 (c121 hS) (s121 hS) rfl (h5))); omega) (by have := congrArg Int32.toInt (show FI386 121 73 = x9 from (gf_at f388 (c121 hS) (s121 hS) rfl (h10))); have := congrArg Int32.toInt (show FI386 121 68 = x394 from h395); omega) (by have := congrArg Int32.toInt (show FI386 121 69 = x399 from h400); have := congrArg Int32.toInt (show FI386 121 71 = x397 from h398); have := congrArg Int32.toInt (show FI386 121 71 = x397 from h398); omega) (by have := congrArg Int32.toInt (show FI386 121 71 = x397 from h398); have := congrArg Int32.toInt (show FI386 121 71 = x397 from h398); omega) (show rl_e (FI386 149) (FI386 121 67) from rl392) (show rl_t (FI386 149) (FL 150) from rl393)) (fun v401 sv402 p403 => ?_)
    have := congrArg Int32.toInt (show FI386 121 68 = x394 from h395)
    have := congrArg Int32.toInt (show FI386 121 73 = x9 from (gf_at f388 (c121 hS) (s121 hS) rfl (h10)))
    have := congrArg Int32.toInt (show FI386 121 68 = x394 from h395)
    have := congrArg Int32.toInt (show FI386 121 73 = x9 from (gf_at f388 (c121 hS) (s121 hS) rfl (h10)))
    obtain ⟨rfl, FI405, rfl, hI406, f407, t408, t409, t410, t411, t412, u413, u414⟩ := p403
    have rl415 : rl_e (FI405 149) (FI405 121 67) := by rw [show FI405 149 = FI386 149 from gf_row f407 (c149 hS) (s149 hS) rfl rfl, show FI405 121 67 = FI386 121 67 from gf_at f407 (c121 hS) (s121 hS) rfl rfl]; exact rl392
    have rl416 : rl_t (FI405 149) (FL 150) := by rw [show FI405 149 = FI386 149 from gf_row f407 (c149 hS) (s149 hS) rfl rfl]; exact rl393
    obtain ⟨x417, h418⟩ : ∃ y, FI405 121 68 = y := ⟨_, rfl⟩
    have h418l := congrArg Int32.toInt h418
    have b419 := gI_121_68 hI406; rw [h418] at b419
    have := congrArg Int32.toInt (show FI405 121 67 = x4 from (gf_at f407 (c121 hS) (s121 hS) rfl ((gf_at f388 (c121 hS) (s121 hS) rfl (h5)))))
    obtain ⟨x420, h421⟩ : ∃ y, FI405 121 73 = y := ⟨_, rfl⟩
    have h421l := congrArg Int32.toInt h421
    have b422 := gI_121_73 hI406; rw [h421] at b422
    obtain ⟨x423, h424⟩ : ∃ y, FI405 121 90 = y := ⟨_, rfl⟩
    have h424l := congrArg Int32.toInt h424
    have b425 := gI_121_90 hI406; rw [h424] at b425
    obtain ⟨x426, h427⟩ : ∃ y, FI405 121 71 = y := ⟨_, rfl⟩
    have h427l := congrArg Int32.toInt h427
    have := i_rng x426
    show hw base _ _ _ _ _ [] _ _
    have hacc := u413; rw [show FI386 149 = FI 149 from (gf_row f388 (c149 hS) (s149 hS) rfl (rfl)), show (FI386 121 68).toInt.toNat = (FI 121 68).toInt.toNat + 1 by omega] at hacc
    have ho71 := u414
    obtain ⟨x428, h429⟩ : ∃ y, FI405 121 69 = y := ⟨_, rfl⟩
    have h429l := congrArg Int32.toInt h429
    have := i_rng x428
    have := congrArg Int32.toInt (show FI405 121 69 = x428 from h429)
    refine hw_aloadn (aX12_place 8 rfl) rfl ?_
    refine hw_bp (v := (93 : Int32)) (aX12_place 9 rfl) (by decide) ?_
    refine hw_callV (Bs := [.int ((93 : Int32))]) (rest := []) (aX12_place 10 rfl) wc_RX12_527 (by decide) rfl wi_yX12_need wv_yX12_need (c121 hS) (s121 hS) rfl rfl rfl (Nat.le_of_ble_eq_true rfl) (Nat.le_of_ble_eq_true rfl) (n_need (d := d + 5) hS hF hI406 ((93 : Int32)) (by have := congrArg Int32.toInt (show FI405 121 68 = x417 from h418); have := congrArg Int32.toInt (show FI405 121 67 = x4 from (gf_at f407 (c121 hS) (s121 hS) rfl ((gf_at f388 (c121 hS) (s121 hS) rfl (h5))))); omega) (show rl_e (FI405 149) (FI405 121 67) from rl415)) (fun v430 sv431 p432 => ?_)
    have := congrArg Int32.toInt (show FI405 121 68 = x417 from h418)
    have := congrArg Int32.toInt (show FI405 121 69 = x428 from h429)
    have := congrArg Int32.toInt (show FI405 121 68 = x417 from h418)
    have := congrArg Int32.toInt (show FI405 121 68 = x417 from h418)
    obtain ⟨rfl, FI434, rfl, hI435, f436, t437, t438, t439⟩ := p432
    have rl440 : rl_e (FI434 149) (FI434 121 67) := by rw [show FI434 149 = FI405 149 from gf_row f436 (c149 hS) (s149 hS) rfl rfl, show FI434 121 67 = FI405 121 67 from gf_at f436 (c121 hS) (s121 hS) rfl rfl]; exact rl415
    have rl441 : rl_t (FI434 149) (FL 150) := by rw [show FI434 149 = FI405 149 from gf_row f436 (c149 hS) (s149 hS) rfl rfl]; exact rl416
    obtain ⟨x442, h443⟩ : ∃ y, FI434 121 68 = y := ⟨_, rfl⟩
    have h443l := congrArg Int32.toInt h443
    have b444 := gI_121_68 hI435; rw [h443] at b444
    have := congrArg Int32.toInt (show FI434 121 67 = x4 from (gf_at f436 (c121 hS) (s121 hS) rfl ((gf_at f407 (c121 hS) (s121 hS) rfl ((gf_at f388 (c121 hS) (s121 hS) rfl (h5)))))))
    obtain ⟨x445, h446⟩ : ∃ y, FI434 121 69 = y := ⟨_, rfl⟩
    have h446l := congrArg Int32.toInt h446
    have := i_rng x445
    show hw base _ _ _ _ _ [] _ _
    refine hw_aloadn (aX12_place 11 rfl) rfl ?_
    refine hw_aloadn (aX12_place 12 rfl) rfl ?_
    refine hw_get (v := .int (x426)) (aX12_place 13 rfl) wf_RX12_490 (c121 hS) (s121 hS) (by decide) (congrArg Value.int (show FI434 121 71 = x426 from (gf_at f436 (c121 hS) (s121 hS) rfl (h427)))) ?_
    refine hw_ic (v := (1 : Int32)) (aX12_place 14 rfl) (by decide) ?_
    refine xw_isub (aX12_place 15 rfl) ?_
    refine hw_tie (A := ((x426).toInt) - (1)) (i_sub rfl (by decide : (1 : Int32).toInt = 1) (by omega) (by omega)) (fun x447 e448 => ?_)
    refine hv_puti (aX12_place 16 rfl) wf_RX12_490 (c121 hS) (s121 hS) (by decide) rfl rfl (fun FI449 u450 => ?_)
    have rl451 : rl_e (FI449 149) (FI449 121 67) := by rw [show FI449 149 = FI434 149 from up_row u450 (by decide) rfl, show FI449 121 67 = FI434 121 67 from up_k u450 (by decide) rfl]; exact rl440
    have rl452 : rl_t (FI449 149) (FL 150) := by rw [show FI449 149 = FI434 149 from up_row u450 (by decide) rfl]; exact rl441
    have hI453 : g_I FI449 := gU_F hI435 u450 rfl
    refine xw_vret (aX12_place 17 rfl) rfl ?_
    exact ⟨rfl, FI449, rfl, hI453, (gf_f (gf_tr ex_rf (gf_tr ex_rf (gf_tr ex_rf gf_rf f388 rfl rfl rfl) f407 rfl rfl rfl) f436 rfl rfl rfl) u450 (by decide)), (by have := congrArg Int32.toInt (show FI449 121 67 = x4 from (up_k u450 (by decide) ((gf_at f436 (c121 hS) (s121 hS) rfl ((gf_at f407 (c121 hS) (s121 hS) rfl ((gf_at f388 (c121 hS) (s121 hS) rfl (h5))))))))); have := congrArg Int32.toInt (show FI449 121 68 = x442 from (up_k u450 (by decide) (h443))); omega), (by have := congrArg Int32.toInt (show FI449 121 68 = x442 from (up_k u450 (by decide) (h443))); omega), (by have := congrArg Int32.toInt (show FI449 121 68 = x442 from (up_k u450 (by decide) (h443))); have := congrArg Int32.toInt (show FI449 121 73 = x420 from (up_k u450 (by decide) ((gf_at f436 (c121 hS) (s121 hS) rfl (h421))))); omega), (by have := congrArg Int32.toInt (show FI449 121 73 = x420 from (up_k u450 (by decide) ((gf_at f436 (c121 hS) (s121 hS) rfl (h421))))); omega), (by have := congrArg Int32.toInt (show FI449 121 71 = x447 from up_eq u450); have := (e448 : (x447).toInt = ((x426).toInt) - (1)); omega), (by have := congrArg Int32.toInt (show FI449 121 68 = x442 from (up_k u450 (by decide) (h443))); have := congrArg Int32.toInt (show FI449 121 69 = x445 from (up_k u450 (by decide) (h446))); intro h69; have := congrArg Int32.toInt (show FI405 121 68 = x417 from h418); exact Or.inl ⟨hbr, _, hacc (by omega), by omega⟩), (by have := congrArg Int32.toInt (show FI449 121 69 = x445 from (up_k u450 (by decide) (h446))); have := congrArg Int32.toInt (show FI449 121 71 = x447 from up_eq u450); have := (e448 : (x447).toInt = ((x426).toInt) - (1)); intro h69; have := ho71 (by omega); omega)⟩
