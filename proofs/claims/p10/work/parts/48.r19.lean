def nX12_place : Nat := 0xb14f1d1c7800b42a0a00a3a00f11ed01b42aacffa7de01b56004de01b42a2a3e60041df001b6882fde01b42a6c00b42a2ae701b606102a0900a040101d0f00a7e701b6062a0b009e94f701142fde01b42a6c00b42a4600a0062ede01b42a6900b42a53009adb01b42a3e03f001b6032a3ded01b42af001b69e00112ae701b6042a08009f062ede01b42a6900b42a9000a0051b9500a7f001b69f00112a2902b62a1100a0041ba800a7de01b56004de01b42a2af001b660882fde01b42a6c00b42a50102ab1040099db01b42ae701b6052a08009e943601142fde01b42a6c00b42a1800a7e701b6042a0b009f062ede01b42a6900b42a53009a1bde01b56004de01b42a2a3c882fde01b42a6c00b42ab1ea01b56404ea01b42a2a0f02b65d102a2902b62a1a02b62a1c0099e401b65b102a
theorem bX12_place : cX12_place.data.toList.map UInt8.toNat = x_un nX12_place 305 := by decide +kernel
def iX12_place : List (Nat × Jvm.ClassFile.Instr × Nat) := [(0, .aload_n 0, 1), (1, .bipush 91, 2), (3, .invokevirtual 484, 3), (6, .ifCond .eq 28, 3), (9, .aload_n 0, 1), (10, .invokevirtual 538, 3), (13, .aload_n 0, 1), (14, .invokevirtual 553, 3), (17, .aload_n 0, 1), (18, .bipush 93, 2), (20, .invokevirtual 527, 3), (23, .aload_n 0, 1), (24, .aload_n 0, 1), (25, .getfield 490, 3), (28, .iconst 1, 1), (29, .isub, 1), (30, .putfield 490, 3), (33, .return_, 1), (34, .aload_n 0, 1), (35, .getfield 108, 3), (38, .aload_n 0, 1), (39, .getfield 478, 3), (42, .laload, 1), (43, .l2i, 1), (44, .istore_n 1, 1), (45, .aload_n 0, 1), (46, .aload_n 0, 1), (47, .getfield 478, 3), (50, .iconst 1, 1), (51, .iadd, 1), (52, .putfield 478, 3), (55, .iload_n 1, 1), (56, .ifCond .ne 83, 3), (59, .aload_n 0, 1), (60, .getfield 105, 3), (63, .aload_n 0, 1), (64, .getfield 478, 3), (67, .iaload, 1), (68, .iconst 3, 1), (69, .if_icmp .eq 11, 3), (72, .aload_n 0, 1), (73, .iconst 1, 1), (74, .invokevirtual 487, 3), (77, .goto 24, 3), (80, .aload_n 0, 1), (81, .getfield 108, 3), (84, .aload_n 0, 1), (85, .getfield 478, 3), (88, .laload, 1), (89, .ldc2_w 310, 3), (92, .lcmp, 1), (93, .ifCond .le 8, 3), (96, .aload_n 0, 1), (97, .iconst 2, 1), (98, .invokevirtual 487, 3), (101, .aload_n 0, 1), (102, .getfield 475, 3), (105, .ifCond .eq 4, 3), (108, .return_, 1), (109, .aload_n 0, 1), (110, .bipush 80, 2), (112, .aload_n 0, 1), (113, .getfield 108, 3), (116, .aload_n 0, 1), (117, .getfield 478, 3), (120, .laload, 1), (121, .l2i, 1), (122, .iadd, 1), (123, .invokevirtual 496, 3), (126, .aload_n 0, 1), (127, .aload_n 0, 1), (128, .getfield 478, 3), (131, .iconst 1, 1), (132, .iadd, 1), (133, .putfield 478, 3), (136, .goto 168, 3), (139, .iload_n 1, 1), (140, .iconst 1, 1), (141, .if_icmp .ne 17, 3), (144, .aload_n 0, 1), (145, .invokevirtual 553, 3), (148, .aload_n 0, 1), (149, .sipush 159, 3), (152, .invokevirtual 496, 3), (155, .goto 149, 3), (158, .iload_n 1, 1), (159, .iconst 2, 1), (160, .if_icmp .ne 144, 3), (163, .aload_n 0, 1), (164, .getfield 105, 3), (167, .aload_n 0, 1), (168, .getfield 478, 3), (171, .iaload, 1), (172, .iconst 3, 1), (173, .if_icmp .eq 8, 3), (176, .aload_n 0, 1), (177, .iconst 1, 1), (178, .invokevirtual 487, 3), (181, .aload_n 0, 1), (182, .sipush 158, 3), (185, .invokevirtual 496, 3), (188, .aload_n 0, 1), (189, .getfield 493, 3), (192, .istore_n 2, 1), (193, .aload_n 0, 1), (194, .iconst 0, 1), (195, .invokevirtual 496, 3), (198, .iconst 0, 1), (199, .istore_n 3, 1), (200, .aload_n 0, 1), (201, .getfield 475, 3), (204, .ifCond .ne 83, 3), (207, .aload_n 0, 1), (208, .getfield 105, 3), (211, .aload_n 0, 1), (212, .getfield 478, 3), (215, .iaload, 1), (216, .iconst 3, 1), (217, .if_icmp .ne 70, 3), (220, .aload_n 0, 1), (221, .getfield 108, 3), (224, .aload_n 0, 1), (225, .getfield 478, 3), (228, .laload, 1), (229, .ldc2_w 503, 3), (232, .lcmp, 1), (233, .ifCond .le 11, 3), (236, .aload_n 0, 1), (237, .iconst 3, 1), (238, .invokevirtual 487, 3), (241, .goto 15, 3), (244, .iload_n 3, 1), (245, .bipush 64, 2), (247, .if_icmp .ne 9, 3), (250, .aload_n 0, 1), (251, .bipush 6, 2), (253, .invokevirtual 487, 3), (256, .aload_n 0, 1), (257, .aload_n 0, 1), (258, .getfield 108, 3), (261, .aload_n 0, 1), (262, .getfield 478, 3), (265, .laload, 1), (266, .l2i, 1), (267, .invokevirtual 496, 3), (270, .iload_n 3, 1), (271, .iconst 1, 1), (272, .iadd, 1), (273, .istore_n 3, 1), (274, .aload_n 0, 1), (275, .aload_n 0, 1), (276, .getfield 478, 3), (279, .iconst 1, 1), (280, .iadd, 1), (281, .putfield 478, 3), (284, .goto (-84), 3), (287, .aload_n 0, 1), (288, .getfield 493, 3), (291, .sipush 4000, 3), (294, .if_icmp .gt 10, 3), (297, .aload_n 0, 1), (298, .getfield 120, 3), (301, .iload_n 2, 1), (302, .iload_n 3, 1), (303, .iastore, 1), (304, .return_, 1)]
theorem dX12_place : x_il nX12_place 305 iX12_place = true := by decide +kernel
theorem aX12_place (k : Nat) {pc : Nat} {i : Jvm.ClassFile.Instr} {len : Nat} (hk : iX12_place[k]? = some (pc, i, len)) : x_at xMM 230 pc i len yX12_place 4 none := ⟨cX12_place, rfl, x_il_ok bX12_place dX12_place k hk⟩
set_option maxHeartbeats 4000000 in
set_option maxRecDepth 100000 in
theorem n_place {base d n sl : Nat} {SH : Nat → Nat × Nat} {FI : Nat → Nat → Int32} {FL : Nat → Nat → Int64} {FR : Nat → Nat → Option Nat} (hS : h_S n SH) (hF : h_FR FR) (hI : g_I FI) (g0 : (FI 121 68).toInt < (FI 121 67).toInt - 1) (g1 : (FI 121 69).toInt = 0) (g2 : (FI 121 73).toInt ≤ 20 * (FI 121 68).toInt + 150) (g3 : 0 ≤ (FI 121 71).toInt ∧ (FI 121 71).toInt ≤ 12) (gg0 : ((kf (FI 149) (FI 121 68).toInt.toNat = 5 ∧ wf (FL 150) (FI 121 68).toInt.toNat = 91) ∨ (kf (FI 149) (FI 121 68).toInt.toNat = 2 ∧ (wf (FL 150) (FI 121 68).toInt.toNat = 0 ∨ wf (FL 150) (FI 121 68).toInt.toNat = 1 ∨ wf (FL 150) (FI 121 68).toInt.toNat = 2 ∨ wf (FL 150) (FI 121 68).toInt.toNat = 3)))) (rel_tend : rl_e (FI 149) (FI 121 67)) (rel_tok : rl_t (FI 149) (FL 150)) (rel_pm : rl_pm (FI 121 90) (FI 121 73) (FI 166) (FI 167) (FI 168)) : hw base (d + 7) none 230 0 [(0, .ref (base + 121))] [] (n, sl, SH, FI, FL, FR) (h_V (fun s => ∃ FI', s = (n, sl, SH, FI', FL, FR) ∧ g_I FI' ∧ g_fr n SH [(121, 68), (121, 69), (121, 70), (121, 71), (121, 73), (121, 90), (121, 91)] [154, 164, 165, 166, 167, 168] [] FI FI' ∧ ((FI' 121 68).toInt ≤ (FI' 121 67).toInt - 1) ∧ ((FI 121 68).toInt ≤ (FI' 121 68).toInt) ∧ ((FI' 121 73).toInt ≤ (FI 121 73).toInt + 20 * ((FI' 121 68).toInt - (FI 121 68).toInt)) ∧ ((FI 121 73).toInt ≤ (FI' 121 73).toInt) ∧ (-800 ≤ (FI' 121 71).toInt ∧ (FI' 121 71).toInt ≤ 100) ∧ ((FI' 121 69).toInt = 0 → gr_pl (kf (FI 149)) (wf (FL 150)) (FI 121 68).toInt.toNat (FI' 121 68).toInt.toNat) ∧ ((FI' 121 69).toInt = 0 → (FI' 121 71).toInt = (FI 121 71).toInt) ∧ (rl_pm (FI' 121 90) (FI' 121 73) (FI' 166) (FI' 167) (FI' 168)))) := by
  obtain ⟨x1, h2⟩ : ∃ y, FI 121 68 = y := ⟨_, rfl⟩
  have h2l := congrArg Int32.toInt h2
  have b3 := gI_121_68 hI; rw [h2] at b3
  obtain ⟨x4, h5⟩ : ∃ y, FI 121 67 = y := ⟨_, rfl⟩
  have h5l := congrArg Int32.toInt h5
  have b6 := gI_121_67 hI; rw [h5] at b6
  obtain ⟨x7, h8⟩ : ∃ y, FI 121 69 = y := ⟨_, rfl⟩
  have h8l := congrArg Int32.toInt h8
  have := i_rng x7
  obtain ⟨x9, h10⟩ : ∃ y, FI 121 73 = y := ⟨_, rfl⟩
  have h10l := congrArg Int32.toInt h10
  have b11 := gI_121_73 hI; rw [h10] at b11
  obtain ⟨x12, h13⟩ : ∃ y, FI 121 71 = y := ⟨_, rfl⟩
  have h13l := congrArg Int32.toInt h13
  have := i_rng x12
  have e14 : 0 ≤ (x12).toInt ∧ (x12).toInt ≤ 12 := by omega
  have e15 : 0 ≤ (x7).toInt ∧ (x7).toInt ≤ 0 := by omega
  refine hw_aloadn (aX12_place 0 rfl) rfl ?_
  refine hw_bp (v := (91 : Int32)) (aX12_place 1 rfl) (by decide) ?_
  refine hw_callV (Bs := [.int ((91 : Int32))]) (rest := []) (aX12_place 2 rfl) wc_RX12_484 (by decide) rfl wi_yX12_isSign wv_yX12_isSign (c121 hS) (s121 hS) rfl rfl rfl (Nat.le_of_ble_eq_true rfl) (Nat.le_of_ble_eq_true rfl) (n_isSign (d := d + 6) hS hF hI ((91 : Int32)) (by have := congrArg Int32.toInt (show FI 121 68 = x1 from h2); have := congrArg Int32.toInt (show FI 121 67 = x4 from h5); omega) (show rl_e (FI 149) (FI 121 67) from rel_tend)) (fun v16 sv17 p18 => ?_)
  have := congrArg Int32.toInt (show FI 121 68 = x1 from h2)
  have := congrArg Int32.toInt (show FI 121 67 = x4 from h5)
  obtain ⟨r19, rfl, rfl, t21, t22, u23⟩ := p18
  show hw base _ _ _ _ _ [.int (r19)] _ _
  refine hw_ifeq (tgt := 34) (aX12_place 3 rfl) (by decide) rfl (fun cd24 => ?_) (fun cd24 => ?_)
  · clear t21
    refine hw_aloadn (aX12_place 18 rfl) rfl ?_
    refine hw_get (v := .ref (base + 150)) (aX12_place 19 rfl) wf_RX12_108 (c121 hS) (s121 hS) (by decide) (congrArg (fun r => va_rf (h_rf base r)) (r121_63 hF)) ?_
    refine hw_aloadn (aX12_place 20 rfl) rfl ?_
    refine hw_get (v := .int (x1)) (aX12_place 21 rfl) wf_RX12_478 (c121 hS) (s121 hS) (by decide) (congrArg Value.int (show FI 121 68 = x1 from h2)) ?_
    obtain ⟨x25, h26⟩ : ∃ y, FL 150 (x1).toNatClampNeg = y := ⟨_, rfl⟩
    have h26l := congrArg Int64.toInt h26
    have := l_rng x25
    refine hw_lald (v := x25) (aX12_place 22 rfl) (c150 hS) (s150 hS) (h_in rfl (by omega) (by omega)) (show FL 150 (x1).toNatClampNeg = x25 from h26) ?_
    have hW0 : wf (FL 150) (FI 121 68).toInt.toNat = (x25).toInt := (by { have e : (FI 121 68).toInt.toNat = (x1).toNatClampNeg := by { rw [i_cl (x := x1) rfl]; try omega }; show (FL 150 ((FI 121 68).toInt.toNat)).toInt = (x25).toInt; rw [e, show FL 150 (x1).toNatClampNeg = x25 from h26]; try omega })
    have hnb : ¬ gr_br (kf (FI 149)) (wf (FL 150)) (FI 121 68).toInt.toNat := fun h => absurd (u23.mpr (by rw [show ((91 : Int32)).toInt = (91 : Int) from by decide]; exact h)) (by omega)
    have e27 : 0 ≤ (x25).toInt ∧ (x25).toInt ≤ 3 := by rcases gg0 with h | h; { exact absurd h hnb }; { obtain ⟨h9, h⟩ := h; rw [hW0] at h; omega }
    refine xw_l2i (aX12_place 23 rfl) ?_
    refine hw_tie (A := (x25).toInt) (l_2i rfl (by omega) (by omega)) (fun x28 e29 => ?_)
    refine xw_istoren (L2 := [(1, .int (x28)), (0, .ref (base + 121))]) (aX12_place 24 rfl) (by decide) rfl ?_
    refine hw_aloadn (aX12_place 25 rfl) rfl ?_
    refine hw_aloadn (aX12_place 26 rfl) rfl ?_
    refine hw_get (v := .int (x1)) (aX12_place 27 rfl) wf_RX12_478 (c121 hS) (s121 hS) (by decide) (congrArg Value.int (show FI 121 68 = x1 from h2)) ?_
    refine hw_ic (v := (1 : Int32)) (aX12_place 28 rfl) (by decide) ?_
    refine xw_iadd (aX12_place 29 rfl) ?_
    refine hw_tie (A := ((x1).toInt) + (1)) (i_add rfl (by decide : (1 : Int32).toInt = 1) (by omega) (by omega)) (fun x30 e31 => ?_)
    refine hv_puti (aX12_place 30 rfl) wf_RX12_478 (c121 hS) (s121 hS) (by decide) rfl rfl (fun FI32 u33 => ?_)
    have rl34 : rl_e (FI32 149) (FI32 121 67) := by rw [show FI32 149 = FI 149 from up_row u33 (by decide) rfl, show FI32 121 67 = FI 121 67 from up_k u33 (by decide) rfl]; exact rel_tend
    have rl35 : rl_t (FI32 149) (FL 150) := by rw [show FI32 149 = FI 149 from up_row u33 (by decide) rfl]; exact rel_tok
    have rl36 : rl_pm (FI32 121 90) (FI32 121 73) (FI32 166) (FI32 167) (FI32 168) := by rw [show FI32 166 = FI 166 from up_row u33 (by decide) rfl, show FI32 167 = FI 167 from up_row u33 (by decide) rfl, show FI32 168 = FI 168 from up_row u33 (by decide) rfl, show FI32 121 90 = FI 121 90 from up_k u33 (by decide) rfl, show FI32 121 73 = FI 121 73 from up_k u33 (by decide) rfl]; exact rel_pm
    have hI37 : g_I FI32 := gU_121_68 hI u33 (by have := (e31 : (x30).toInt = ((x1).toInt) + (1)); omega) (by have := (e31 : (x30).toInt = ((x1).toInt) + (1)); omega)
    refine xw_iloadn (aX12_place 31 rfl) rfl ?_
    refine hw_ifne (tgt := 139) (aX12_place 32 rfl) (by decide) e29 (fun cd38 => ?_) (fun cd38 => ?_)
    · refine xw_iloadn (aX12_place 76 rfl) rfl ?_
      refine hw_ic (v := (1 : Int32)) (aX12_place 77 rfl) (by decide) ?_
      refine hw_icne (tgt := 158) (aX12_place 78 rfl) (by decide) e29 (by decide : (1 : Int32).toInt = 1) (fun cd39 => ?_) (fun cd39 => ?_)
      · refine xw_iloadn (aX12_place 85 rfl) rfl ?_
        refine hw_ic (v := (2 : Int32)) (aX12_place 86 rfl) (by decide) ?_
        refine hw_icne (tgt := 304) (aX12_place 87 rfl) (by decide) e29 (by decide : (2 : Int32).toInt = 2) (fun cd40 => ?_) (fun cd40 => ?_)
        · refine xw_vret (aX12_place 165 rfl) rfl ?_
          exact ⟨rfl, FI32, rfl, hI37, (gf_f gf_rf u33 (by decide)), (by have := congrArg Int32.toInt (show FI32 121 67 = x4 from (up_k u33 (by decide) (h5))); have := congrArg Int32.toInt (show FI32 121 68 = x30 from up_eq u33); have := (e31 : (x30).toInt = ((x1).toInt) + (1)); omega), (by have := congrArg Int32.toInt (show FI32 121 68 = x30 from up_eq u33); have := (e31 : (x30).toInt = ((x1).toInt) + (1)); omega), (by have := congrArg Int32.toInt (show FI32 121 68 = x30 from up_eq u33); have := (e31 : (x30).toInt = ((x1).toInt) + (1)); have := congrArg Int32.toInt (show FI32 121 73 = x9 from (up_k u33 (by decide) (h10))); omega), (by have := congrArg Int32.toInt (show FI32 121 73 = x9 from (up_k u33 (by decide) (h10))); omega), (by have := congrArg Int32.toInt (show FI32 121 71 = x12 from (up_k u33 (by decide) (h13))); omega), (by have := congrArg Int32.toInt (show FI32 121 68 = x30 from up_eq u33); have := (e31 : (x30).toInt = ((x1).toInt) + (1)); have := congrArg Int32.toInt (show FI32 121 69 = x7 from (up_k u33 (by decide) (h8))); intro h69; exact Or.inr (Or.inr (Or.inr (Or.inr ⟨hnb, by omega, by omega⟩)))), (by have := congrArg Int32.toInt (show FI32 121 71 = x12 from (up_k u33 (by decide) (h13))); exact fun _ => by omega), (show rl_pm (FI32 121 90) (FI32 121 73) (FI32 166) (FI32 167) (FI32 168) from rl36)⟩
        · refine hw_aloadn (aX12_place 88 rfl) rfl ?_
          refine hw_get (v := .ref (base + 149)) (aX12_place 89 rfl) wf_RX12_105 (c121 hS) (s121 hS) (by decide) (congrArg (fun r => va_rf (h_rf base r)) (r121_62 hF)) ?_
          refine hw_aloadn (aX12_place 90 rfl) rfl ?_
          refine hw_get (v := .int (x30)) (aX12_place 91 rfl) wf_RX12_478 (c121 hS) (s121 hS) (by decide) (congrArg Value.int (show FI32 121 68 = x30 from up_eq u33)) ?_
          obtain ⟨x41, h42⟩ : ∃ y, FI32 149 (x30).toNatClampNeg = y := ⟨_, rfl⟩
          have h42l := congrArg Int32.toInt h42
          have := i_rng x41
          refine hw_iald (v := x41) (aX12_place 92 rfl) (c149 hS) (s149 hS) (h_in e31 (by omega) (by omega)) (show FI32 149 (x30).toNatClampNeg = x41 from h42) ?_
          refine hw_ic (v := (3 : Int32)) (aX12_place 93 rfl) (by decide) ?_
          refine hw_iceq (tgt := 181) (aX12_place 94 rfl) (by decide) rfl (by decide : (3 : Int32).toInt = 3) (fun cd43 => ?_) (fun cd43 => ?_)
          · refine hw_aloadn (aX12_place 98 rfl) rfl ?_
            refine hw_sp (v := (158 : Int32)) (aX12_place 99 rfl) (by decide) ?_
            refine hw_callV (Bs := [.int ((158 : Int32))]) (rest := []) (aX12_place 100 rfl) wc_RX12_496 (by decide) rfl wi_yX12_emit wv_yX12_emit (c121 hS) (s121 hS) rfl rfl rfl (Nat.le_of_ble_eq_true rfl) (Nat.le_of_ble_eq_true rfl) (n_emit (d := d + 6) hS hF hI37 ((158 : Int32)) (by have := congrArg Int32.toInt (show FI32 121 73 = x9 from (up_k u33 (by decide) (h10))); omega) (show rl_pm (FI32 121 90) (FI32 121 73) (FI32 166) (FI32 167) (FI32 168) from rl36)) (fun v44 sv45 p46 => ?_)
            have := congrArg Int32.toInt (show FI32 121 73 = x9 from (up_k u33 (by decide) (h10)))
            obtain ⟨rfl, FI48, rfl, hI49, f50, t51, rl52⟩ := p46
            have rl53 : rl_e (FI48 149) (FI48 121 67) := by rw [show FI48 149 = FI32 149 from gf_row f50 (c149 hS) (s149 hS) rfl rfl, show FI48 121 67 = FI32 121 67 from gf_at f50 (c121 hS) (s121 hS) rfl rfl]; exact rl34
            have rl54 : rl_t (FI48 149) (FL 150) := by rw [show FI48 149 = FI32 149 from gf_row f50 (c149 hS) (s149 hS) rfl rfl]; exact rl35
            obtain ⟨x55, h56⟩ : ∃ y, FI48 121 73 = y := ⟨_, rfl⟩
            have h56l := congrArg Int32.toInt h56
            have b57 := gI_121_73 hI49; rw [h56] at b57
            show hw base _ _ _ _ _ [] _ _
            refine hw_aloadn (aX12_place 101 rfl) rfl ?_
            refine hw_get (v := .int (x55)) (aX12_place 102 rfl) wf_RX12_493 (c121 hS) (s121 hS) (by decide) (congrArg Value.int (show FI48 121 73 = x55 from h56)) ?_
            refine xw_istoren (L2 := [(2, .int (x55)), (1, .int (x28)), (0, .ref (base + 121))]) (aX12_place 103 rfl) (by decide) rfl ?_
            refine hw_aloadn (aX12_place 104 rfl) rfl ?_
            refine hw_ic (v := (0 : Int32)) (aX12_place 105 rfl) (by decide) ?_
            refine hw_callV (Bs := [.int ((0 : Int32))]) (rest := []) (aX12_place 106 rfl) wc_RX12_496 (by decide) rfl wi_yX12_emit wv_yX12_emit (c121 hS) (s121 hS) rfl rfl rfl (Nat.le_of_ble_eq_true rfl) (Nat.le_of_ble_eq_true rfl) (n_emit (d := d + 6) hS hF hI49 ((0 : Int32)) (by have := congrArg Int32.toInt (show FI48 121 73 = x55 from h56); omega) (show rl_pm (FI48 121 90) (FI48 121 73) (FI48 166) (FI48 167) (FI48 168) from rl52)) (fun v58 sv59 p60 => ?_)
            have := congrArg Int32.toInt (show FI48 121 73 = x55 from h56)
            obtain ⟨rfl, FI62, rfl, hI63, f64, t65, rl66⟩ := p60
            have rl67 : rl_e (FI62 149) (FI62 121 67) := by rw [show FI62 149 = FI48 149 from gf_row f64 (c149 hS) (s149 hS) rfl rfl, show FI62 121 67 = FI48 121 67 from gf_at f64 (c121 hS) (s121 hS) rfl rfl]; exact rl53
            have rl68 : rl_t (FI62 149) (FL 150) := by rw [show FI62 149 = FI48 149 from gf_row f64 (c149 hS) (s149 hS) rfl rfl]; exact rl54
            obtain ⟨x69, h70⟩ : ∃ y, FI62 121 73 = y := ⟨_, rfl⟩
            have h70l := congrArg Int32.toInt h70
            have b71 := gI_121_73 hI63; rw [h70] at b71
            show hw base _ _ _ _ _ [] _ _
            refine hw_ic (v := (0 : Int32)) (aX12_place 107 rfl) (by decide) ?_
            refine xw_istoren (L2 := [(3, .int ((0 : Int32))), (2, .int (x55)), (1, .int (x28)), (0, .ref (base + 121))]) (aX12_place 108 rfl) (by decide) rfl ?_
            refine hw_aloadn (aX12_place 109 rfl) rfl ?_
            refine hw_get (v := .int (x7)) (aX12_place 110 rfl) wf_RX12_475 (c121 hS) (s121 hS) (by decide) (congrArg Value.int (show FI62 121 69 = x7 from (gf_at f64 (c121 hS) (s121 hS) rfl ((gf_at f50 (c121 hS) (s121 hS) rfl ((up_k u33 (by decide) (h8)))))))) ?_
            refine hw_ifne (tgt := 287) (aX12_place 111 rfl) (by decide) rfl (fun cd72 => ?_) (fun cd72 => ?_)
            · omega
            · have lp91 : ∀ (m : Nat) (y3 : Int32) (FIv73 : Nat → Nat → Int32), (g_fr n SH [(121, 68), (121, 69), (121, 70), (121, 71), (121, 73), (121, 90), (121, 91)] [154, 164, 165, 166, 167, 168] [] FI FIv73) → (g_I FIv73) → (FIv73 121 67 = x4) → (FIv73 121 71 = x12) → (FIv73 149 (x30).toNatClampNeg = x41) → (rl_e (FIv73 149) (FIv73 121 67)) → (rl_t (FIv73 149) (FL 150)) → (rl_pm (FIv73 121 90) (FIv73 121 73) (FIv73 166) (FIv73 167) (FIv73 168)) → (0 ≤ (y3).toInt ∧ (y3).toInt ≤ 64) → (0 ≤ (FIv73 121 68).toInt ∧ (FIv73 121 68).toInt ≤ 1000) → ((FIv73 121 69).toInt = 0) → ((FIv73 121 68).toInt ≤ (x4).toInt - 1) → ((y3).toInt = (FIv73 121 68).toInt - (FI 121 68).toInt - 1) → ((FIv73 121 73).toInt ≤ (FI 121 73).toInt + 20 * ((FIv73 121 68).toInt - (FI 121 68).toInt)) → ((FI 121 73).toInt ≤ (FIv73 121 73).toInt) → ((x55).toInt < (FIv73 121 73).toInt) → (∀ i : Nat, (FI 121 68).toInt.toNat < i → i < ((FIv73 121 68).toInt).toNat → kf (FI 149) i = 3) → (FIv73 149 = FI 149) → 1001 - (FIv73 121 68).toInt < m → hw base (d + 7) none 230 207 [(3, .int (y3)), (2, .int (x55)), (0, .ref (base + 121))] [] (n, sl, SH, FIv73, FL, FR) (h_V (fun s => ∃ FI', s = (n, sl, SH, FI', FL, FR) ∧ g_I FI' ∧ g_fr n SH [(121, 68), (121, 69), (121, 70), (121, 71), (121, 73), (121, 90), (121, 91)] [154, 164, 165, 166, 167, 168] [] FI FI' ∧ ((FI' 121 68).toInt ≤ (FI' 121 67).toInt - 1) ∧ ((FI 121 68).toInt ≤ (FI' 121 68).toInt) ∧ ((FI' 121 73).toInt ≤ (FI 121 73).toInt + 20 * ((FI' 121 68).toInt - (FI 121 68).toInt)) ∧ ((FI 121 73).toInt ≤ (FI' 121 73).toInt) ∧ (-800 ≤ (FI' 121 71).toInt ∧ (FI' 121 71).toInt ≤ 100) ∧ ((FI' 121 69).toInt = 0 → gr_pl (kf (FI 149)) (wf (FL 150)) (FI 121 68).toInt.toNat (FI' 121 68).toInt.toNat) ∧ ((FI' 121 69).toInt = 0 → (FI' 121 71).toInt = (FI 121 71).toInt) ∧ (rl_pm (FI' 121 90) (FI' 121 73) (FI' 166) (FI' 167) (FI' 168)))) := by
                intro m
                induction m with
                | zero => intro y3 FIv73 fr74 hI75 kp76 kp77 kp78 rl79 rl80 rl81 iv82 iv83 iv84 iv85 iv86 iv87 iv88 iv89 xi207_0 rw90 hm; omega
                | succ m ih =>
                  intro y3 FIv73 fr74 hI75 kp76 kp77 kp78 rl79 rl80 rl81 iv82 iv83 iv84 iv85 iv86 iv87 iv88 iv89 xi207_0 rw90 hm
                  have rg_y3 := i_rng y3
                  have := congrArg Int32.toInt kp76
                  have := congrArg Int32.toInt kp77
                  have := congrArg Int32.toInt kp78
                  obtain ⟨x92, h93⟩ : ∃ y, FIv73 121 68 = y := ⟨_, rfl⟩
                  have h93l := congrArg Int32.toInt h93
                  have b94 := gI_121_68 hI75; rw [h93] at b94
                  obtain ⟨x95, h96⟩ : ∃ y, FIv73 121 69 = y := ⟨_, rfl⟩
                  have h96l := congrArg Int32.toInt h96
                  have := i_rng x95
                  obtain ⟨x97, h98⟩ : ∃ y, FIv73 121 73 = y := ⟨_, rfl⟩
                  have h98l := congrArg Int32.toInt h98
                  have b99 := gI_121_73 hI75; rw [h98] at b99
                  refine hw_aloadn (aX12_place 112 rfl) rfl ?_
                  refine hw_get (v := .ref (base + 149)) (aX12_place 113 rfl) wf_RX12_105 (c121 hS) (s121 hS) (by decide) (congrArg (fun r => va_rf (h_rf base r)) (r121_62 hF)) ?_
                  refine hw_aloadn (aX12_place 114 rfl) rfl ?_
                  refine hw_get (v := .int (x92)) (aX12_place 115 rfl) wf_RX12_478 (c121 hS) (s121 hS) (by decide) (congrArg Value.int (show FIv73 121 68 = x92 from h93)) ?_
                  obtain ⟨x100, h101⟩ : ∃ y, FIv73 149 (x92).toNatClampNeg = y := ⟨_, rfl⟩
                  have h101l := congrArg Int32.toInt h101
                  have := i_rng x100
                  refine hw_iald (v := x100) (aX12_place 116 rfl) (c149 hS) (s149 hS) (h_in rfl (by omega) (by omega)) (show FIv73 149 (x92).toNatClampNeg = x100 from h101) ?_
                  refine hw_ic (v := (3 : Int32)) (aX12_place 117 rfl) (by decide) ?_
                  refine hw_icne (tgt := 287) (aX12_place 118 rfl) (by decide) rfl (by decide : (3 : Int32).toInt = 3) (fun cd102 => ?_) (fun cd102 => ?_)
                  · have hby : kf (FI 149) (x92).toInt.toNat ≠ 3 := (by { have e : (x92).toInt.toNat = (x92).toNatClampNeg := by { rw [i_cl (x := x92) rfl]; try omega }; show (FI 149 ((x92).toInt.toNat)).toInt ≠ 3; rw [e, ← (show FIv73 149 = FI 149 from rw90), show FIv73 149 (x92).toNatClampNeg = x100 from h101]; try omega })
                    refine hw_aloadn (aX12_place 156 rfl) rfl ?_
                    refine hw_get (v := .int (x97)) (aX12_place 157 rfl) wf_RX12_493 (c121 hS) (s121 hS) (by decide) (congrArg Value.int (show FIv73 121 73 = x97 from h98)) ?_
                    refine hw_sp (v := (4000 : Int32)) (aX12_place 158 rfl) (by decide) ?_
                    refine hw_icgt (tgt := 304) (aX12_place 159 rfl) (by decide) rfl (by decide : (4000 : Int32).toInt = 4000) (fun cd103 => ?_) (fun cd103 => ?_)
                    · refine xw_vret (aX12_place 165 rfl) rfl ?_
                      exact ⟨rfl, FIv73, rfl, hI75, fr74, (by have := congrArg Int32.toInt (show FIv73 121 67 = x4 from kp76); have := congrArg Int32.toInt (show FIv73 121 68 = x92 from h93); omega), (by have := congrArg Int32.toInt (show FIv73 121 68 = x92 from h93); omega), (by have := congrArg Int32.toInt (show FIv73 121 68 = x92 from h93); have := congrArg Int32.toInt (show FIv73 121 73 = x97 from h98); omega), (by have := congrArg Int32.toInt (show FIv73 121 73 = x97 from h98); omega), (by have := congrArg Int32.toInt (show FIv73 121 71 = x12 from kp77); omega), (by have := congrArg Int32.toInt (show FIv73 121 68 = x92 from h93); have := congrArg Int32.toInt (show FIv73 121 69 = x95 from h96); intro h69; exact Or.inr (Or.inr (Or.inr (Or.inl ⟨hnb, by omega, by omega, fun i h1 h2 => xi207_0 i h1 (by omega), by rw [show (FIv73 121 68).toInt.toNat = (x92).toInt.toNat by omega]; exact hby, by omega⟩)))), (by have := congrArg Int32.toInt (show FIv73 121 71 = x12 from kp77); exact fun _ => by omega), (show rl_pm (FIv73 121 90) (FIv73 121 73) (FIv73 166) (FIv73 167) (FIv73 168) from rl81)⟩
                    · refine hw_aloadn (aX12_place 160 rfl) rfl ?_
                      refine hw_get (v := .ref (base + 154)) (aX12_place 161 rfl) wf_RX12_120 (c121 hS) (s121 hS) (by decide) (congrArg (fun r => va_rf (h_rf base r)) (r121_72 hF)) ?_
                      refine xw_iloadn (aX12_place 162 rfl) rfl ?_
                      refine xw_iloadn (aX12_place 163 rfl) rfl ?_
                      refine hv_iast (k := (x55).toNatClampNeg) (aX12_place 164 rfl) (c154 hS) (s154 hS) (h_in rfl (by omega) (by omega)) rfl (fun FI104 u105 => ?_)
                      have rl106 : rl_e (FI104 149) (FI104 121 67) := by rw [show FI104 149 = FIv73 149 from up_row u105 (by decide) rfl, show FI104 121 67 = FIv73 121 67 from up_c u105 (by decide) rfl]; exact rl79
                      have rl107 : rl_t (FI104 149) (FL 150) := by rw [show FI104 149 = FIv73 149 from up_row u105 (by decide) rfl]; exact rl80
                      have rl108 : rl_pm (FI104 121 90) (FI104 121 73) (FI104 166) (FI104 167) (FI104 168) := by rw [show FI104 166 = FIv73 166 from up_row u105 (by decide) rfl, show FI104 167 = FIv73 167 from up_row u105 (by decide) rfl, show FI104 168 = FIv73 168 from up_row u105 (by decide) rfl, show FI104 121 90 = FIv73 121 90 from up_c u105 (by decide) rfl, show FI104 121 73 = FIv73 121 73 from up_c u105 (by decide) rfl]; exact rl81
                      have hI109 : g_I FI104 := gU_F hI75 u105 rfl
                      refine xw_vret (aX12_place 165 rfl) rfl ?_
                      exact ⟨rfl, FI104, rfl, hI109, (gf_a fr74 u105 (by decide)), (by have := congrArg Int32.toInt (show FI104 121 67 = x4 from (up_c u105 (by decide) (kp76))); have := congrArg Int32.toInt (show FI104 121 68 = x92 from (up_c u105 (by decide) (h93))); omega), (by have := congrArg Int32.toInt (show FI104 121 68 = x92 from (up_c u105 (by decide) (h93))); omega), (by have := congrArg Int32.toInt (show FI104 121 68 = x92 from (up_c u105 (by decide) (h93))); have := congrArg Int32.toInt (show FI104 121 73 = x97 from (up_c u105 (by decide) (h98))); omega), (by have := congrArg Int32.toInt (show FI104 121 73 = x97 from (up_c u105 (by decide) (h98))); omega), (by have := congrArg Int32.toInt (show FI104 121 71 = x12 from (up_c u105 (by decide) (kp77))); omega), (by have := congrArg Int32.toInt (show FI104 121 68 = x92 from (up_c u105 (by decide) (h93))); have := congrArg Int32.toInt (show FI104 121 69 = x95 from (up_c u105 (by decide) (h96))); intro h69; exact Or.inr (Or.inr (Or.inr (Or.inl ⟨hnb, by omega, by omega, fun i h1 h2 => xi207_0 i h1 (by omega), by rw [show (FI104 121 68).toInt.toNat = (x92).toInt.toNat by omega]; exact hby, by omega⟩)))), (by have := congrArg Int32.toInt (show FI104 121 71 = x12 from (up_c u105 (by decide) (kp77))); exact fun _ => by omega), (show rl_pm (FI104 121 90) (FI104 121 73) (FI104 166) (FI104 167) (FI104 168) from rl108)⟩
                  · have hk207 : kf (FI 149) (x92).toInt.toNat = 3 := (by { have e : (x92).toInt.toNat = (x92).toNatClampNeg := by { rw [i_cl (x := x92) rfl]; try omega }; show (FI 149 ((x92).toInt.toNat)).toInt = 3; rw [e, ← (show FIv73 149 = FI 149 from rw90), show FIv73 149 (x92).toNatClampNeg = x100 from h101]; try omega })
                    have := congrArg Int32.toInt (show FIv73 121 67 = x4 from kp76)
                    have hne109 := rl_e_ne rl79 (t := x92) (by omega)
                    refine hw_aloadn (aX12_place 119 rfl) rfl ?_
                    refine hw_get (v := .ref (base + 150)) (aX12_place 120 rfl) wf_RX12_108 (c121 hS) (s121 hS) (by decide) (congrArg (fun r => va_rf (h_rf base r)) (r121_63 hF)) ?_
                    refine hw_aloadn (aX12_place 121 rfl) rfl ?_
                    refine hw_get (v := .int (x92)) (aX12_place 122 rfl) wf_RX12_478 (c121 hS) (s121 hS) (by decide) (congrArg Value.int (show FIv73 121 68 = x92 from h93)) ?_
                    obtain ⟨x110, h111⟩ : ∃ y, FL 150 (x92).toNatClampNeg = y := ⟨_, rfl⟩
                    have h111l := congrArg Int64.toInt h111
                    have := l_rng x110
                    refine hw_lald (v := x110) (aX12_place 123 rfl) (c150 hS) (s150 hS) (h_in rfl (by omega) (by omega)) (show FL 150 (x92).toNatClampNeg = x110 from h111) ?_
                    refine xw_ldc2 (aX12_place 124 rfl) wk_RX12_503 ?_
                    have j189 : ∀ (g145 : Int32) (FIj140 : Nat → Nat → Int32), (g_fr n SH [(121, 68), (121, 69), (121, 70), (121, 71), (121, 73), (121, 90), (121, 91)] [154, 164, 165, 166, 167, 168] [] FI FIj140) → (g_I FIj140) → (FIj140 121 67 = x4) → (FIj140 121 68 = x92) → (FIj140 121 69 = g145) → (FIj140 121 71 = x12) → (FIj140 121 73 = x97) → (FIj140 149 (x30).toNatClampNeg = x41) → (FIj140 149 (x92).toNatClampNeg = x100) → (FIj140 149 = FI 149) → (rl_pm (FIj140 121 90) (FIj140 121 73) (FIj140 166) (FIj140 167) (FIj140 168)) → (rl_e (FIj140 149) (FIj140 121 67)) → (rl_t (FIj140 149) (FL 150)) → ((g145).toInt = 0 → (y3).toInt ≤ 63) → hw base (d + 7) none 230 256 [(0, .ref (base + 121)), (2, .int (x55)), (3, .int (y3))] [] (n, sl, SH, FIj140, FL, FR) (h_V (fun s => ∃ FI', s = (n, sl, SH, FI', FL, FR) ∧ g_I FI' ∧ g_fr n SH [(121, 68), (121, 69), (121, 70), (121, 71), (121, 73), (121, 90), (121, 91)] [154, 164, 165, 166, 167, 168] [] FI FI' ∧ ((FI' 121 68).toInt ≤ (FI' 121 67).toInt - 1) ∧ ((FI 121 68).toInt ≤ (FI' 121 68).toInt) ∧ ((FI' 121 73).toInt ≤ (FI 121 73).toInt + 20 * ((FI' 121 68).toInt - (FI 121 68).toInt)) ∧ ((FI 121 73).toInt ≤ (FI' 121 73).toInt) ∧ (-800 ≤ (FI' 121 71).toInt ∧ (FI' 121 71).toInt ≤ 100) ∧ ((FI' 121 69).toInt = 0 → gr_pl (kf (FI 149)) (wf (FL 150)) (FI 121 68).toInt.toNat (FI' 121 68).toInt.toNat) ∧ ((FI' 121 69).toInt = 0 → (FI' 121 71).toInt = (FI 121 71).toInt) ∧ (rl_pm (FI' 121 90) (FI' 121 73) (FI' 166) (FI' 167) (FI' 168)))) := by
                      intro g145 FIj140 fr141 hI142 kp143 kp144 kp146 kp147 kp148 kp149 kp150 rw151 rl152 rl153 rl154 fc256_0
                      have rg_g145 := i_rng g145
                      have := congrArg Int32.toInt kp143
                      have := congrArg Int32.toInt kp144
                      have := congrArg Int32.toInt kp146
                      have := congrArg Int32.toInt kp147
                      have := congrArg Int32.toInt kp148
                      have := congrArg Int32.toInt kp149
                      have := congrArg Int32.toInt kp150
                      refine hw_aloadn (aX12_place 137 rfl) rfl ?_
                      refine hw_aloadn (aX12_place 138 rfl) rfl ?_
                      refine hw_get (v := .ref (base + 150)) (aX12_place 139 rfl) wf_RX12_108 (c121 hS) (s121 hS) (by decide) (congrArg (fun r => va_rf (h_rf base r)) (r121_63 hF)) ?_
                      refine hw_aloadn (aX12_place 140 rfl) rfl ?_
                      refine hw_get (v := .int (x92)) (aX12_place 141 rfl) wf_RX12_478 (c121 hS) (s121 hS) (by decide) (congrArg Value.int (show FIj140 121 68 = x92 from kp144)) ?_
                      refine hw_lald (v := x110) (aX12_place 142 rfl) (c150 hS) (s150 hS) (h_in rfl (by omega) (by omega)) (show FL 150 (x92).toNatClampNeg = x110 from h111) ?_
                      refine xw_l2i (aX12_place 143 rfl) ?_
                      refine hw_ti (fun x190 => ?_)
                      have b191 := i_rng x190
                      refine hw_callV (Bs := [.int (x190)]) (rest := []) (aX12_place 144 rfl) wc_RX12_496 (by decide) rfl wi_yX12_emit wv_yX12_emit (c121 hS) (s121 hS) rfl rfl rfl (Nat.le_of_ble_eq_true rfl) (Nat.le_of_ble_eq_true rfl) (n_emit (d := d + 6) hS hF hI142 (x190) (by have := congrArg Int32.toInt (show FIj140 121 73 = x97 from kp148); omega) (show rl_pm (FIj140 121 90) (FIj140 121 73) (FIj140 166) (FIj140 167) (FIj140 168) from rl152)) (fun v192 sv193 p194 => ?_)
                      have := congrArg Int32.toInt (show FIj140 121 73 = x97 from kp148)
                      obtain ⟨rfl, FI196, rfl, hI197, f198, t199, rl200⟩ := p194
                      have rl201 : rl_e (FI196 149) (FI196 121 67) := by rw [show FI196 149 = FIj140 149 from gf_row f198 (c149 hS) (s149 hS) rfl rfl, show FI196 121 67 = FIj140 121 67 from gf_at f198 (c121 hS) (s121 hS) rfl rfl]; exact rl153
                      have rl202 : rl_t (FI196 149) (FL 150) := by rw [show FI196 149 = FIj140 149 from gf_row f198 (c149 hS) (s149 hS) rfl rfl]; exact rl154
                      obtain ⟨x203, h204⟩ : ∃ y, FI196 121 73 = y := ⟨_, rfl⟩
                      have h204l := congrArg Int32.toInt h204
                      have b205 := gI_121_73 hI197; rw [h204] at b205
                      show hw base _ _ _ _ _ [] _ _
                      refine xw_iloadn (aX12_place 145 rfl) rfl ?_
                      refine hw_ic (v := (1 : Int32)) (aX12_place 146 rfl) (by decide) ?_
                      refine xw_iadd (aX12_place 147 rfl) ?_
                      refine hw_tie (A := ((y3).toInt) + (1)) (i_add rfl (by decide : (1 : Int32).toInt = 1) (by omega) (by omega)) (fun x206 e207 => ?_)
                      refine xw_istoren (L2 := [(3, .int (x206)), (0, .ref (base + 121)), (2, .int (x55))]) (aX12_place 148 rfl) (by decide) rfl ?_
                      refine hw_aloadn (aX12_place 149 rfl) rfl ?_
                      refine hw_aloadn (aX12_place 150 rfl) rfl ?_
                      refine hw_get (v := .int (x92)) (aX12_place 151 rfl) wf_RX12_478 (c121 hS) (s121 hS) (by decide) (congrArg Value.int (show FI196 121 68 = x92 from (gf_at f198 (c121 hS) (s121 hS) rfl (kp144)))) ?_
                      refine hw_ic (v := (1 : Int32)) (aX12_place 152 rfl) (by decide) ?_
                      refine xw_iadd (aX12_place 153 rfl) ?_
                      refine hw_tie (A := ((x92).toInt) + (1)) (i_add rfl (by decide : (1 : Int32).toInt = 1) (by omega) (by omega)) (fun x208 e209 => ?_)
                      refine hv_puti (aX12_place 154 rfl) wf_RX12_478 (c121 hS) (s121 hS) (by decide) rfl rfl (fun FI210 u211 => ?_)
                      have rl212 : rl_pm (FI210 121 90) (FI210 121 73) (FI210 166) (FI210 167) (FI210 168) := by rw [show FI210 166 = FI196 166 from up_row u211 (by decide) rfl, show FI210 167 = FI196 167 from up_row u211 (by decide) rfl, show FI210 168 = FI196 168 from up_row u211 (by decide) rfl, show FI210 121 90 = FI196 121 90 from up_k u211 (by decide) rfl, show FI210 121 73 = FI196 121 73 from up_k u211 (by decide) rfl]; exact rl200
                      have rl213 : rl_e (FI210 149) (FI210 121 67) := by rw [show FI210 149 = FI196 149 from up_row u211 (by decide) rfl, show FI210 121 67 = FI196 121 67 from up_k u211 (by decide) rfl]; exact rl201
                      have rl214 : rl_t (FI210 149) (FL 150) := by rw [show FI210 149 = FI196 149 from up_row u211 (by decide) rfl]; exact rl202
                      have hI215 : g_I FI210 := gU_121_68 hI197 u211 (by have := (e209 : (x208).toInt = ((x92).toInt) + (1)); omega) (by have := (e209 : (x208).toInt = ((x92).toInt) + (1)); omega)
                      refine xw_goto (tgt := 200) (aX12_place 155 rfl) (by decide) ?_
                      refine hw_aloadn (aX12_place 109 rfl) rfl ?_
                      refine hw_get (v := .int (g145)) (aX12_place 110 rfl) wf_RX12_475 (c121 hS) (s121 hS) (by decide) (congrArg Value.int (show FI210 121 69 = g145 from (up_k u211 (by decide) ((gf_at f198 (c121 hS) (s121 hS) rfl (kp146)))))) ?_
                      refine hw_ifne (tgt := 287) (aX12_place 111 rfl) (by decide) rfl (fun cd216 => ?_) (fun cd216 => ?_)
                      · refine hw_aloadn (aX12_place 156 rfl) rfl ?_
                        refine hw_get (v := .int (x203)) (aX12_place 157 rfl) wf_RX12_493 (c121 hS) (s121 hS) (by decide) (congrArg Value.int (show FI210 121 73 = x203 from (up_k u211 (by decide) (h204)))) ?_
                        refine hw_sp (v := (4000 : Int32)) (aX12_place 158 rfl) (by decide) ?_
                        refine hw_icgt (tgt := 304) (aX12_place 159 rfl) (by decide) rfl (by decide : (4000 : Int32).toInt = 4000) (fun cd217 => ?_) (fun cd217 => ?_)
                        · refine xw_vret (aX12_place 165 rfl) rfl ?_
                          exact ⟨rfl, FI210, rfl, hI215, (gf_f (gf_tr ex_rf fr141 f198 rfl rfl rfl) u211 (by decide)), (by have := congrArg Int32.toInt (show FI210 121 67 = x4 from (up_k u211 (by decide) ((gf_at f198 (c121 hS) (s121 hS) rfl (kp143))))); have := congrArg Int32.toInt (show FI210 121 68 = x208 from up_eq u211); have := (e209 : (x208).toInt = ((x92).toInt) + (1)); omega), (by have := congrArg Int32.toInt (show FI210 121 68 = x208 from up_eq u211); have := (e209 : (x208).toInt = ((x92).toInt) + (1)); omega), (by have := congrArg Int32.toInt (show FI210 121 68 = x208 from up_eq u211); have := (e209 : (x208).toInt = ((x92).toInt) + (1)); have := congrArg Int32.toInt (show FI210 121 73 = x203 from (up_k u211 (by decide) (h204))); omega), (by have := congrArg Int32.toInt (show FI210 121 73 = x203 from (up_k u211 (by decide) (h204))); omega), (by have := congrArg Int32.toInt (show FI210 121 71 = x12 from (up_k u211 (by decide) ((gf_at f198 (c121 hS) (s121 hS) rfl (kp147))))); omega), (by have := congrArg Int32.toInt (show FI210 121 69 = g145 from (up_k u211 (by decide) ((gf_at f198 (c121 hS) (s121 hS) rfl (kp146))))); exact fun h => absurd h (by omega)), (by have := congrArg Int32.toInt (show FI210 121 69 = g145 from (up_k u211 (by decide) ((gf_at f198 (c121 hS) (s121 hS) rfl (kp146))))); exact fun h => absurd h (by omega)), (show rl_pm (FI210 121 90) (FI210 121 73) (FI210 166) (FI210 167) (FI210 168) from rl212)⟩
                        · refine hw_aloadn (aX12_place 160 rfl) rfl ?_
                          refine hw_get (v := .ref (base + 154)) (aX12_place 161 rfl) wf_RX12_120 (c121 hS) (s121 hS) (by decide) (congrArg (fun r => va_rf (h_rf base r)) (r121_72 hF)) ?_
                          refine xw_iloadn (aX12_place 162 rfl) rfl ?_
                          refine xw_iloadn (aX12_place 163 rfl) rfl ?_
                          refine hv_iast (k := (x55).toNatClampNeg) (aX12_place 164 rfl) (c154 hS) (s154 hS) (h_in rfl (by omega) (by omega)) rfl (fun FI218 u219 => ?_)
                          have rl220 : rl_pm (FI218 121 90) (FI218 121 73) (FI218 166) (FI218 167) (FI218 168) := by rw [show FI218 166 = FI210 166 from up_row u219 (by decide) rfl, show FI218 167 = FI210 167 from up_row u219 (by decide) rfl, show FI218 168 = FI210 168 from up_row u219 (by decide) rfl, show FI218 121 90 = FI210 121 90 from up_c u219 (by decide) rfl, show FI218 121 73 = FI210 121 73 from up_c u219 (by decide) rfl]; exact rl212
                          have rl221 : rl_e (FI218 149) (FI218 121 67) := by rw [show FI218 149 = FI210 149 from up_row u219 (by decide) rfl, show FI218 121 67 = FI210 121 67 from up_c u219 (by decide) rfl]; exact rl213
                          have rl222 : rl_t (FI218 149) (FL 150) := by rw [show FI218 149 = FI210 149 from up_row u219 (by decide) rfl]; exact rl214
                          have hI223 : g_I FI218 := gU_F hI215 u219 rfl
                          refine xw_vret (aX12_place 165 rfl) rfl ?_
                          exact ⟨rfl, FI218, rfl, hI223, (gf_a (gf_f (gf_tr ex_rf fr141 f198 rfl rfl rfl) u211 (by decide)) u219 (by decide)), (by have := congrArg Int32.toInt (show FI218 121 67 = x4 from (up_c u219 (by decide) ((up_k u211 (by decide) ((gf_at f198 (c121 hS) (s121 hS) rfl (kp143))))))); have := congrArg Int32.toInt (show FI218 121 68 = x208 from (up_c u219 (by decide) (up_eq u211))); have := (e209 : (x208).toInt = ((x92).toInt) + (1)); omega), (by have := congrArg Int32.toInt (show FI218 121 68 = x208 from (up_c u219 (by decide) (up_eq u211))); have := (e209 : (x208).toInt = ((x92).toInt) + (1)); omega), (by have := congrArg Int32.toInt (show FI218 121 68 = x208 from (up_c u219 (by decide) (up_eq u211))); have := (e209 : (x208).toInt = ((x92).toInt) + (1)); have := congrArg Int32.toInt (show FI218 121 73 = x203 from (up_c u219 (by decide) ((up_k u211 (by decide) (h204))))); omega), (by have := congrArg Int32.toInt (show FI218 121 73 = x203 from (up_c u219 (by decide) ((up_k u211 (by decide) (h204))))); omega), (by have := congrArg Int32.toInt (show FI218 121 71 = x12 from (up_c u219 (by decide) ((up_k u211 (by decide) ((gf_at f198 (c121 hS) (s121 hS) rfl (kp147))))))); omega), (by have := congrArg Int32.toInt (show FI218 121 69 = g145 from (up_c u219 (by decide) ((up_k u211 (by decide) ((gf_at f198 (c121 hS) (s121 hS) rfl (kp146))))))); exact fun h => absurd h (by omega)), (by have := congrArg Int32.toInt (show FI218 121 69 = g145 from (up_c u219 (by decide) ((up_k u211 (by decide) ((gf_at f198 (c121 hS) (s121 hS) rfl (kp146))))))); exact fun h => absurd h (by omega)), (show rl_pm (FI218 121 90) (FI218 121 73) (FI218 166) (FI218 167) (FI218 168) from rl220)⟩
                      · exact hw_L (ih (x206) FI210 (gf_f (gf_tr ex_rf fr141 f198 rfl rfl rfl) u211 (by decide)) hI215 (show FI210 121 67 = x4 from (up_k u211 (by decide) ((gf_at f198 (c121 hS) (s121 hS) rfl (kp143))))) (show FI210 121 71 = x12 from (up_k u211 (by decide) ((gf_at f198 (c121 hS) (s121 hS) rfl (kp147))))) (show FI210 149 (x30).toNatClampNeg = x41 from (up_c u211 (by decide) ((gf_at f198 (c149 hS) (s149 hS) rfl (kp149))))) (show rl_e (FI210 149) (FI210 121 67) from rl213) (show rl_t (FI210 149) (FL 150) from rl214) (show rl_pm (FI210 121 90) (FI210 121 73) (FI210 166) (FI210 167) (FI210 168) from rl212) (by have := (e207 : (x206).toInt = ((y3).toInt) + (1)); omega) (by have := (e207 : (x206).toInt = ((y3).toInt) + (1)); have := congrArg Int32.toInt (show FI210 121 68 = x208 from up_eq u211); have := (e209 : (x208).toInt = ((x92).toInt) + (1)); omega) (by have := (e207 : (x206).toInt = ((y3).toInt) + (1)); have := congrArg Int32.toInt (show FI210 121 69 = g145 from (up_k u211 (by decide) ((gf_at f198 (c121 hS) (s121 hS) rfl (kp146))))); omega) (by have := (e207 : (x206).toInt = ((y3).toInt) + (1)); have := congrArg Int32.toInt (show FI210 121 67 = x4 from (up_k u211 (by decide) ((gf_at f198 (c121 hS) (s121 hS) rfl (kp143))))); have := congrArg Int32.toInt (show FI210 121 68 = x208 from up_eq u211); have := (e209 : (x208).toInt = ((x92).toInt) + (1)); omega) (by have := (e207 : (x206).toInt = ((y3).toInt) + (1)); have := congrArg Int32.toInt (show FI210 121 68 = x208 from up_eq u211); have := (e209 : (x208).toInt = ((x92).toInt) + (1)); omega) (by have := (e207 : (x206).toInt = ((y3).toInt) + (1)); have := congrArg Int32.toInt (show FI210 121 68 = x208 from up_eq u211); have := (e209 : (x208).toInt = ((x92).toInt) + (1)); have := congrArg Int32.toInt (show FI210 121 73 = x203 from (up_k u211 (by decide) (h204))); omega) (by have := (e207 : (x206).toInt = ((y3).toInt) + (1)); have := congrArg Int32.toInt (show FI210 121 73 = x203 from (up_k u211 (by decide) (h204))); omega) (by have := (e207 : (x206).toInt = ((y3).toInt) + (1)); have := congrArg Int32.toInt (show FI210 121 73 = x203 from (up_k u211 (by decide) (h204))); omega) (show ∀ i : Nat, (FI 121 68).toInt.toNat < i → i < ((FI210 121 68).toInt).toNat → kf (FI 149) i = 3 from (by have := (e207 : (x206).toInt = ((y3).toInt) + (1)); have := congrArg Int32.toInt (show FI210 121 68 = x208 from up_eq u211); have := (e209 : (x208).toInt = ((x92).toInt) + (1)); exact (fun i h1 h2 => by { rcases Nat.lt_or_ge i (x92).toInt.toNat with h | h; { exact xi207_0 i h1 (by omega) }; { rw [show i = (x92).toInt.toNat by omega]; exact hk207 } }))) (show FI210 149 = FI 149 from (up_row u211 (by decide) ((gf_row f198 (c149 hS) (s149 hS) rfl (rw151))))) (by have := (e207 : (x206).toInt = ((y3).toInt) + (1)); have := congrArg Int32.toInt (show FI210 121 68 = x208 from up_eq u211); have := (e209 : (x208).toInt = ((x92).toInt) + (1)); omega)) ⟨rfl, rfl, rfl, trivial⟩
                    refine hw_lcle (tgt := 244) (aX12_place 125 rfl) (aX12_place 126 rfl) (by decide) rfl (by decide : (255 : Int64).toInt = 255) (fun cd224 => ?_) (fun cd224 => ?_)
                    · refine xw_iloadn (aX12_place 131 rfl) rfl ?_
                      refine hw_bp (v := (64 : Int32)) (aX12_place 132 rfl) (by decide) ?_
                      refine hw_icne (tgt := 256) (aX12_place 133 rfl) (by decide) rfl (by decide : (64 : Int32).toInt = 64) (fun cd225 => ?_) (fun cd225 => ?_)
                      · exact hw_L (j189 (x95) FIv73 fr74 hI75 (show FIv73 121 67 = x4 from kp76) (show FIv73 121 68 = x92 from h93) (show FIv73 121 69 = x95 from h96) (show FIv73 121 71 = x12 from kp77) (show FIv73 121 73 = x97 from h98) (show FIv73 149 (x30).toNatClampNeg = x41 from kp78) (show FIv73 149 (x92).toNatClampNeg = x100 from h101) (show FIv73 149 = FI 149 from rw90) (show rl_pm (FIv73 121 90) (FIv73 121 73) (FIv73 166) (FIv73 167) (FIv73 168) from rl81) (show rl_e (FIv73 149) (FIv73 121 67) from rl79) (show rl_t (FIv73 149) (FL 150) from rl80) (by show (x95).toInt = 0 → (y3).toInt ≤ 63; omega)) ⟨rfl, rfl, rfl, trivial⟩
                      · refine hw_aloadn (aX12_place 134 rfl) rfl ?_
                        refine hw_bp (v := (6 : Int32)) (aX12_place 135 rfl) (by decide) ?_
                        refine hw_callV (Bs := [.int ((6 : Int32))]) (rest := []) (aX12_place 136 rfl) wc_RX12_487 (by decide) rfl wi_yX12_fail wv_yX12_fail (c121 hS) (s121 hS) rfl rfl rfl (Nat.le_of_ble_eq_true rfl) (Nat.le_of_ble_eq_true rfl) (n_fail (d := d + 6) hS hF hI75 ((6 : Int32)) (by have := ((by decide : (6 : Int32).toInt = 6) : ((6 : Int32)).toInt = 6); omega)) (fun v226 sv227 p228 => ?_)
                        obtain ⟨rfl, FI230, rfl, hI231, f232, t233⟩ := p228
                        have rl234 : rl_e (FI230 149) (FI230 121 67) := by rw [show FI230 149 = FIv73 149 from gf_row f232 (c149 hS) (s149 hS) rfl rfl, show FI230 121 67 = FIv73 121 67 from gf_at f232 (c121 hS) (s121 hS) rfl rfl]; exact rl79
                        have rl235 : rl_t (FI230 149) (FL 150) := by rw [show FI230 149 = FIv73 149 from gf_row f232 (c149 hS) (s149 hS) rfl rfl]; exact rl80
                        have rl236 : rl_pm (FI230 121 90) (FI230 121 73) (FI230 166) (FI230 167) (FI230 168) := by rw [show FI230 166 = FIv73 166 from gf_row f232 (c166 hS) (s166 hS) rfl rfl, show FI230 167 = FIv73 167 from gf_row f232 (c167 hS) (s167 hS) rfl rfl, show FI230 168 = FIv73 168 from gf_row f232 (c168 hS) (s168 hS) rfl rfl, show FI230 121 90 = FIv73 121 90 from gf_at f232 (c121 hS) (s121 hS) rfl rfl, show FI230 121 73 = FIv73 121 73 from gf_at f232 (c121 hS) (s121 hS) rfl rfl]; exact rl81
                        obtain ⟨x237, h238⟩ : ∃ y, FI230 121 69 = y := ⟨_, rfl⟩
                        have h238l := congrArg Int32.toInt h238
                        have := i_rng x237
                        show hw base _ _ _ _ _ [] _ _
                        exact hw_L (j189 (x237) FI230 (gf_tr ex_rf fr74 f232 rfl rfl rfl) hI231 (show FI230 121 67 = x4 from (gf_at f232 (c121 hS) (s121 hS) rfl (kp76))) (show FI230 121 68 = x92 from (gf_at f232 (c121 hS) (s121 hS) rfl (h93))) (show FI230 121 69 = x237 from h238) (show FI230 121 71 = x12 from (gf_at f232 (c121 hS) (s121 hS) rfl (kp77))) (show FI230 121 73 = x97 from (gf_at f232 (c121 hS) (s121 hS) rfl (h98))) (show FI230 149 (x30).toNatClampNeg = x41 from (gf_at f232 (c149 hS) (s149 hS) rfl (kp78))) (show FI230 149 (x92).toNatClampNeg = x100 from (gf_at f232 (c149 hS) (s149 hS) rfl (h101))) (show FI230 149 = FI 149 from (gf_row f232 (c149 hS) (s149 hS) rfl (rw90))) (show rl_pm (FI230 121 90) (FI230 121 73) (FI230 166) (FI230 167) (FI230 168) from rl236) (show rl_e (FI230 149) (FI230 121 67) from rl234) (show rl_t (FI230 149) (FL 150) from rl235) (by show (x237).toInt = 0 → (y3).toInt ≤ 63; omega)) ⟨rfl, rfl, rfl, trivial⟩
                    · refine hw_aloadn (aX12_place 127 rfl) rfl ?_
                      refine hw_ic (v := (3 : Int32)) (aX12_place 128 rfl) (by decide) ?_
                      refine hw_callV (Bs := [.int ((3 : Int32))]) (rest := []) (aX12_place 129 rfl) wc_RX12_487 (by decide) rfl wi_yX12_fail wv_yX12_fail (c121 hS) (s121 hS) rfl rfl rfl (Nat.le_of_ble_eq_true rfl) (Nat.le_of_ble_eq_true rfl) (n_fail (d := d + 6) hS hF hI75 ((3 : Int32)) (by have := ((by decide : (3 : Int32).toInt = 3) : ((3 : Int32)).toInt = 3); omega)) (fun v239 sv240 p241 => ?_)
                      obtain ⟨rfl, FI243, rfl, hI244, f245, t246⟩ := p241
                      have rl247 : rl_e (FI243 149) (FI243 121 67) := by rw [show FI243 149 = FIv73 149 from gf_row f245 (c149 hS) (s149 hS) rfl rfl, show FI243 121 67 = FIv73 121 67 from gf_at f245 (c121 hS) (s121 hS) rfl rfl]; exact rl79
                      have rl248 : rl_t (FI243 149) (FL 150) := by rw [show FI243 149 = FIv73 149 from gf_row f245 (c149 hS) (s149 hS) rfl rfl]; exact rl80
                      have rl249 : rl_pm (FI243 121 90) (FI243 121 73) (FI243 166) (FI243 167) (FI243 168) := by rw [show FI243 166 = FIv73 166 from gf_row f245 (c166 hS) (s166 hS) rfl rfl, show FI243 167 = FIv73 167 from gf_row f245 (c167 hS) (s167 hS) rfl rfl, show FI243 168 = FIv73 168 from gf_row f245 (c168 hS) (s168 hS) rfl rfl, show FI243 121 90 = FIv73 121 90 from gf_at f245 (c121 hS) (s121 hS) rfl rfl, show FI243 121 73 = FIv73 121 73 from gf_at f245 (c121 hS) (s121 hS) rfl rfl]; exact rl81
                      obtain ⟨x250, h251⟩ : ∃ y, FI243 121 69 = y := ⟨_, rfl⟩
                      have h251l := congrArg Int32.toInt h251
                      have := i_rng x250
                      show hw base _ _ _ _ _ [] _ _
                      refine xw_goto (tgt := 256) (aX12_place 130 rfl) (by decide) ?_
                      exact hw_L (j189 (x250) FI243 (gf_tr ex_rf fr74 f245 rfl rfl rfl) hI244 (show FI243 121 67 = x4 from (gf_at f245 (c121 hS) (s121 hS) rfl (kp76))) (show FI243 121 68 = x92 from (gf_at f245 (c121 hS) (s121 hS) rfl (h93))) (show FI243 121 69 = x250 from h251) (show FI243 121 71 = x12 from (gf_at f245 (c121 hS) (s121 hS) rfl (kp77))) (show FI243 121 73 = x97 from (gf_at f245 (c121 hS) (s121 hS) rfl (h98))) (show FI243 149 (x30).toNatClampNeg = x41 from (gf_at f245 (c149 hS) (s149 hS) rfl (kp78))) (show FI243 149 (x92).toNatClampNeg = x100 from (gf_at f245 (c149 hS) (s149 hS) rfl (h101))) (show FI243 149 = FI 149 from (gf_row f245 (c149 hS) (s149 hS) rfl (rw90))) (show rl_pm (FI243 121 90) (FI243 121 73) (FI243 166) (FI243 167) (FI243 168) from rl249) (show rl_e (FI243 149) (FI243 121 67) from rl247) (show rl_t (FI243 149) (FL 150) from rl248) (by show (x250).toInt = 0 → (y3).toInt ≤ 63; omega)) ⟨rfl, rfl, rfl, trivial⟩
              exact hw_L (lp91 ((1001 - (x30).toInt : Int).toNat + 1) ((0 : Int32)) FI62 (gf_tr ex_rf (gf_tr ex_rf (gf_f gf_rf u33 (by decide)) f50 rfl rfl rfl) f64 rfl rfl rfl) hI63 (show FI62 121 67 = x4 from (gf_at f64 (c121 hS) (s121 hS) rfl ((gf_at f50 (c121 hS) (s121 hS) rfl ((up_k u33 (by decide) (h5))))))) (show FI62 121 71 = x12 from (gf_at f64 (c121 hS) (s121 hS) rfl ((gf_at f50 (c121 hS) (s121 hS) rfl ((up_k u33 (by decide) (h13))))))) (show FI62 149 (x30).toNatClampNeg = x41 from (gf_at f64 (c149 hS) (s149 hS) rfl ((gf_at f50 (c149 hS) (s149 hS) rfl (h42))))) (show rl_e (FI62 149) (FI62 121 67) from rl67) (show rl_t (FI62 149) (FL 150) from rl68) (show rl_pm (FI62 121 90) (FI62 121 73) (FI62 166) (FI62 167) (FI62 168) from rl66) (by have := ((by decide : (0 : Int32).toInt = 0) : ((0 : Int32)).toInt = 0); omega) (by have := ((by decide : (0 : Int32).toInt = 0) : ((0 : Int32)).toInt = 0); have := congrArg Int32.toInt (show FI62 121 68 = x30 from (gf_at f64 (c121 hS) (s121 hS) rfl ((gf_at f50 (c121 hS) (s121 hS) rfl (up_eq u33))))); have := (e31 : (x30).toInt = ((x1).toInt) + (1)); omega) (by have := ((by decide : (0 : Int32).toInt = 0) : ((0 : Int32)).toInt = 0); have := congrArg Int32.toInt (show FI62 121 69 = x7 from (gf_at f64 (c121 hS) (s121 hS) rfl ((gf_at f50 (c121 hS) (s121 hS) rfl ((up_k u33 (by decide) (h8))))))); omega) (by have := ((by decide : (0 : Int32).toInt = 0) : ((0 : Int32)).toInt = 0); have := congrArg Int32.toInt (show FI62 121 67 = x4 from (gf_at f64 (c121 hS) (s121 hS) rfl ((gf_at f50 (c121 hS) (s121 hS) rfl ((up_k u33 (by decide) (h5))))))); have := congrArg Int32.toInt (show FI62 121 68 = x30 from (gf_at f64 (c121 hS) (s121 hS) rfl ((gf_at f50 (c121 hS) (s121 hS) rfl (up_eq u33))))); have := (e31 : (x30).toInt = ((x1).toInt) + (1)); omega) (by have := ((by decide : (0 : Int32).toInt = 0) : ((0 : Int32)).toInt = 0); have := congrArg Int32.toInt (show FI62 121 68 = x30 from (gf_at f64 (c121 hS) (s121 hS) rfl ((gf_at f50 (c121 hS) (s121 hS) rfl (up_eq u33))))); have := (e31 : (x30).toInt = ((x1).toInt) + (1)); omega) (by have := ((by decide : (0 : Int32).toInt = 0) : ((0 : Int32)).toInt = 0); have := congrArg Int32.toInt (show FI62 121 68 = x30 from (gf_at f64 (c121 hS) (s121 hS) rfl ((gf_at f50 (c121 hS) (s121 hS) rfl (up_eq u33))))); have := (e31 : (x30).toInt = ((x1).toInt) + (1)); have := congrArg Int32.toInt (show FI62 121 73 = x69 from h70); omega) (by have := ((by decide : (0 : Int32).toInt = 0) : ((0 : Int32)).toInt = 0); have := congrArg Int32.toInt (show FI62 121 73 = x69 from h70); omega) (by have := ((by decide : (0 : Int32).toInt = 0) : ((0 : Int32)).toInt = 0); have := congrArg Int32.toInt (show FI62 121 73 = x69 from h70); omega) (show ∀ i : Nat, (FI 121 68).toInt.toNat < i → i < ((FI62 121 68).toInt).toNat → kf (FI 149) i = 3 from (by have := ((by decide : (0 : Int32).toInt = 0) : ((0 : Int32)).toInt = 0); have := congrArg Int32.toInt (show FI62 121 68 = x30 from (gf_at f64 (c121 hS) (s121 hS) rfl ((gf_at f50 (c121 hS) (s121 hS) rfl (up_eq u33))))); have := (e31 : (x30).toInt = ((x1).toInt) + (1)); exact (fun i h1 h2 => absurd h1 (by omega)))) (show FI62 149 = FI 149 from (gf_row f64 (c149 hS) (s149 hS) rfl ((gf_row f50 (c149 hS) (s149 hS) rfl ((up_row u33 (by decide) (rfl))))))) (by have := ((by decide : (0 : Int32).toInt = 0) : ((0 : Int32)).toInt = 0); have := congrArg Int32.toInt (show FI62 121 68 = x30 from (gf_at f64 (c121 hS) (s121 hS) rfl ((gf_at f50 (c121 hS) (s121 hS) rfl (up_eq u33))))); have := (e31 : (x30).toInt = ((x1).toInt) + (1)); omega)) ⟨rfl, rfl, rfl, trivial⟩
          · refine hw_aloadn (aX12_place 95 rfl) rfl ?_
            refine hw_ic (v := (1 : Int32)) (aX12_place 96 rfl) (by decide) ?_
            refine hw_callV (Bs := [.int ((1 : Int32))]) (rest := []) (aX12_place 97 rfl) wc_RX12_487 (by decide) rfl wi_yX12_fail wv_yX12_fail (c121 hS) (s121 hS) rfl rfl rfl (Nat.le_of_ble_eq_true rfl) (Nat.le_of_ble_eq_true rfl) (n_fail (d := d + 6) hS hF hI37 ((1 : Int32)) (by have := ((by decide : (1 : Int32).toInt = 1) : ((1 : Int32)).toInt = 1); omega)) (fun v252 sv253 p254 => ?_)
            obtain ⟨rfl, FI256, rfl, hI257, f258, t259⟩ := p254
            have rl260 : rl_e (FI256 149) (FI256 121 67) := by rw [show FI256 149 = FI32 149 from gf_row f258 (c149 hS) (s149 hS) rfl rfl, show FI256 121 67 = FI32 121 67 from gf_at f258 (c121 hS) (s121 hS) rfl rfl]; exact rl34
            have rl261 : rl_t (FI256 149) (FL 150) := by rw [show FI256 149 = FI32 149 from gf_row f258 (c149 hS) (s149 hS) rfl rfl]; exact rl35
            have rl262 : rl_pm (FI256 121 90) (FI256 121 73) (FI256 166) (FI256 167) (FI256 168) := by rw [show FI256 166 = FI32 166 from gf_row f258 (c166 hS) (s166 hS) rfl rfl, show FI256 167 = FI32 167 from gf_row f258 (c167 hS) (s167 hS) rfl rfl, show FI256 168 = FI32 168 from gf_row f258 (c168 hS) (s168 hS) rfl rfl, show FI256 121 90 = FI32 121 90 from gf_at f258 (c121 hS) (s121 hS) rfl rfl, show FI256 121 73 = FI32 121 73 from gf_at f258 (c121 hS) (s121 hS) rfl rfl]; exact rl36
            obtain ⟨x263, h264⟩ : ∃ y, FI256 121 69 = y := ⟨_, rfl⟩
            have h264l := congrArg Int32.toInt h264
            have := i_rng x263
            show hw base _ _ _ _ _ [] _ _
            refine hw_aloadn (aX12_place 98 rfl) rfl ?_
            refine hw_sp (v := (158 : Int32)) (aX12_place 99 rfl) (by decide) ?_
            refine hw_callV (Bs := [.int ((158 : Int32))]) (rest := []) (aX12_place 100 rfl) wc_RX12_496 (by decide) rfl wi_yX12_emit wv_yX12_emit (c121 hS) (s121 hS) rfl rfl rfl (Nat.le_of_ble_eq_true rfl) (Nat.le_of_ble_eq_true rfl) (n_emit (d := d + 6) hS hF hI257 ((158 : Int32)) (by have := congrArg Int32.toInt (show FI256 121 73 = x9 from (gf_at f258 (c121 hS) (s121 hS) rfl ((up_k u33 (by decide) (h10))))); omega) (show rl_pm (FI256 121 90) (FI256 121 73) (FI256 166) (FI256 167) (FI256 168) from rl262)) (fun v265 sv266 p267 => ?_)
            have := congrArg Int32.toInt (show FI256 121 73 = x9 from (gf_at f258 (c121 hS) (s121 hS) rfl ((up_k u33 (by decide) (h10)))))
            obtain ⟨rfl, FI269, rfl, hI270, f271, t272, rl273⟩ := p267
            have rl274 : rl_e (FI269 149) (FI269 121 67) := by rw [show FI269 149 = FI256 149 from gf_row f271 (c149 hS) (s149 hS) rfl rfl, show FI269 121 67 = FI256 121 67 from gf_at f271 (c121 hS) (s121 hS) rfl rfl]; exact rl260
            have rl275 : rl_t (FI269 149) (FL 150) := by rw [show FI269 149 = FI256 149 from gf_row f271 (c149 hS) (s149 hS) rfl rfl]; exact rl261
            obtain ⟨x276, h277⟩ : ∃ y, FI269 121 73 = y := ⟨_, rfl⟩
            have h277l := congrArg Int32.toInt h277
            have b278 := gI_121_73 hI270; rw [h277] at b278
            show hw base _ _ _ _ _ [] _ _
            refine hw_aloadn (aX12_place 101 rfl) rfl ?_
            refine hw_get (v := .int (x276)) (aX12_place 102 rfl) wf_RX12_493 (c121 hS) (s121 hS) (by decide) (congrArg Value.int (show FI269 121 73 = x276 from h277)) ?_
            refine xw_istoren (L2 := [(2, .int (x276)), (1, .int (x28)), (0, .ref (base + 121))]) (aX12_place 103 rfl) (by decide) rfl ?_
            refine hw_aloadn (aX12_place 104 rfl) rfl ?_
            refine hw_ic (v := (0 : Int32)) (aX12_place 105 rfl) (by decide) ?_
            refine hw_callV (Bs := [.int ((0 : Int32))]) (rest := []) (aX12_place 106 rfl) wc_RX12_496 (by decide) rfl wi_yX12_emit wv_yX12_emit (c121 hS) (s121 hS) rfl rfl rfl (Nat.le_of_ble_eq_true rfl) (Nat.le_of_ble_eq_true rfl) (n_emit (d := d + 6) hS hF hI270 ((0 : Int32)) (by have := congrArg Int32.toInt (show FI269 121 73 = x276 from h277); omega) (show rl_pm (FI269 121 90) (FI269 121 73) (FI269 166) (FI269 167) (FI269 168) from rl273)) (fun v279 sv280 p281 => ?_)
            have := congrArg Int32.toInt (show FI269 121 73 = x276 from h277)
            obtain ⟨rfl, FI283, rfl, hI284, f285, t286, rl287⟩ := p281
            have rl288 : rl_e (FI283 149) (FI283 121 67) := by rw [show FI283 149 = FI269 149 from gf_row f285 (c149 hS) (s149 hS) rfl rfl, show FI283 121 67 = FI269 121 67 from gf_at f285 (c121 hS) (s121 hS) rfl rfl]; exact rl274
            have rl289 : rl_t (FI283 149) (FL 150) := by rw [show FI283 149 = FI269 149 from gf_row f285 (c149 hS) (s149 hS) rfl rfl]; exact rl275
            obtain ⟨x290, h291⟩ : ∃ y, FI283 121 73 = y := ⟨_, rfl⟩
            have h291l := congrArg Int32.toInt h291
            have b292 := gI_121_73 hI284; rw [h291] at b292
            show hw base _ _ _ _ _ [] _ _
            refine hw_ic (v := (0 : Int32)) (aX12_place 107 rfl) (by decide) ?_
            refine xw_istoren (L2 := [(3, .int ((0 : Int32))), (2, .int (x276)), (1, .int (x28)), (0, .ref (base + 121))]) (aX12_place 108 rfl) (by decide) rfl ?_
            refine hw_aloadn (aX12_place 109 rfl) rfl ?_
            refine hw_get (v := .int (x263)) (aX12_place 110 rfl) wf_RX12_475 (c121 hS) (s121 hS) (by decide) (congrArg Value.int (show FI283 121 69 = x263 from (gf_at f285 (c121 hS) (s121 hS) rfl ((gf_at f271 (c121 hS) (s121 hS) rfl (h264)))))) ?_
            refine hw_ifne (tgt := 287) (aX12_place 111 rfl) (by decide) rfl (fun cd293 => ?_) (fun cd293 => ?_)
            · refine hw_aloadn (aX12_place 156 rfl) rfl ?_
              refine hw_get (v := .int (x290)) (aX12_place 157 rfl) wf_RX12_493 (c121 hS) (s121 hS) (by decide) (congrArg Value.int (show FI283 121 73 = x290 from h291)) ?_
              refine hw_sp (v := (4000 : Int32)) (aX12_place 158 rfl) (by decide) ?_
              refine hw_icgt (tgt := 304) (aX12_place 159 rfl) (by decide) rfl (by decide : (4000 : Int32).toInt = 4000) (fun cd294 => ?_) (fun cd294 => ?_)
              · refine xw_vret (aX12_place 165 rfl) rfl ?_
                exact ⟨rfl, FI283, rfl, hI284, (gf_tr ex_rf (gf_tr ex_rf (gf_tr ex_rf (gf_f gf_rf u33 (by decide)) f258 rfl rfl rfl) f271 rfl rfl rfl) f285 rfl rfl rfl), (by have := congrArg Int32.toInt (show FI283 121 67 = x4 from (gf_at f285 (c121 hS) (s121 hS) rfl ((gf_at f271 (c121 hS) (s121 hS) rfl ((gf_at f258 (c121 hS) (s121 hS) rfl ((up_k u33 (by decide) (h5))))))))); have := congrArg Int32.toInt (show FI283 121 68 = x30 from (gf_at f285 (c121 hS) (s121 hS) rfl ((gf_at f271 (c121 hS) (s121 hS) rfl ((gf_at f258 (c121 hS) (s121 hS) rfl (up_eq u33))))))); have := (e31 : (x30).toInt = ((x1).toInt) + (1)); omega), (by have := congrArg Int32.toInt (show FI283 121 68 = x30 from (gf_at f285 (c121 hS) (s121 hS) rfl ((gf_at f271 (c121 hS) (s121 hS) rfl ((gf_at f258 (c121 hS) (s121 hS) rfl (up_eq u33))))))); have := (e31 : (x30).toInt = ((x1).toInt) + (1)); omega), (by have := congrArg Int32.toInt (show FI283 121 68 = x30 from (gf_at f285 (c121 hS) (s121 hS) rfl ((gf_at f271 (c121 hS) (s121 hS) rfl ((gf_at f258 (c121 hS) (s121 hS) rfl (up_eq u33))))))); have := (e31 : (x30).toInt = ((x1).toInt) + (1)); have := congrArg Int32.toInt (show FI283 121 73 = x290 from h291); omega), (by have := congrArg Int32.toInt (show FI283 121 73 = x290 from h291); omega), (by have := congrArg Int32.toInt (show FI283 121 71 = x12 from (gf_at f285 (c121 hS) (s121 hS) rfl ((gf_at f271 (c121 hS) (s121 hS) rfl ((gf_at f258 (c121 hS) (s121 hS) rfl ((up_k u33 (by decide) (h13))))))))); omega), (by have := congrArg Int32.toInt (show FI283 121 69 = x263 from (gf_at f285 (c121 hS) (s121 hS) rfl ((gf_at f271 (c121 hS) (s121 hS) rfl (h264))))); exact fun h => absurd h (by omega)), (by have := congrArg Int32.toInt (show FI283 121 69 = x263 from (gf_at f285 (c121 hS) (s121 hS) rfl ((gf_at f271 (c121 hS) (s121 hS) rfl (h264))))); exact fun h => absurd h (by omega)), (show rl_pm (FI283 121 90) (FI283 121 73) (FI283 166) (FI283 167) (FI283 168) from rl287)⟩
              · refine hw_aloadn (aX12_place 160 rfl) rfl ?_
                refine hw_get (v := .ref (base + 154)) (aX12_place 161 rfl) wf_RX12_120 (c121 hS) (s121 hS) (by decide) (congrArg (fun r => va_rf (h_rf base r)) (r121_72 hF)) ?_
                refine xw_iloadn (aX12_place 162 rfl) rfl ?_
                refine xw_iloadn (aX12_place 163 rfl) rfl ?_
                refine hv_iast (k := (x276).toNatClampNeg) (aX12_place 164 rfl) (c154 hS) (s154 hS) (h_in rfl (by omega) (by omega)) rfl (fun FI295 u296 => ?_)
                have rl297 : rl_e (FI295 149) (FI295 121 67) := by rw [show FI295 149 = FI283 149 from up_row u296 (by decide) rfl, show FI295 121 67 = FI283 121 67 from up_c u296 (by decide) rfl]; exact rl288
                have rl298 : rl_t (FI295 149) (FL 150) := by rw [show FI295 149 = FI283 149 from up_row u296 (by decide) rfl]; exact rl289
                have rl299 : rl_pm (FI295 121 90) (FI295 121 73) (FI295 166) (FI295 167) (FI295 168) := by rw [show FI295 166 = FI283 166 from up_row u296 (by decide) rfl, show FI295 167 = FI283 167 from up_row u296 (by decide) rfl, show FI295 168 = FI283 168 from up_row u296 (by decide) rfl, show FI295 121 90 = FI283 121 90 from up_c u296 (by decide) rfl, show FI295 121 73 = FI283 121 73 from up_c u296 (by decide) rfl]; exact rl287
                have hI300 : g_I FI295 := gU_F hI284 u296 rfl
                refine xw_vret (aX12_place 165 rfl) rfl ?_
                exact ⟨rfl, FI295, rfl, hI300, (gf_a (gf_tr ex_rf (gf_tr ex_rf (gf_tr ex_rf (gf_f gf_rf u33 (by decide)) f258 rfl rfl rfl) f271 rfl rfl rfl) f285 rfl rfl rfl) u296 (by decide)), (by have := congrArg Int32.toInt (show FI295 121 67 = x4 from (up_c u296 (by decide) ((gf_at f285 (c121 hS) (s121 hS) rfl ((gf_at f271 (c121 hS) (s121 hS) rfl ((gf_at f258 (c121 hS) (s121 hS) rfl ((up_k u33 (by decide) (h5))))))))))); have := congrArg Int32.toInt (show FI295 121 68 = x30 from (up_c u296 (by decide) ((gf_at f285 (c121 hS) (s121 hS) rfl ((gf_at f271 (c121 hS) (s121 hS) rfl ((gf_at f258 (c121 hS) (s121 hS) rfl (up_eq u33))))))))); have := (e31 : (x30).toInt = ((x1).toInt) + (1)); omega), (by have := congrArg Int32.toInt (show FI295 121 68 = x30 from (up_c u296 (by decide) ((gf_at f285 (c121 hS) (s121 hS) rfl ((gf_at f271 (c121 hS) (s121 hS) rfl ((gf_at f258 (c121 hS) (s121 hS) rfl (up_eq u33))))))))); have := (e31 : (x30).toInt = ((x1).toInt) + (1)); omega), (by have := congrArg Int32.toInt (show FI295 121 68 = x30 from (up_c u296 (by decide) ((gf_at f285 (c121 hS) (s121 hS) rfl ((gf_at f271 (c121 hS) (s121 hS) rfl ((gf_at f258 (c121 hS) (s121 hS) rfl (up_eq u33))))))))); have := (e31 : (x30).toInt = ((x1).toInt) + (1)); have := congrArg Int32.toInt (show FI295 121 73 = x290 from (up_c u296 (by decide) (h291))); omega), (by have := congrArg Int32.toInt (show FI295 121 73 = x290 from (up_c u296 (by decide) (h291))); omega), (by have := congrArg Int32.toInt (show FI295 121 71 = x12 from (up_c u296 (by decide) ((gf_at f285 (c121 hS) (s121 hS) rfl ((gf_at f271 (c121 hS) (s121 hS) rfl ((gf_at f258 (c121 hS) (s121 hS) rfl ((up_k u33 (by decide) (h13))))))))))); omega), (by have := congrArg Int32.toInt (show FI295 121 69 = x263 from (up_c u296 (by decide) ((gf_at f285 (c121 hS) (s121 hS) rfl ((gf_at f271 (c121 hS) (s121 hS) rfl (h264))))))); exact fun h => absurd h (by omega)), (by have := congrArg Int32.toInt (show FI295 121 69 = x263 from (up_c u296 (by decide) ((gf_at f285 (c121 hS) (s121 hS) rfl ((gf_at f271 (c121 hS) (s121 hS) rfl (h264))))))); exact fun h => absurd h (by omega)), (show rl_pm (FI295 121 90) (FI295 121 73) (FI295 166) (FI295 167) (FI295 168) from rl299)⟩
            · omega
      · refine hw_aloadn (aX12_place 79 rfl) rfl ?_
        have := congrArg Int32.toInt (show FI32 121 68 = x30 from up_eq u33)
        have := congrArg Int32.toInt (show FI32 121 71 = x12 from (up_k u33 (by decide) (h13)))
        refine hw_callV (Bs := []) (rest := []) (aX12_place 80 rfl) wc_RX12_553 (by decide) rfl wi_yX12_chosen wv_yX12_chosen (c121 hS) (s121 hS) rfl rfl rfl (Nat.le_of_ble_eq_true rfl) (Nat.le_of_ble_eq_true rfl) (n_chosen (d := d) hS hF hI37 (by have := congrArg Int32.toInt (show FI32 121 68 = x30 from up_eq u33); have := (e31 : (x30).toInt = ((x1).toInt) + (1)); have := congrArg Int32.toInt (show FI32 121 67 = x4 from (up_k u33 (by decide) (h5))); omega) (by have := congrArg Int32.toInt (show FI32 121 73 = x9 from (up_k u33 (by decide) (h10))); have := congrArg Int32.toInt (show FI32 121 68 = x30 from up_eq u33); have := (e31 : (x30).toInt = ((x1).toInt) + (1)); omega) (by have := congrArg Int32.toInt (show FI32 121 69 = x7 from (up_k u33 (by decide) (h8))); have := congrArg Int32.toInt (show FI32 121 71 = x12 from (up_k u33 (by decide) (h13))); have := congrArg Int32.toInt (show FI32 121 71 = x12 from (up_k u33 (by decide) (h13))); omega) (by have := congrArg Int32.toInt (show FI32 121 71 = x12 from (up_k u33 (by decide) (h13))); have := congrArg Int32.toInt (show FI32 121 71 = x12 from (up_k u33 (by decide) (h13))); omega) (show rl_e (FI32 149) (FI32 121 67) from rl34) (show rl_t (FI32 149) (FL 150) from rl35) (show rl_pm (FI32 121 90) (FI32 121 73) (FI32 166) (FI32 167) (FI32 168) from rl36)) (fun v301 sv302 p303 => ?_)
        have := congrArg Int32.toInt (show FI32 121 68 = x30 from up_eq u33)
        have := (e31 : (x30).toInt = ((x1).toInt) + (1))
        have := congrArg Int32.toInt (show FI32 121 73 = x9 from (up_k u33 (by decide) (h10)))
        have := congrArg Int32.toInt (show FI32 121 68 = x30 from up_eq u33)
        have := (e31 : (x30).toInt = ((x1).toInt) + (1))
        have := congrArg Int32.toInt (show FI32 121 73 = x9 from (up_k u33 (by decide) (h10)))
        obtain ⟨rfl, FI305, rfl, hI306, f307, t308, t309, t310, t311, t312, u313, u314, rl315⟩ := p303
        have rl316 : rl_e (FI305 149) (FI305 121 67) := by rw [show FI305 149 = FI32 149 from gf_row f307 (c149 hS) (s149 hS) rfl rfl, show FI305 121 67 = FI32 121 67 from gf_at f307 (c121 hS) (s121 hS) rfl rfl]; exact rl34
        have rl317 : rl_t (FI305 149) (FL 150) := by rw [show FI305 149 = FI32 149 from gf_row f307 (c149 hS) (s149 hS) rfl rfl]; exact rl35
        obtain ⟨x318, h319⟩ : ∃ y, FI305 121 68 = y := ⟨_, rfl⟩
        have h319l := congrArg Int32.toInt h319
        have b320 := gI_121_68 hI306; rw [h319] at b320
        have := congrArg Int32.toInt (show FI305 121 67 = x4 from (gf_at f307 (c121 hS) (s121 hS) rfl ((up_k u33 (by decide) (h5)))))
        obtain ⟨x321, h322⟩ : ∃ y, FI305 121 73 = y := ⟨_, rfl⟩
        have h322l := congrArg Int32.toInt h322
        have b323 := gI_121_73 hI306; rw [h322] at b323
        obtain ⟨x324, h325⟩ : ∃ y, FI305 121 90 = y := ⟨_, rfl⟩
        have h325l := congrArg Int32.toInt h325
        have b326 := gI_121_90 hI306; rw [h325] at b326
        obtain ⟨x327, h328⟩ : ∃ y, FI305 121 71 = y := ⟨_, rfl⟩
        have h328l := congrArg Int32.toInt h328
        have := i_rng x327
        show hw base _ _ _ _ _ [] _ _
        have hacc := u313; rw [show FI32 149 = FI 149 from (up_row u33 (by decide) (rfl)), show (FI32 121 68).toInt.toNat = (FI 121 68).toInt.toNat + 1 by omega] at hacc
        have ho71 := u314
        obtain ⟨x329, h330⟩ : ∃ y, FI305 121 69 = y := ⟨_, rfl⟩
        have h330l := congrArg Int32.toInt h330
        have := i_rng x329
        have := congrArg Int32.toInt (show FI305 121 69 = x329 from h330)
        refine hw_aloadn (aX12_place 81 rfl) rfl ?_
        refine hw_sp (v := (159 : Int32)) (aX12_place 82 rfl) (by decide) ?_
        refine hw_callV (Bs := [.int ((159 : Int32))]) (rest := []) (aX12_place 83 rfl) wc_RX12_496 (by decide) rfl wi_yX12_emit wv_yX12_emit (c121 hS) (s121 hS) rfl rfl rfl (Nat.le_of_ble_eq_true rfl) (Nat.le_of_ble_eq_true rfl) (n_emit (d := d + 6) hS hF hI306 ((159 : Int32)) (by have := congrArg Int32.toInt (show FI305 121 73 = x321 from h322); omega) (show rl_pm (FI305 121 90) (FI305 121 73) (FI305 166) (FI305 167) (FI305 168) from rl315)) (fun v331 sv332 p333 => ?_)
        have := congrArg Int32.toInt (show FI305 121 73 = x321 from h322)
        obtain ⟨rfl, FI335, rfl, hI336, f337, t338, rl339⟩ := p333
        have rl340 : rl_e (FI335 149) (FI335 121 67) := by rw [show FI335 149 = FI305 149 from gf_row f337 (c149 hS) (s149 hS) rfl rfl, show FI335 121 67 = FI305 121 67 from gf_at f337 (c121 hS) (s121 hS) rfl rfl]; exact rl316
        have rl341 : rl_t (FI335 149) (FL 150) := by rw [show FI335 149 = FI305 149 from gf_row f337 (c149 hS) (s149 hS) rfl rfl]; exact rl317
        obtain ⟨x342, h343⟩ : ∃ y, FI335 121 73 = y := ⟨_, rfl⟩
        have h343l := congrArg Int32.toInt h343
        have b344 := gI_121_73 hI336; rw [h343] at b344
        show hw base _ _ _ _ _ [] _ _
        refine xw_goto (tgt := 304) (aX12_place 84 rfl) (by decide) ?_
        refine xw_vret (aX12_place 165 rfl) rfl ?_
        exact ⟨rfl, FI335, rfl, hI336, (gf_tr ex_rf (gf_tr ex_rf (gf_f gf_rf u33 (by decide)) f307 rfl rfl rfl) f337 rfl rfl rfl), (by have := congrArg Int32.toInt (show FI335 121 67 = x4 from (gf_at f337 (c121 hS) (s121 hS) rfl ((gf_at f307 (c121 hS) (s121 hS) rfl ((up_k u33 (by decide) (h5))))))); have := congrArg Int32.toInt (show FI335 121 68 = x318 from (gf_at f337 (c121 hS) (s121 hS) rfl (h319))); omega), (by have := congrArg Int32.toInt (show FI335 121 68 = x318 from (gf_at f337 (c121 hS) (s121 hS) rfl (h319))); omega), (by have := congrArg Int32.toInt (show FI335 121 68 = x318 from (gf_at f337 (c121 hS) (s121 hS) rfl (h319))); have := congrArg Int32.toInt (show FI335 121 73 = x342 from h343); omega), (by have := congrArg Int32.toInt (show FI335 121 73 = x342 from h343); omega), (by have := congrArg Int32.toInt (show FI335 121 71 = x327 from (gf_at f337 (c121 hS) (s121 hS) rfl (h328))); omega), (by have := congrArg Int32.toInt (show FI335 121 68 = x318 from (gf_at f337 (c121 hS) (s121 hS) rfl (h319))); have := congrArg Int32.toInt (show FI335 121 69 = x329 from (gf_at f337 (c121 hS) (s121 hS) rfl (h330))); intro h69; rw [show FI335 121 68 = FI305 121 68 from ((gf_at f337 (c121 hS) (s121 hS) rfl (h319))).trans (h319).symm]; exact Or.inr (Or.inr (Or.inl ⟨hnb, by omega, hacc (by omega)⟩))), (by have := congrArg Int32.toInt (show FI335 121 69 = x329 from (gf_at f337 (c121 hS) (s121 hS) rfl (h330))); have := congrArg Int32.toInt (show FI335 121 71 = x327 from (gf_at f337 (c121 hS) (s121 hS) rfl (h328))); intro h69; have := ho71 (by omega); omega), (show rl_pm (FI335 121 90) (FI335 121 73) (FI335 166) (FI335 167) (FI335 168) from rl339)⟩
    · refine hw_aloadn (aX12_place 33 rfl) rfl ?_
      refine hw_get (v := .ref (base + 149)) (aX12_place 34 rfl) wf_RX12_105 (c121 hS) (s121 hS) (by decide) (congrArg (fun r => va_rf (h_rf base r)) (r121_62 hF)) ?_
      refine hw_aloadn (aX12_place 35 rfl) rfl ?_
      refine hw_get (v := .int (x30)) (aX12_place 36 rfl) wf_RX12_478 (c121 hS) (s121 hS) (by decide) (congrArg Value.int (show FI32 121 68 = x30 from up_eq u33)) ?_
      obtain ⟨x345, h346⟩ : ∃ y, FI32 149 (x30).toNatClampNeg = y := ⟨_, rfl⟩
      have h346l := congrArg Int32.toInt h346
      have := i_rng x345
      refine hw_iald (v := x345) (aX12_place 37 rfl) (c149 hS) (s149 hS) (h_in e31 (by omega) (by omega)) (show FI32 149 (x30).toNatClampNeg = x345 from h346) ?_
      refine hw_ic (v := (3 : Int32)) (aX12_place 38 rfl) (by decide) ?_
      refine hw_iceq (tgt := 80) (aX12_place 39 rfl) (by decide) rfl (by decide : (3 : Int32).toInt = 3) (fun cd347 => ?_) (fun cd347 => ?_)
      · refine hw_aloadn (aX12_place 44 rfl) rfl ?_
        refine hw_get (v := .ref (base + 150)) (aX12_place 45 rfl) wf_RX12_108 (c121 hS) (s121 hS) (by decide) (congrArg (fun r => va_rf (h_rf base r)) (r121_63 hF)) ?_
        refine hw_aloadn (aX12_place 46 rfl) rfl ?_
        refine hw_get (v := .int (x30)) (aX12_place 47 rfl) wf_RX12_478 (c121 hS) (s121 hS) (by decide) (congrArg Value.int (show FI32 121 68 = x30 from up_eq u33)) ?_
        obtain ⟨x348, h349⟩ : ∃ y, FL 150 (x30).toNatClampNeg = y := ⟨_, rfl⟩
        have h349l := congrArg Int64.toInt h349
        have := l_rng x348
        refine hw_lald (v := x348) (aX12_place 48 rfl) (c150 hS) (s150 hS) (h_in e31 (by omega) (by omega)) (show FL 150 (x30).toNatClampNeg = x348 from h349) ?_
        refine xw_ldc2 (aX12_place 49 rfl) wk_RX12_310 ?_
        refine hw_lcle (tgt := 101) (aX12_place 50 rfl) (aX12_place 51 rfl) (by decide) rfl (by decide : (31 : Int64).toInt = 31) (fun cd350 => ?_) (fun cd350 => ?_)
        · refine hw_aloadn (aX12_place 55 rfl) rfl ?_
          refine hw_get (v := .int (x7)) (aX12_place 56 rfl) wf_RX12_475 (c121 hS) (s121 hS) (by decide) (congrArg Value.int (show FI32 121 69 = x7 from (up_k u33 (by decide) (h8)))) ?_
          refine hw_ifeq (tgt := 109) (aX12_place 57 rfl) (by decide) rfl (fun cd351 => ?_) (fun cd351 => ?_)
          · have kq352 : kf (FI 149) ((FI 121 68).toInt.toNat + 1) = 3 := (by { have e : (FI 121 68).toInt.toNat + 1 = (x30).toNatClampNeg := by { rw [i_cl (x := x30) rfl]; try omega }; show (FI 149 ((FI 121 68).toInt.toNat + 1)).toInt = 3; rw [e, ← (show FI32 149 = FI 149 from (up_row u33 (by decide) (rfl))), show FI32 149 (x30).toNatClampNeg = x345 from h346]; try omega })
            have kq353 : wf (FL 150) ((FI 121 68).toInt.toNat + 1) ≤ 31 := (by { have e : (FI 121 68).toInt.toNat + 1 = (x30).toNatClampNeg := by { rw [i_cl (x := x30) rfl]; try omega }; show (FL 150 ((FI 121 68).toInt.toNat + 1)).toInt ≤ 31; rw [e, show FL 150 (x30).toNatClampNeg = x348 from h349]; try omega })
            have := congrArg Int32.toInt (show FI32 121 67 = x4 from (up_k u33 (by decide) (h5)))
            have hne353 := rl_e_ne rl34 (t := x30) (by omega)
            refine hw_aloadn (aX12_place 59 rfl) rfl ?_
            refine hw_bp (v := (80 : Int32)) (aX12_place 60 rfl) (by decide) ?_
            refine hw_aloadn (aX12_place 61 rfl) rfl ?_
            refine hw_get (v := .ref (base + 150)) (aX12_place 62 rfl) wf_RX12_108 (c121 hS) (s121 hS) (by decide) (congrArg (fun r => va_rf (h_rf base r)) (r121_63 hF)) ?_
            refine hw_aloadn (aX12_place 63 rfl) rfl ?_
            refine hw_get (v := .int (x30)) (aX12_place 64 rfl) wf_RX12_478 (c121 hS) (s121 hS) (by decide) (congrArg Value.int (show FI32 121 68 = x30 from up_eq u33)) ?_
            refine hw_lald (v := x348) (aX12_place 65 rfl) (c150 hS) (s150 hS) (h_in e31 (by omega) (by omega)) (show FL 150 (x30).toNatClampNeg = x348 from h349) ?_
            refine xw_l2i (aX12_place 66 rfl) ?_
            refine hw_ti (fun x354 => ?_)
            have b355 := i_rng x354
            refine xw_iadd (aX12_place 67 rfl) ?_
            refine hw_ti (fun x356 => ?_)
            have b357 := i_rng x356
            refine hw_callV (Bs := [.int (x356)]) (rest := []) (aX12_place 68 rfl) wc_RX12_496 (by decide) rfl wi_yX12_emit wv_yX12_emit (c121 hS) (s121 hS) rfl rfl rfl (Nat.le_of_ble_eq_true rfl) (Nat.le_of_ble_eq_true rfl) (n_emit (d := d + 6) hS hF hI37 (x356) (by have := congrArg Int32.toInt (show FI32 121 73 = x9 from (up_k u33 (by decide) (h10))); omega) (show rl_pm (FI32 121 90) (FI32 121 73) (FI32 166) (FI32 167) (FI32 168) from rl36)) (fun v358 sv359 p360 => ?_)
            have := congrArg Int32.toInt (show FI32 121 73 = x9 from (up_k u33 (by decide) (h10)))
            obtain ⟨rfl, FI362, rfl, hI363, f364, t365, rl366⟩ := p360
            have rl367 : rl_e (FI362 149) (FI362 121 67) := by rw [show FI362 149 = FI32 149 from gf_row f364 (c149 hS) (s149 hS) rfl rfl, show FI362 121 67 = FI32 121 67 from gf_at f364 (c121 hS) (s121 hS) rfl rfl]; exact rl34
            have rl368 : rl_t (FI362 149) (FL 150) := by rw [show FI362 149 = FI32 149 from gf_row f364 (c149 hS) (s149 hS) rfl rfl]; exact rl35
            obtain ⟨x369, h370⟩ : ∃ y, FI362 121 73 = y := ⟨_, rfl⟩
            have h370l := congrArg Int32.toInt h370
            have b371 := gI_121_73 hI363; rw [h370] at b371
            show hw base _ _ _ _ _ [] _ _
            refine hw_aloadn (aX12_place 69 rfl) rfl ?_
            refine hw_aloadn (aX12_place 70 rfl) rfl ?_
            refine hw_get (v := .int (x30)) (aX12_place 71 rfl) wf_RX12_478 (c121 hS) (s121 hS) (by decide) (congrArg Value.int (show FI362 121 68 = x30 from (gf_at f364 (c121 hS) (s121 hS) rfl (up_eq u33)))) ?_
            refine hw_ic (v := (1 : Int32)) (aX12_place 72 rfl) (by decide) ?_
            refine xw_iadd (aX12_place 73 rfl) ?_
            refine hw_tie (A := (((x1).toInt) + (1)) + (1)) (i_add e31 (by decide : (1 : Int32).toInt = 1) (by omega) (by omega)) (fun x372 e373 => ?_)
            refine hv_puti (aX12_place 74 rfl) wf_RX12_478 (c121 hS) (s121 hS) (by decide) rfl rfl (fun FI374 u375 => ?_)
            have rl376 : rl_e (FI374 149) (FI374 121 67) := by rw [show FI374 149 = FI362 149 from up_row u375 (by decide) rfl, show FI374 121 67 = FI362 121 67 from up_k u375 (by decide) rfl]; exact rl367
            have rl377 : rl_t (FI374 149) (FL 150) := by rw [show FI374 149 = FI362 149 from up_row u375 (by decide) rfl]; exact rl368
            have rl378 : rl_pm (FI374 121 90) (FI374 121 73) (FI374 166) (FI374 167) (FI374 168) := by rw [show FI374 166 = FI362 166 from up_row u375 (by decide) rfl, show FI374 167 = FI362 167 from up_row u375 (by decide) rfl, show FI374 168 = FI362 168 from up_row u375 (by decide) rfl, show FI374 121 90 = FI362 121 90 from up_k u375 (by decide) rfl, show FI374 121 73 = FI362 121 73 from up_k u375 (by decide) rfl]; exact rl366
            have hI379 : g_I FI374 := gU_121_68 hI363 u375 (by have := (e373 : (x372).toInt = (((x1).toInt) + (1)) + (1)); omega) (by have := (e373 : (x372).toInt = (((x1).toInt) + (1)) + (1)); omega)
            refine xw_goto (tgt := 304) (aX12_place 75 rfl) (by decide) ?_
            refine xw_vret (aX12_place 165 rfl) rfl ?_
            exact ⟨rfl, FI374, rfl, hI379, (gf_f (gf_tr ex_rf (gf_f gf_rf u33 (by decide)) f364 rfl rfl rfl) u375 (by decide)), (by have := congrArg Int32.toInt (show FI374 121 67 = x4 from (up_k u375 (by decide) ((gf_at f364 (c121 hS) (s121 hS) rfl ((up_k u33 (by decide) (h5))))))); have := congrArg Int32.toInt (show FI374 121 68 = x372 from up_eq u375); have := (e373 : (x372).toInt = (((x1).toInt) + (1)) + (1)); omega), (by have := congrArg Int32.toInt (show FI374 121 68 = x372 from up_eq u375); have := (e373 : (x372).toInt = (((x1).toInt) + (1)) + (1)); omega), (by have := congrArg Int32.toInt (show FI374 121 68 = x372 from up_eq u375); have := (e373 : (x372).toInt = (((x1).toInt) + (1)) + (1)); have := congrArg Int32.toInt (show FI374 121 73 = x369 from (up_k u375 (by decide) (h370))); omega), (by have := congrArg Int32.toInt (show FI374 121 73 = x369 from (up_k u375 (by decide) (h370))); omega), (by have := congrArg Int32.toInt (show FI374 121 71 = x12 from (up_k u375 (by decide) ((gf_at f364 (c121 hS) (s121 hS) rfl ((up_k u33 (by decide) (h13))))))); omega), (by have := congrArg Int32.toInt (show FI374 121 68 = x372 from up_eq u375); have := (e373 : (x372).toInt = (((x1).toInt) + (1)) + (1)); have := congrArg Int32.toInt (show FI374 121 69 = x7 from (up_k u375 (by decide) ((gf_at f364 (c121 hS) (s121 hS) rfl ((up_k u33 (by decide) (h8))))))); intro h69; exact Or.inr (Or.inl ⟨hnb, by omega, kq352, kq353, by omega⟩)), (by have := congrArg Int32.toInt (show FI374 121 71 = x12 from (up_k u375 (by decide) ((gf_at f364 (c121 hS) (s121 hS) rfl ((up_k u33 (by decide) (h13))))))); exact fun _ => by omega), (show rl_pm (FI374 121 90) (FI374 121 73) (FI374 166) (FI374 167) (FI374 168) from rl378)⟩
          · omega
        · refine hw_aloadn (aX12_place 52 rfl) rfl ?_
          refine hw_ic (v := (2 : Int32)) (aX12_place 53 rfl) (by decide) ?_
          refine hw_callV (Bs := [.int ((2 : Int32))]) (rest := []) (aX12_place 54 rfl) wc_RX12_487 (by decide) rfl wi_yX12_fail wv_yX12_fail (c121 hS) (s121 hS) rfl rfl rfl (Nat.le_of_ble_eq_true rfl) (Nat.le_of_ble_eq_true rfl) (n_fail (d := d + 6) hS hF hI37 ((2 : Int32)) (by have := ((by decide : (2 : Int32).toInt = 2) : ((2 : Int32)).toInt = 2); omega)) (fun v380 sv381 p382 => ?_)
          obtain ⟨rfl, FI384, rfl, hI385, f386, t387⟩ := p382
          have rl388 : rl_e (FI384 149) (FI384 121 67) := by rw [show FI384 149 = FI32 149 from gf_row f386 (c149 hS) (s149 hS) rfl rfl, show FI384 121 67 = FI32 121 67 from gf_at f386 (c121 hS) (s121 hS) rfl rfl]; exact rl34
          have rl389 : rl_t (FI384 149) (FL 150) := by rw [show FI384 149 = FI32 149 from gf_row f386 (c149 hS) (s149 hS) rfl rfl]; exact rl35
          have rl390 : rl_pm (FI384 121 90) (FI384 121 73) (FI384 166) (FI384 167) (FI384 168) := by rw [show FI384 166 = FI32 166 from gf_row f386 (c166 hS) (s166 hS) rfl rfl, show FI384 167 = FI32 167 from gf_row f386 (c167 hS) (s167 hS) rfl rfl, show FI384 168 = FI32 168 from gf_row f386 (c168 hS) (s168 hS) rfl rfl, show FI384 121 90 = FI32 121 90 from gf_at f386 (c121 hS) (s121 hS) rfl rfl, show FI384 121 73 = FI32 121 73 from gf_at f386 (c121 hS) (s121 hS) rfl rfl]; exact rl36
          obtain ⟨x391, h392⟩ : ∃ y, FI384 121 69 = y := ⟨_, rfl⟩
          have h392l := congrArg Int32.toInt h392
          have := i_rng x391
          show hw base _ _ _ _ _ [] _ _
          refine hw_aloadn (aX12_place 55 rfl) rfl ?_
          refine hw_get (v := .int (x391)) (aX12_place 56 rfl) wf_RX12_475 (c121 hS) (s121 hS) (by decide) (congrArg Value.int (show FI384 121 69 = x391 from h392)) ?_
          refine hw_ifeq (tgt := 109) (aX12_place 57 rfl) (by decide) rfl (fun cd393 => ?_) (fun cd393 => ?_)
          · omega
          · refine xw_vret (aX12_place 58 rfl) rfl ?_
            exact ⟨rfl, FI384, rfl, hI385, (gf_tr ex_rf (gf_f gf_rf u33 (by decide)) f386 rfl rfl rfl), (by have := congrArg Int32.toInt (show FI384 121 67 = x4 from (gf_at f386 (c121 hS) (s121 hS) rfl ((up_k u33 (by decide) (h5))))); have := congrArg Int32.toInt (show FI384 121 68 = x30 from (gf_at f386 (c121 hS) (s121 hS) rfl (up_eq u33))); have := (e31 : (x30).toInt = ((x1).toInt) + (1)); omega), (by have := congrArg Int32.toInt (show FI384 121 68 = x30 from (gf_at f386 (c121 hS) (s121 hS) rfl (up_eq u33))); have := (e31 : (x30).toInt = ((x1).toInt) + (1)); omega), (by have := congrArg Int32.toInt (show FI384 121 68 = x30 from (gf_at f386 (c121 hS) (s121 hS) rfl (up_eq u33))); have := (e31 : (x30).toInt = ((x1).toInt) + (1)); have := congrArg Int32.toInt (show FI384 121 73 = x9 from (gf_at f386 (c121 hS) (s121 hS) rfl ((up_k u33 (by decide) (h10))))); omega), (by have := congrArg Int32.toInt (show FI384 121 73 = x9 from (gf_at f386 (c121 hS) (s121 hS) rfl ((up_k u33 (by decide) (h10))))); omega), (by have := congrArg Int32.toInt (show FI384 121 71 = x12 from (gf_at f386 (c121 hS) (s121 hS) rfl ((up_k u33 (by decide) (h13))))); omega), (by have := congrArg Int32.toInt (show FI384 121 69 = x391 from h392); exact fun h => absurd h (by omega)), (by have := congrArg Int32.toInt (show FI384 121 69 = x391 from h392); exact fun h => absurd h (by omega)), (show rl_pm (FI384 121 90) (FI384 121 73) (FI384 166) (FI384 167) (FI384 168) from rl390)⟩
      · refine hw_aloadn (aX12_place 40 rfl) rfl ?_
        refine hw_ic (v := (1 : Int32)) (aX12_place 41 rfl) (by decide) ?_
        refine hw_callV (Bs := [.int ((1 : Int32))]) (rest := []) (aX12_place 42 rfl) wc_RX12_487 (by decide) rfl wi_yX12_fail wv_yX12_fail (c121 hS) (s121 hS) rfl rfl rfl (Nat.le_of_ble_eq_true rfl) (Nat.le_of_ble_eq_true rfl) (n_fail (d := d + 6) hS hF hI37 ((1 : Int32)) (by have := ((by decide : (1 : Int32).toInt = 1) : ((1 : Int32)).toInt = 1); omega)) (fun v394 sv395 p396 => ?_)
        obtain ⟨rfl, FI398, rfl, hI399, f400, t401⟩ := p396
        have rl402 : rl_e (FI398 149) (FI398 121 67) := by rw [show FI398 149 = FI32 149 from gf_row f400 (c149 hS) (s149 hS) rfl rfl, show FI398 121 67 = FI32 121 67 from gf_at f400 (c121 hS) (s121 hS) rfl rfl]; exact rl34
        have rl403 : rl_t (FI398 149) (FL 150) := by rw [show FI398 149 = FI32 149 from gf_row f400 (c149 hS) (s149 hS) rfl rfl]; exact rl35
        have rl404 : rl_pm (FI398 121 90) (FI398 121 73) (FI398 166) (FI398 167) (FI398 168) := by rw [show FI398 166 = FI32 166 from gf_row f400 (c166 hS) (s166 hS) rfl rfl, show FI398 167 = FI32 167 from gf_row f400 (c167 hS) (s167 hS) rfl rfl, show FI398 168 = FI32 168 from gf_row f400 (c168 hS) (s168 hS) rfl rfl, show FI398 121 90 = FI32 121 90 from gf_at f400 (c121 hS) (s121 hS) rfl rfl, show FI398 121 73 = FI32 121 73 from gf_at f400 (c121 hS) (s121 hS) rfl rfl]; exact rl36
        obtain ⟨x405, h406⟩ : ∃ y, FI398 121 69 = y := ⟨_, rfl⟩
        have h406l := congrArg Int32.toInt h406
        have := i_rng x405
        show hw base _ _ _ _ _ [] _ _
        refine xw_goto (tgt := 101) (aX12_place 43 rfl) (by decide) ?_
        refine hw_aloadn (aX12_place 55 rfl) rfl ?_
        refine hw_get (v := .int (x405)) (aX12_place 56 rfl) wf_RX12_475 (c121 hS) (s121 hS) (by decide) (congrArg Value.int (show FI398 121 69 = x405 from h406)) ?_
        refine hw_ifeq (tgt := 109) (aX12_place 57 rfl) (by decide) rfl (fun cd407 => ?_) (fun cd407 => ?_)
        · omega
        · refine xw_vret (aX12_place 58 rfl) rfl ?_
          exact ⟨rfl, FI398, rfl, hI399, (gf_tr ex_rf (gf_f gf_rf u33 (by decide)) f400 rfl rfl rfl), (by have := congrArg Int32.toInt (show FI398 121 67 = x4 from (gf_at f400 (c121 hS) (s121 hS) rfl ((up_k u33 (by decide) (h5))))); have := congrArg Int32.toInt (show FI398 121 68 = x30 from (gf_at f400 (c121 hS) (s121 hS) rfl (up_eq u33))); have := (e31 : (x30).toInt = ((x1).toInt) + (1)); omega), (by have := congrArg Int32.toInt (show FI398 121 68 = x30 from (gf_at f400 (c121 hS) (s121 hS) rfl (up_eq u33))); have := (e31 : (x30).toInt = ((x1).toInt) + (1)); omega), (by have := congrArg Int32.toInt (show FI398 121 68 = x30 from (gf_at f400 (c121 hS) (s121 hS) rfl (up_eq u33))); have := (e31 : (x30).toInt = ((x1).toInt) + (1)); have := congrArg Int32.toInt (show FI398 121 73 = x9 from (gf_at f400 (c121 hS) (s121 hS) rfl ((up_k u33 (by decide) (h10))))); omega), (by have := congrArg Int32.toInt (show FI398 121 73 = x9 from (gf_at f400 (c121 hS) (s121 hS) rfl ((up_k u33 (by decide) (h10))))); omega), (by have := congrArg Int32.toInt (show FI398 121 71 = x12 from (gf_at f400 (c121 hS) (s121 hS) rfl ((up_k u33 (by decide) (h13))))); omega), (by have := congrArg Int32.toInt (show FI398 121 69 = x405 from h406); exact fun h => absurd h (by omega)), (by have := congrArg Int32.toInt (show FI398 121 69 = x405 from h406); exact fun h => absurd h (by omega)), (show rl_pm (FI398 121 90) (FI398 121 73) (FI398 166) (FI398 167) (FI398 168) from rl404)⟩
  · replace t21 := t21 (by omega)
    have hbr := u23.mp (by omega); rw [show ((91 : Int32)).toInt = (91 : Int) from by decide] at hbr
    refine hw_aloadn (aX12_place 4 rfl) rfl ?_
    refine hw_callV (Bs := []) (rest := []) (aX12_place 5 rfl) wc_RX12_538 (by decide) rfl wi_yX12_opens wv_yX12_opens (c121 hS) (s121 hS) rfl rfl rfl (Nat.le_of_ble_eq_true rfl) (Nat.le_of_ble_eq_true rfl) (n_opens (d := d + 5) hS hF hI (by have := congrArg Int32.toInt (show FI 121 68 = x1 from h2); have := congrArg Int32.toInt (show FI 121 67 = x4 from h5); omega) (by have := congrArg Int32.toInt (show FI 121 71 = x12 from h13); have := congrArg Int32.toInt (show FI 121 71 = x12 from h13); omega)) (fun v408 sv409 p410 => ?_)
    have := congrArg Int32.toInt (show FI 121 68 = x1 from h2)
    have := congrArg Int32.toInt (show FI 121 71 = x12 from h13)
    have := congrArg Int32.toInt (show FI 121 71 = x12 from h13)
    have := congrArg Int32.toInt (show FI 121 69 = x7 from h8)
    obtain ⟨rfl, FI412, rfl, hI413, f414, t415, t416, t417⟩ := p410
    have rl418 : rl_e (FI412 149) (FI412 121 67) := by rw [show FI412 149 = FI 149 from gf_row f414 (c149 hS) (s149 hS) rfl rfl, show FI412 121 67 = FI 121 67 from gf_at f414 (c121 hS) (s121 hS) rfl rfl]; exact rel_tend
    have rl419 : rl_t (FI412 149) (FL 150) := by rw [show FI412 149 = FI 149 from gf_row f414 (c149 hS) (s149 hS) rfl rfl]; exact rel_tok
    have rl420 : rl_pm (FI412 121 90) (FI412 121 73) (FI412 166) (FI412 167) (FI412 168) := by rw [show FI412 166 = FI 166 from gf_row f414 (c166 hS) (s166 hS) rfl rfl, show FI412 167 = FI 167 from gf_row f414 (c167 hS) (s167 hS) rfl rfl, show FI412 168 = FI 168 from gf_row f414 (c168 hS) (s168 hS) rfl rfl, show FI412 121 90 = FI 121 90 from gf_at f414 (c121 hS) (s121 hS) rfl rfl, show FI412 121 73 = FI 121 73 from gf_at f414 (c121 hS) (s121 hS) rfl rfl]; exact rel_pm
    obtain ⟨x421, h422⟩ : ∃ y, FI412 121 68 = y := ⟨_, rfl⟩
    have h422l := congrArg Int32.toInt h422
    have b423 := gI_121_68 hI413; rw [h422] at b423
    obtain ⟨x424, h425⟩ : ∃ y, FI412 121 71 = y := ⟨_, rfl⟩
    have h425l := congrArg Int32.toInt h425
    have := i_rng x424
    obtain ⟨x426, h427⟩ : ∃ y, FI412 121 69 = y := ⟨_, rfl⟩
    have h427l := congrArg Int32.toInt h427
    have := i_rng x426
    show hw base _ _ _ _ _ [] _ _
    refine hw_aloadn (aX12_place 6 rfl) rfl ?_
    have := congrArg Int32.toInt (show FI412 121 68 = x421 from h422)
    have := congrArg Int32.toInt (show FI412 121 71 = x424 from h425)
    refine hw_callV (Bs := []) (rest := []) (aX12_place 7 rfl) wc_RX12_553 (by decide) rfl wi_yX12_chosen wv_yX12_chosen (c121 hS) (s121 hS) rfl rfl rfl (Nat.le_of_ble_eq_true rfl) (Nat.le_of_ble_eq_true rfl) (n_chosen (d := d) hS hF hI413 (by have := congrArg Int32.toInt (show FI412 121 68 = x421 from h422); have := congrArg Int32.toInt (show FI412 121 67 = x4 from (gf_at f414 (c121 hS) (s121 hS) rfl (h5))); omega) (by have := congrArg Int32.toInt (show FI412 121 73 = x9 from (gf_at f414 (c121 hS) (s121 hS) rfl (h10))); have := congrArg Int32.toInt (show FI412 121 68 = x421 from h422); omega) (by have := congrArg Int32.toInt (show FI412 121 69 = x426 from h427); have := congrArg Int32.toInt (show FI412 121 71 = x424 from h425); have := congrArg Int32.toInt (show FI412 121 71 = x424 from h425); omega) (by have := congrArg Int32.toInt (show FI412 121 71 = x424 from h425); have := congrArg Int32.toInt (show FI412 121 71 = x424 from h425); omega) (show rl_e (FI412 149) (FI412 121 67) from rl418) (show rl_t (FI412 149) (FL 150) from rl419) (show rl_pm (FI412 121 90) (FI412 121 73) (FI412 166) (FI412 167) (FI412 168) from rl420)) (fun v428 sv429 p430 => ?_)
    have := congrArg Int32.toInt (show FI412 121 68 = x421 from h422)
    have := congrArg Int32.toInt (show FI412 121 73 = x9 from (gf_at f414 (c121 hS) (s121 hS) rfl (h10)))
    have := congrArg Int32.toInt (show FI412 121 68 = x421 from h422)
    have := congrArg Int32.toInt (show FI412 121 73 = x9 from (gf_at f414 (c121 hS) (s121 hS) rfl (h10)))
    obtain ⟨rfl, FI432, rfl, hI433, f434, t435, t436, t437, t438, t439, u440, u441, rl442⟩ := p430
    have rl443 : rl_e (FI432 149) (FI432 121 67) := by rw [show FI432 149 = FI412 149 from gf_row f434 (c149 hS) (s149 hS) rfl rfl, show FI432 121 67 = FI412 121 67 from gf_at f434 (c121 hS) (s121 hS) rfl rfl]; exact rl418
    have rl444 : rl_t (FI432 149) (FL 150) := by rw [show FI432 149 = FI412 149 from gf_row f434 (c149 hS) (s149 hS) rfl rfl]; exact rl419
    obtain ⟨x445, h446⟩ : ∃ y, FI432 121 68 = y := ⟨_, rfl⟩
    have h446l := congrArg Int32.toInt h446
    have b447 := gI_121_68 hI433; rw [h446] at b447
    have := congrArg Int32.toInt (show FI432 121 67 = x4 from (gf_at f434 (c121 hS) (s121 hS) rfl ((gf_at f414 (c121 hS) (s121 hS) rfl (h5)))))
    obtain ⟨x448, h449⟩ : ∃ y, FI432 121 73 = y := ⟨_, rfl⟩
    have h449l := congrArg Int32.toInt h449
    have b450 := gI_121_73 hI433; rw [h449] at b450
    obtain ⟨x451, h452⟩ : ∃ y, FI432 121 90 = y := ⟨_, rfl⟩
    have h452l := congrArg Int32.toInt h452
    have b453 := gI_121_90 hI433; rw [h452] at b453
    obtain ⟨x454, h455⟩ : ∃ y, FI432 121 71 = y := ⟨_, rfl⟩
    have h455l := congrArg Int32.toInt h455
    have := i_rng x454
    show hw base _ _ _ _ _ [] _ _
    have hacc := u440; rw [show FI412 149 = FI 149 from (gf_row f414 (c149 hS) (s149 hS) rfl (rfl)), show (FI412 121 68).toInt.toNat = (FI 121 68).toInt.toNat + 1 by omega] at hacc
    have ho71 := u441
    obtain ⟨x456, h457⟩ : ∃ y, FI432 121 69 = y := ⟨_, rfl⟩
    have h457l := congrArg Int32.toInt h457
    have := i_rng x456
    have := congrArg Int32.toInt (show FI432 121 69 = x456 from h457)
    refine hw_aloadn (aX12_place 8 rfl) rfl ?_
    refine hw_bp (v := (93 : Int32)) (aX12_place 9 rfl) (by decide) ?_
    refine hw_callV (Bs := [.int ((93 : Int32))]) (rest := []) (aX12_place 10 rfl) wc_RX12_527 (by decide) rfl wi_yX12_need wv_yX12_need (c121 hS) (s121 hS) rfl rfl rfl (Nat.le_of_ble_eq_true rfl) (Nat.le_of_ble_eq_true rfl) (n_need (d := d + 5) hS hF hI433 ((93 : Int32)) (by have := congrArg Int32.toInt (show FI432 121 68 = x445 from h446); have := congrArg Int32.toInt (show FI432 121 67 = x4 from (gf_at f434 (c121 hS) (s121 hS) rfl ((gf_at f414 (c121 hS) (s121 hS) rfl (h5))))); omega) (show rl_e (FI432 149) (FI432 121 67) from rl443)) (fun v458 sv459 p460 => ?_)
    have := congrArg Int32.toInt (show FI432 121 68 = x445 from h446)
    have := congrArg Int32.toInt (show FI432 121 69 = x456 from h457)
    have := congrArg Int32.toInt (show FI432 121 68 = x445 from h446)
    have := congrArg Int32.toInt (show FI432 121 68 = x445 from h446)
    obtain ⟨rfl, FI462, rfl, hI463, f464, t465, t466, t467⟩ := p460
    have rl468 : rl_e (FI462 149) (FI462 121 67) := by rw [show FI462 149 = FI432 149 from gf_row f464 (c149 hS) (s149 hS) rfl rfl, show FI462 121 67 = FI432 121 67 from gf_at f464 (c121 hS) (s121 hS) rfl rfl]; exact rl443
    have rl469 : rl_t (FI462 149) (FL 150) := by rw [show FI462 149 = FI432 149 from gf_row f464 (c149 hS) (s149 hS) rfl rfl]; exact rl444
    have rl470 : rl_pm (FI462 121 90) (FI462 121 73) (FI462 166) (FI462 167) (FI462 168) := by rw [show FI462 166 = FI432 166 from gf_row f464 (c166 hS) (s166 hS) rfl rfl, show FI462 167 = FI432 167 from gf_row f464 (c167 hS) (s167 hS) rfl rfl, show FI462 168 = FI432 168 from gf_row f464 (c168 hS) (s168 hS) rfl rfl, show FI462 121 90 = FI432 121 90 from gf_at f464 (c121 hS) (s121 hS) rfl rfl, show FI462 121 73 = FI432 121 73 from gf_at f464 (c121 hS) (s121 hS) rfl rfl]; exact rl442
    obtain ⟨x471, h472⟩ : ∃ y, FI462 121 68 = y := ⟨_, rfl⟩
    have h472l := congrArg Int32.toInt h472
    have b473 := gI_121_68 hI463; rw [h472] at b473
    have := congrArg Int32.toInt (show FI462 121 67 = x4 from (gf_at f464 (c121 hS) (s121 hS) rfl ((gf_at f434 (c121 hS) (s121 hS) rfl ((gf_at f414 (c121 hS) (s121 hS) rfl (h5)))))))
    obtain ⟨x474, h475⟩ : ∃ y, FI462 121 69 = y := ⟨_, rfl⟩
    have h475l := congrArg Int32.toInt h475
    have := i_rng x474
    show hw base _ _ _ _ _ [] _ _
    refine hw_aloadn (aX12_place 11 rfl) rfl ?_
    refine hw_aloadn (aX12_place 12 rfl) rfl ?_
    refine hw_get (v := .int (x454)) (aX12_place 13 rfl) wf_RX12_490 (c121 hS) (s121 hS) (by decide) (congrArg Value.int (show FI462 121 71 = x454 from (gf_at f464 (c121 hS) (s121 hS) rfl (h455)))) ?_
    refine hw_ic (v := (1 : Int32)) (aX12_place 14 rfl) (by decide) ?_
    refine xw_isub (aX12_place 15 rfl) ?_
    refine hw_tie (A := ((x454).toInt) - (1)) (i_sub rfl (by decide : (1 : Int32).toInt = 1) (by omega) (by omega)) (fun x476 e477 => ?_)
    refine hv_puti (aX12_place 16 rfl) wf_RX12_490 (c121 hS) (s121 hS) (by decide) rfl rfl (fun FI478 u479 => ?_)
    have rl480 : rl_e (FI478 149) (FI478 121 67) := by rw [show FI478 149 = FI462 149 from up_row u479 (by decide) rfl, show FI478 121 67 = FI462 121 67 from up_k u479 (by decide) rfl]; exact rl468
    have rl481 : rl_t (FI478 149) (FL 150) := by rw [show FI478 149 = FI462 149 from up_row u479 (by decide) rfl]; exact rl469
    have rl482 : rl_pm (FI478 121 90) (FI478 121 73) (FI478 166) (FI478 167) (FI478 168) := by rw [show FI478 166 = FI462 166 from up_row u479 (by decide) rfl, show FI478 167 = FI462 167 from up_row u479 (by decide) rfl, show FI478 168 = FI462 168 from up_row u479 (by decide) rfl, show FI478 121 90 = FI462 121 90 from up_k u479 (by decide) rfl, show FI478 121 73 = FI462 121 73 from up_k u479 (by decide) rfl]; exact rl470
    have hI483 : g_I FI478 := gU_F hI463 u479 rfl
    refine xw_vret (aX12_place 17 rfl) rfl ?_
    exact ⟨rfl, FI478, rfl, hI483, (gf_f (gf_tr ex_rf (gf_tr ex_rf (gf_tr ex_rf gf_rf f414 rfl rfl rfl) f434 rfl rfl rfl) f464 rfl rfl rfl) u479 (by decide)), (by have := congrArg Int32.toInt (show FI478 121 67 = x4 from (up_k u479 (by decide) ((gf_at f464 (c121 hS) (s121 hS) rfl ((gf_at f434 (c121 hS) (s121 hS) rfl ((gf_at f414 (c121 hS) (s121 hS) rfl (h5))))))))); have := congrArg Int32.toInt (show FI478 121 68 = x471 from (up_k u479 (by decide) (h472))); omega), (by have := congrArg Int32.toInt (show FI478 121 68 = x471 from (up_k u479 (by decide) (h472))); omega), (by have := congrArg Int32.toInt (show FI478 121 68 = x471 from (up_k u479 (by decide) (h472))); have := congrArg Int32.toInt (show FI478 121 73 = x448 from (up_k u479 (by decide) ((gf_at f464 (c121 hS) (s121 hS) rfl (h449))))); omega), (by have := congrArg Int32.toInt (show FI478 121 73 = x448 from (up_k u479 (by decide) ((gf_at f464 (c121 hS) (s121 hS) rfl (h449))))); omega), (by have := congrArg Int32.toInt (show FI478 121 71 = x476 from up_eq u479); have := (e477 : (x476).toInt = ((x454).toInt) - (1)); omega), (by have := congrArg Int32.toInt (show FI478 121 68 = x471 from (up_k u479 (by decide) (h472))); have := congrArg Int32.toInt (show FI478 121 69 = x474 from (up_k u479 (by decide) (h475))); intro h69; have := congrArg Int32.toInt (show FI432 121 68 = x445 from h446); exact Or.inl ⟨hbr, _, hacc (by omega), by omega⟩), (by have := congrArg Int32.toInt (show FI478 121 69 = x474 from (up_k u479 (by decide) (h475))); have := congrArg Int32.toInt (show FI478 121 71 = x476 from up_eq u479); have := (e477 : (x476).toInt = ((x454).toInt) - (1)); intro h69; have := ho71 (by omega); omega), (show rl_pm (FI478 121 90) (FI478 121 73) (FI478 166) (FI478 167) (FI478 168) from rl482)⟩
