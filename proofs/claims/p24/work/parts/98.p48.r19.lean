def nX12_place : Nat := 0xb14f1d1c7800b42a0a00a3a00f11ed01b42aacffa7de01b56004de01b42a2a3e60041df001b6882fde01b42a6c00b42a2ae701b606102a0900a040101d0f00a7e701b6062a0b009e94f701142fde01b42a6c00b42a4600a0062ede01b42a6900b42a53009adb01b42a3e03f001b6032a3ded01b42af001b69e00112ae701b6042a08009f062ede01b42a6900b42a9000a0051b9500a7f001b69f00112a2902b62a1100a0041ba800a7de01b56004de01b42a2af001b660882fde01b42a6c00b42a50102ab1040099db01b42ae701b6052a08009e943601142fde01b42a6c00b42a1800a7e701b6042a0b009f062ede01b42a6900b42a53009a1bde01b56004de01b42a2a3c882fde01b42a6c00b42ab1ea01b56404ea01b42a2a0f02b65d102a2902b62a1a02b62a1c0099e401b65b102a
theorem bX12_place : cX12_place.data.toList.map UInt8.toNat = x_un nX12_place 305 := by decide +kernel
def iX12_place : List (Nat × Jvm.ClassFile.Instr × Nat) := [(0, .aload_n 0, 1), (1, .bipush 91, 2), (3, .invokevirtual 484, 3), (6, .ifCond .eq 28, 3), (9, .aload_n 0, 1), (10, .invokevirtual 538, 3), (13, .aload_n 0, 1), (14, .invokevirtual 553, 3), (17, .aload_n 0, 1), (18, .bipush 93, 2), (20, .invokevirtual 527, 3), (23, .aload_n 0, 1), (24, .aload_n 0, 1), (25, .getfield 490, 3), (28, .iconst 1, 1), (29, .isub, 1), (30, .putfield 490, 3), (33, .return_, 1), (34, .aload_n 0, 1), (35, .getfield 108, 3), (38, .aload_n 0, 1), (39, .getfield 478, 3), (42, .laload, 1), (43, .l2i, 1), (44, .istore_n 1, 1), (45, .aload_n 0, 1), (46, .aload_n 0, 1), (47, .getfield 478, 3), (50, .iconst 1, 1), (51, .iadd, 1), (52, .putfield 478, 3), (55, .iload_n 1, 1), (56, .ifCond .ne 83, 3), (59, .aload_n 0, 1), (60, .getfield 105, 3), (63, .aload_n 0, 1), (64, .getfield 478, 3), (67, .iaload, 1), (68, .iconst 3, 1), (69, .if_icmp .eq 11, 3), (72, .aload_n 0, 1), (73, .iconst 1, 1), (74, .invokevirtual 487, 3), (77, .goto 24, 3), (80, .aload_n 0, 1), (81, .getfield 108, 3), (84, .aload_n 0, 1), (85, .getfield 478, 3), (88, .laload, 1), (89, .ldc2_w 310, 3), (92, .lcmp, 1), (93, .ifCond .le 8, 3), (96, .aload_n 0, 1), (97, .iconst 2, 1), (98, .invokevirtual 487, 3), (101, .aload_n 0, 1), (102, .getfield 475, 3), (105, .ifCond .eq 4, 3), (108, .return_, 1), (109, .aload_n 0, 1), (110, .bipush 80, 2), (112, .aload_n 0, 1), (113, .getfield 108, 3), (116, .aload_n 0, 1), (117, .getfield 478, 3), (120, .laload, 1), (121, .l2i, 1), (122, .iadd, 1), (123, .invokevirtual 496, 3), (126, .aload_n 0, 1), (127, .aload_n 0, 1), (128, .getfield 478, 3), (131, .iconst 1, 1), (132, .iadd, 1), (133, .putfield 478, 3), (136, .goto 168, 3), (139, .iload_n 1, 1), (140, .iconst 1, 1), (141, .if_icmp .ne 17, 3), (144, .aload_n 0, 1), (145, .invokevirtual 553, 3), (148, .aload_n 0, 1), (149, .sipush 159, 3), (152, .invokevirtual 496, 3), (155, .goto 149, 3), (158, .iload_n 1, 1), (159, .iconst 2, 1), (160, .if_icmp .ne 144, 3), (163, .aload_n 0, 1), (164, .getfield 105, 3), (167, .aload_n 0, 1), (168, .getfield 478, 3), (171, .iaload, 1), (172, .iconst 3, 1), (173, .if_icmp .eq 8, 3), (176, .aload_n 0, 1), (177, .iconst 1, 1), (178, .invokevirtual 487, 3), (181, .aload_n 0, 1), (182, .sipush 158, 3), (185, .invokevirtual 496, 3), (188, .aload_n 0, 1), (189, .getfield 493, 3), (192, .istore_n 2, 1), (193, .aload_n 0, 1), (194, .iconst 0, 1), (195, .invokevirtual 496, 3), (198, .iconst 0, 1), (199, .istore_n 3, 1), (200, .aload_n 0, 1), (201, .getfield 475, 3), (204, .ifCond .ne 83, 3), (207, .aload_n 0, 1), (208, .getfield 105, 3), (211, .aload_n 0, 1), (212, .getfield 478, 3), (215, .iaload, 1), (216, .iconst 3, 1), (217, .if_icmp .ne 70, 3), (220, .aload_n 0, 1), (221, .getfield 108, 3), (224, .aload_n 0, 1), (225, .getfield 478, 3), (228, .laload, 1), (229, .ldc2_w 503, 3), (232, .lcmp, 1), (233, .ifCond .le 11, 3), (236, .aload_n 0, 1), (237, .iconst 3, 1), (238, .invokevirtual 487, 3), (241, .goto 15, 3), (244, .iload_n 3, 1), (245, .bipush 64, 2), (247, .if_icmp .ne 9, 3), (250, .aload_n 0, 1), (251, .bipush 6, 2), (253, .invokevirtual 487, 3), (256, .aload_n 0, 1), (257, .aload_n 0, 1), (258, .getfield 108, 3), (261, .aload_n 0, 1), (262, .getfield 478, 3), (265, .laload, 1), (266, .l2i, 1), (267, .invokevirtual 496, 3), (270, .iload_n 3, 1), (271, .iconst 1, 1), (272, .iadd, 1), (273, .istore_n 3, 1), (274, .aload_n 0, 1), (275, .aload_n 0, 1), (276, .getfield 478, 3), (279, .iconst 1, 1), (280, .iadd, 1), (281, .putfield 478, 3), (284, .goto (-84), 3), (287, .aload_n 0, 1), (288, .getfield 493, 3), (291, .sipush 4000, 3), (294, .if_icmp .gt 10, 3), (297, .aload_n 0, 1), (298, .getfield 120, 3), (301, .iload_n 2, 1), (302, .iload_n 3, 1), (303, .iastore, 1), (304, .return_, 1)]
theorem dX12_place : x_il nX12_place 305 iX12_place = true := by decide +kernel
theorem aX12_place (k : Nat) {pc : Nat} {i : Jvm.ClassFile.Instr} {len : Nat} (hk : iX12_place[k]? = some (pc, i, len)) : x_at xMM 230 pc i len yX12_place 4 none := ⟨cX12_place, rfl, x_il_ok bX12_place dX12_place k hk⟩
set_option maxHeartbeats 4000000 in
set_option maxRecDepth 100000 in
theorem n_place {zk : xK} {base d n sl : Nat} {SH : Nat → Nat × Nat} {FI : Nat → Nat → Int32} {FL : Nat → Nat → Int64} {FR : Nat → Nat → Option Nat} (hS : h_S n SH) (hF : h_FR FR) (hI : g_I FI) (g0 : (FI 121 68).toInt < (FI 121 67).toInt - 1) (g1 : (FI 121 69).toInt = 0) (g2 : (FI 121 73).toInt ≤ 20 * (FI 121 68).toInt + 150) (g3 : 0 ≤ (FI 121 71).toInt ∧ (FI 121 71).toInt ≤ 12) (gg0 : ((kf (FI 149) (FI 121 68).toInt.toNat = 5 ∧ wf (FL 150) (FI 121 68).toInt.toNat = 91) ∨ (kf (FI 149) (FI 121 68).toInt.toNat = 2 ∧ (wf (FL 150) (FI 121 68).toInt.toNat = 0 ∨ wf (FL 150) (FI 121 68).toInt.toNat = 1 ∨ wf (FL 150) (FI 121 68).toInt.toNat = 2 ∨ wf (FL 150) (FI 121 68).toInt.toNat = 3)))) (rel_tend : rl_e (FI 149) (FI 121 67)) (rel_tok : rl_t (FI 149) (FL 150)) (rel_wh : rl_w (FI 121 67) (FI 149) (FL 150) (FI 151)) : hw zk base (d + 7) none 230 0 [(0, .ref (base + 121))] [] (n, sl, SH, FI, FL, FR) (h_V (fun s => ∃ FI', s = (n, sl, SH, FI', FL, FR) ∧ g_I FI' ∧ g_fr n SH [(121, 68), (121, 69), (121, 70), (121, 71), (121, 73), (121, 90), (121, 91)] [154, 164, 165, 166, 167, 168] [] FI FI' ∧ ((FI' 121 68).toInt ≤ (FI' 121 67).toInt - 1) ∧ ((FI 121 68).toInt ≤ (FI' 121 68).toInt) ∧ ((FI' 121 73).toInt ≤ (FI 121 73).toInt + 20 * ((FI' 121 68).toInt - (FI 121 68).toInt)) ∧ ((FI 121 73).toInt ≤ (FI' 121 73).toInt) ∧ (-800 ≤ (FI' 121 71).toInt ∧ (FI' 121 71).toInt ≤ 100) ∧ ((FI' 121 69).toInt = 0 → gr_pl (kf (FI 149)) (wf (FL 150)) (FI 121 68).toInt.toNat (FI' 121 68).toInt.toNat) ∧ ((FI' 121 69).toInt = 0 → (FI' 121 71).toInt = (FI 121 71).toInt) ∧ ((FI' 121 69).toInt = 0 → (FI' 121 73).toInt + 2 - 4 * wp (FI 151) (FI' 121 68) ≤ (FI 121 73).toInt - 4 * wp (FI 151) (FI 121 68)))) := by
  obtain ⟨x1, h2⟩ : ∃ y, FI 121 68 = y := ⟨_, rfl⟩
  have h2l := congrArg Int32.toInt h2
  have b3 := gI_121_68 hI; rw [h2] at b3
  obtain ⟨x4, h5⟩ : ∃ y, FI 121 67 = y := ⟨_, rfl⟩
  have h5l := congrArg Int32.toInt h5
  have b6 := gI_121_67 hI; rw [h5] at b6
  obtain ⟨x7, h8⟩ : ∃ y, FI 121 69 = y := ⟨_, rfl⟩
  have h8l := congrArg Int32.toInt h8
  have := i_rng x7
  obtain ⟨x9, h10⟩ : ∃ y, FI 121 73 = y := ⟨_, rfl⟩
  have h10l := congrArg Int32.toInt h10
  have b11 := gI_121_73 hI; rw [h10] at b11
  obtain ⟨x12, h13⟩ : ∃ y, FI 121 71 = y := ⟨_, rfl⟩
  have h13l := congrArg Int32.toInt h13
  have := i_rng x12
  have e14 : 0 ≤ (x12).toInt ∧ (x12).toInt ≤ 12 := by omega
  have e15 : 0 ≤ (x7).toInt ∧ (x7).toInt ≤ 0 := by omega
  refine hw_aloadn (aX12_place 0 rfl) rfl ?_
  refine hw_bp (v := (91 : Int32)) (aX12_place 1 rfl) (by decide) ?_
  refine hw_callV (Bs := [.int ((91 : Int32))]) (rest := []) (aX12_place 2 rfl) wc_RX12_484 (by decide) rfl wi_yX12_isSign wv_yX12_isSign (c121 hS) (s121 hS) rfl rfl rfl (Nat.le_of_ble_eq_true rfl) (Nat.le_of_ble_eq_true rfl) (n_isSign (d := d + 6) hS hF hI ((91 : Int32)) (by have := congrArg Int32.toInt (show FI 121 68 = x1 from h2); have := congrArg Int32.toInt (show FI 121 67 = x4 from h5); omega) (show rl_e (FI 149) (FI 121 67) from rel_tend)) (fun v16 sv17 p18 => ?_)
  have := congrArg Int32.toInt (show FI 121 68 = x1 from h2)
  have := congrArg Int32.toInt (show FI 121 67 = x4 from h5)
  obtain ⟨r19, rfl, rfl, t21, t22, u23⟩ := p18
  show hw zk base _ _ _ _ _ [.int (r19)] _ _
  refine hw_ifeq (tgt := 34) (aX12_place 3 rfl) (by decide) rfl (fun cd24 => ?_) (fun cd24 => ?_)
  · clear t21
    refine hw_aloadn (aX12_place 18 rfl) rfl ?_
    refine hw_get (v := .ref (base + 150)) (aX12_place 19 rfl) wf_RX12_108 (c121 hS) (s121 hS) (by decide) (congrArg (fun r => va_rf (h_rf base r)) (r121_63 hF)) ?_
    refine hw_aloadn (aX12_place 20 rfl) rfl ?_
    refine hw_get (v := .int (x1)) (aX12_place 21 rfl) wf_RX12_478 (c121 hS) (s121 hS) (by decide) (congrArg Value.int (show FI 121 68 = x1 from h2)) ?_
    obtain ⟨x25, h26⟩ : ∃ y, FL 150 (x1).toNatClampNeg = y := ⟨_, rfl⟩
    have h26l := congrArg Int64.toInt h26
    have := l_rng x25
    refine hw_lald (v := x25) (aX12_place 22 rfl) (c150 hS) (s150 hS) (h_in rfl (by omega) (by omega)) (show FL 150 (x1).toNatClampNeg = x25 from h26) ?_
    have hW0 : wf (FL 150) (FI 121 68).toInt.toNat = (x25).toInt := (by { have e : (FI 121 68).toInt.toNat = (x1).toNatClampNeg := by { rw [i_cl (x := x1) rfl]; try omega }; show (FL 150 ((FI 121 68).toInt.toNat)).toInt = (x25).toInt; rw [e, show FL 150 (x1).toNatClampNeg = x25 from h26]; try omega })
    have hnb : ¬ gr_br (kf (FI 149)) (wf (FL 150)) (FI 121 68).toInt.toNat := fun h => absurd (u23.mpr (by rw [show ((91 : Int32)).toInt = (91 : Int) from by decide]; exact h)) (by omega)
    have e27 : 0 ≤ (x25).toInt ∧ (x25).toInt ≤ 3 := by rcases gg0 with h | h; { exact absurd h hnb }; { obtain ⟨h9, h⟩ := h; rw [hW0] at h; omega }
    refine xw_l2i (aX12_place 23 rfl) ?_
    refine hw_tie (A := (x25).toInt) (l_2i rfl (by omega) (by omega)) (fun x28 e29 => ?_)
    refine xw_istoren (L2 := [(1, .int (x28)), (0, .ref (base + 121))]) (aX12_place 24 rfl) (by decide) rfl ?_
    refine hw_aloadn (aX12_place 25 rfl) rfl ?_
    refine hw_aloadn (aX12_place 26 rfl) rfl ?_
    refine hw_get (v := .int (x1)) (aX12_place 27 rfl) wf_RX12_478 (c121 hS) (s121 hS) (by decide) (congrArg Value.int (show FI 121 68 = x1 from h2)) ?_
    refine hw_ic (v := (1 : Int32)) (aX12_place 28 rfl) (by decide) ?_
    refine xw_iadd (aX12_place 29 rfl) ?_
    refine hw_tie (A := ((x1).toInt) + (1)) (i_add rfl (by decide : (1 : Int32).toInt = 1) (by omega) (by omega)) (fun x30 e31 => ?_)
    refine hv_puti (aX12_place 30 rfl) wf_RX12_478 (c121 hS) (s121 hS) (by decide) rfl rfl (fun FI32 u33 => ?_)
    have rl34 : rl_e (FI32 149) (FI32 121 67) := by rw [show FI32 149 = FI 149 from up_row u33 (by decide) rfl, show FI32 121 67 = FI 121 67 from up_k u33 (by decide) rfl]; exact rel_tend
    have rl35 : rl_t (FI32 149) (FL 150) := by rw [show FI32 149 = FI 149 from up_row u33 (by decide) rfl]; exact rel_tok
    have rl36 : rl_w (FI32 121 67) (FI32 149) (FL 150) (FI32 151) := by rw [show FI32 149 = FI 149 from up_row u33 (by decide) rfl, show FI32 151 = FI 151 from up_row u33 (by decide) rfl, show FI32 121 67 = FI 121 67 from up_k u33 (by decide) rfl]; exact rel_wh
    have hI37 : g_I FI32 := gU_121_68 hI u33 (by have := (e31 : (x30).toInt = ((x1).toInt) + (1)); omega) (by have := (e31 : (x30).toInt = ((x1).toInt) + (1)); omega)
    refine xw_iloadn (aX12_place 31 rfl) rfl ?_
    refine hw_ifne (tgt := 139) (aX12_place 32 rfl) (by decide) e29 (fun cd38 => ?_) (fun cd38 => ?_)
    · refine xw_iloadn (aX12_place 76 rfl) rfl ?_
      refine hw_ic (v := (1 : Int32)) (aX12_place 77 rfl) (by decide) ?_
      refine hw_icne (tgt := 158) (aX12_place 78 rfl) (by decide) e29 (by decide : (1 : Int32).toInt = 1) (fun cd39 => ?_) (fun cd39 => ?_)
      · refine xw_iloadn (aX12_place 85 rfl) rfl ?_
        refine hw_ic (v := (2 : Int32)) (aX12_place 86 rfl) (by decide) ?_
        refine hw_icne (tgt := 304) (aX12_place 87 rfl) (by decide) e29 (by decide : (2 : Int32).toInt = 2) (fun cd40 => ?_) (fun cd40 => ?_)
        · refine xw_vret (aX12_place 165 rfl) rfl ?_
          exact ⟨rfl, FI32, rfl, hI37, (gf_f gf_rf u33 (by decide)), (by have := congrArg Int32.toInt (show FI32 121 67 = x4 from (up_k u33 (by decide) (h5))); have := congrArg Int32.toInt (show FI32 121 68 = x30 from up_eq u33); have := (e31 : (x30).toInt = ((x1).toInt) + (1)); omega), (by have := congrArg Int32.toInt (show FI32 121 68 = x30 from up_eq u33); have := (e31 : (x30).toInt = ((x1).toInt) + (1)); omega), (by have := congrArg Int32.toInt (show FI32 121 68 = x30 from up_eq u33); have := (e31 : (x30).toInt = ((x1).toInt) + (1)); have := congrArg Int32.toInt (show FI32 121 73 = x9 from (up_k u33 (by decide) (h10))); omega), (by have := congrArg Int32.toInt (show FI32 121 73 = x9 from (up_k u33 (by decide) (h10))); omega), (by have := congrArg Int32.toInt (show FI32 121 71 = x12 from (up_k u33 (by decide) (h13))); omega), (by have := congrArg Int32.toInt (show FI32 121 68 = x30 from up_eq u33); have := (e31 : (x30).toInt = ((x1).toInt) + (1)); have := congrArg Int32.toInt (show FI32 121 69 = x7 from (up_k u33 (by decide) (h8))); intro h69; exact Or.inr (Or.inr (Or.inr (Or.inr ⟨hnb, by omega, by omega⟩)))), (by have := congrArg Int32.toInt (show FI32 121 71 = x12 from (up_k u33 (by decide) (h13))); exact fun _ => by omega), (by have := congrArg Int32.toInt (show FI32 121 68 = x30 from up_eq u33); have := (e31 : (x30).toInt = ((x1).toInt) + (1)); have := congrArg Int32.toInt (show FI32 121 69 = x7 from (up_k u33 (by decide) (h8))); have := congrArg Int32.toInt (show FI32 121 73 = x9 from (up_k u33 (by decide) (h10))); intro h69; have := wp_n rel_wh (t := FI 121 68) (u := FI32 121 68) (by omega) (by omega) (by omega); omega)⟩
        · refine hw_aloadn (aX12_place 88 rfl) rfl ?_
          refine hw_get (v := .ref (base + 149)) (aX12_place 89 rfl) wf_RX12_105 (c121 hS) (s121 hS) (by decide) (congrArg (fun r => va_rf (h_rf base r)) (r121_62 hF)) ?_
          refine hw_aloadn (aX12_place 90 rfl) rfl ?_
          refine hw_get (v := .int (x30)) (aX12_place 91 rfl) wf_RX12_478 (c121 hS) (s121 hS) (by decide) (congrArg Value.int (show FI32 121 68 = x30 from up_eq u33)) ?_
          obtain ⟨x41, h42⟩ : ∃ y, FI32 149 (x30).toNatClampNeg = y := ⟨_, rfl⟩
          have h42l := congrArg Int32.toInt h42
          have := i_rng x41
          refine hw_iald (v := x41) (aX12_place 92 rfl) (c149 hS) (s149 hS) (h_in e31 (by omega) (by omega)) (show FI32 149 (x30).toNatClampNeg = x41 from h42) ?_
          refine hw_ic (v := (3 : Int32)) (aX12_place 93 rfl) (by decide) ?_
          refine hw_iceq (tgt := 181) (aX12_place 94 rfl) (by decide) rfl (by decide : (3 : Int32).toInt = 3) (fun cd43 => ?_) (fun cd43 => ?_)
          · refine hw_aloadn (aX12_place 98 rfl) rfl ?_
            refine hw_sp (v := (158 : Int32)) (aX12_place 99 rfl) (by decide) ?_
            refine hw_callV (Bs := [.int ((158 : Int32))]) (rest := []) (aX12_place 100 rfl) wc_RX12_496 (by decide) rfl wi_yX12_emit wv_yX12_emit (c121 hS) (s121 hS) rfl rfl rfl (Nat.le_of_ble_eq_true rfl) (Nat.le_of_ble_eq_true rfl) (n_emit0 (d := d + 6) hS hF hI37 ((158 : Int32)) (by have := congrArg Int32.toInt (show FI32 121 73 = x9 from (up_k u33 (by decide) (h10))); omega)) (fun v44 sv45 p46 => ?_)
            have := congrArg Int32.toInt (show FI32 121 73 = x9 from (up_k u33 (by decide) (h10)))
            obtain ⟨rfl, FI48, rfl, hI49, f50, t51⟩ := p46
            have rl52 : rl_e (FI48 149) (FI48 121 67) := by rw [show FI48 149 = FI32 149 from gf_row f50 (c149 hS) (s149 hS) rfl rfl, show FI48 121 67 = FI32 121 67 from gf_at f50 (c121 hS) (s121 hS) rfl rfl]; exact rl34
            have rl53 : rl_t (FI48 149) (FL 150) := by rw [show FI48 149 = FI32 149 from gf_row f50 (c149 hS) (s149 hS) rfl rfl]; exact rl35
            have rl54 : rl_w (FI48 121 67) (FI48 149) (FL 150) (FI48 151) := by rw [show FI48 149 = FI32 149 from gf_row f50 (c149 hS) (s149 hS) rfl rfl, show FI48 151 = FI32 151 from gf_row f50 (c151 hS) (s151 hS) rfl rfl, show FI48 121 67 = FI32 121 67 from gf_at f50 (c121 hS) (s121 hS) rfl rfl]; exact rl36
            obtain ⟨x55, h56⟩ : ∃ y, FI48 121 73 = y := ⟨_, rfl⟩
            have h56l := congrArg Int32.toInt h56
            have b57 := gI_121_73 hI49; rw [h56] at b57
            show hw zk base _ _ _ _ _ [] _ _
            refine hw_aloadn (aX12_place 101 rfl) rfl ?_
            refine hw_get (v := .int (x55)) (aX12_place 102 rfl) wf_RX12_493 (c121 hS) (s121 hS) (by decide) (congrArg Value.int (show FI48 121 73 = x55 from h56)) ?_
            refine xw_istoren (L2 := [(2, .int (x55)), (1, .int (x28)), (0, .ref (base + 121))]) (aX12_place 103 rfl) (by decide) rfl ?_
            refine hw_aloadn (aX12_place 104 rfl) rfl ?_
            refine hw_ic (v := (0 : Int32)) (aX12_place 105 rfl) (by decide) ?_
            refine hw_callV (Bs := [.int ((0 : Int32))]) (rest := []) (aX12_place 106 rfl) wc_RX12_496 (by decide) rfl wi_yX12_emit wv_yX12_emit (c121 hS) (s121 hS) rfl rfl rfl (Nat.le_of_ble_eq_true rfl) (Nat.le_of_ble_eq_true rfl) (n_emit0 (d := d + 6) hS hF hI49 ((0 : Int32)) (by have := congrArg Int32.toInt (show FI48 121 73 = x55 from h56); omega)) (fun v58 sv59 p60 => ?_)
            have := congrArg Int32.toInt (show FI48 121 73 = x55 from h56)
            obtain ⟨rfl, FI62, rfl, hI63, f64, t65⟩ := p60
            have rl66 : rl_e (FI62 149) (FI62 121 67) := by rw [show FI62 149 = FI48 149 from gf_row f64 (c149 hS) (s149 hS) rfl rfl, show FI62 121 67 = FI48 121 67 from gf_at f64 (c121 hS) (s121 hS) rfl rfl]; exact rl52
            have rl67 : rl_t (FI62 149) (FL 150) := by rw [show FI62 149 = FI48 149 from gf_row f64 (c149 hS) (s149 hS) rfl rfl]; exact rl53
            have rl68 : rl_w (FI62 121 67) (FI62 149) (FL 150) (FI62 151) := by rw [show FI62 149 = FI48 149 from gf_row f64 (c149 hS) (s149 hS) rfl rfl, show FI62 151 = FI48 151 from gf_row f64 (c151 hS) (s151 hS) rfl rfl, show FI62 121 67 = FI48 121 67 from gf_at f64 (c121 hS) (s121 hS) rfl rfl]; exact rl54
            obtain ⟨x69, h70⟩ : ∃ y, FI62 121 73 = y := ⟨_, rfl⟩
            have h70l := congrArg Int32.toInt h70
            have b71 := gI_121_73 hI63; rw [h70] at b71
            show hw zk base _ _ _ _ _ [] _ _
            refine hw_ic (v := (0 : Int32)) (aX12_place 107 rfl) (by decide) ?_
            refine xw_istoren (L2 := [(3, .int ((0 : Int32))), (2, .int (x55)), (1, .int (x28)), (0, .ref (base + 121))]) (aX12_place 108 rfl) (by decide) rfl ?_
            refine hw_aloadn (aX12_place 109 rfl) rfl ?_
            refine hw_get (v := .int (x7)) (aX12_place 110 rfl) wf_RX12_475 (c121 hS) (s121 hS) (by decide) (congrArg Value.int (show FI62 121 69 = x7 from (gf_at f64 (c121 hS) (s121 hS) rfl ((gf_at f50 (c121 hS) (s121 hS) rfl ((up_k u33 (by decide) (h8)))))))) ?_
            refine hw_ifne (tgt := 287) (aX12_place 111 rfl) (by decide) rfl (fun cd72 => ?_) (fun cd72 => ?_)
            · omega
            · have lp93 : ∀ (m : Nat) (y3 : Int32) (FIv73 : Nat → Nat → Int32), (g_fr n SH [(121, 68), (121, 69), (121, 70), (121, 71), (121, 73), (121, 90), (121, 91)] [154, 164, 165, 166, 167, 168] [] FI FIv73) → (g_I FIv73) → (FIv73 121 67 = x4) → (FIv73 121 71 = x12) → (FIv73 149 (x30).toNatClampNeg = x41) → (rl_e (FIv73 149) (FIv73 121 67)) → (rl_t (FIv73 149) (FL 150)) → (rl_w (FIv73 121 67) (FIv73 149) (FL 150) (FIv73 151)) → (0 ≤ (y3).toInt ∧ (y3).toInt ≤ 64) → (0 ≤ (FIv73 121 68).toInt ∧ (FIv73 121 68).toInt ≤ 1000) → ((FIv73 121 69).toInt = 0) → ((FIv73 121 68).toInt ≤ (x4).toInt - 1) → ((y3).toInt = (FIv73 121 68).toInt - (FI 121 68).toInt - 1) → ((FIv73 121 73).toInt = (FI 121 73).toInt + 2 + (y3).toInt) → ((FIv73 121 73).toInt ≤ (FI 121 73).toInt + 20 * ((FIv73 121 68).toInt - (FI 121 68).toInt)) → ((FI 121 73).toInt ≤ (FIv73 121 73).toInt) → ((x55).toInt < (FIv73 121 73).toInt) → (∀ i : Nat, (FI 121 68).toInt.toNat < i → i < ((FIv73 121 68).toInt).toNat → kf (FI 149) i = 3) → (FIv73 149 = FI 149) → (FIv73 151 = FI 151) → 1001 - (FIv73 121 68).toInt < m → hw zk base (d + 7) none 230 207 [(3, .int (y3)), (2, .int (x55)), (0, .ref (base + 121))] [] (n, sl, SH, FIv73, FL, FR) (h_V (fun s => ∃ FI', s = (n, sl, SH, FI', FL, FR) ∧ g_I FI' ∧ g_fr n SH [(121, 68), (121, 69), (121, 70), (121, 71), (121, 73), (121, 90), (121, 91)] [154, 164, 165, 166, 167, 168] [] FI FI' ∧ ((FI' 121 68).toInt ≤ (FI' 121 67).toInt - 1) ∧ ((FI 121 68).toInt ≤ (FI' 121 68).toInt) ∧ ((FI' 121 73).toInt ≤ (FI 121 73).toInt + 20 * ((FI' 121 68).toInt - (FI 121 68).toInt)) ∧ ((FI 121 73).toInt ≤ (FI' 121 73).toInt) ∧ (-800 ≤ (FI' 121 71).toInt ∧ (FI' 121 71).toInt ≤ 100) ∧ ((FI' 121 69).toInt = 0 → gr_pl (kf (FI 149)) (wf (FL 150)) (FI 121 68).toInt.toNat (FI' 121 68).toInt.toNat) ∧ ((FI' 121 69).toInt = 0 → (FI' 121 71).toInt = (FI 121 71).toInt) ∧ ((FI' 121 69).toInt = 0 → (FI' 121 73).toInt + 2 - 4 * wp (FI 151) (FI' 121 68) ≤ (FI 121 73).toInt - 4 * wp (FI 151) (FI 121 68)))) := by
                intro m
                induction m with
                | zero => intro y3 FIv73 fr74 hI75 kp76 kp77 kp78 rl79 rl80 rl81 iv82 iv83 iv84 iv85 iv86 iv87 iv88 iv89 iv90 xi207_0 rw91 rw92 hm; omega
                | succ m ih =>
                  intro y3 FIv73 fr74 hI75 kp76 kp77 kp78 rl79 rl80 rl81 iv82 iv83 iv84 iv85 iv86 iv87 iv88 iv89 iv90 xi207_0 rw91 rw92 hm
                  have rg_y3 := i_rng y3
                  have := congrArg Int32.toInt kp76
                  have := congrArg Int32.toInt kp77
                  have := congrArg Int32.toInt kp78
                  obtain ⟨x94, h95⟩ : ∃ y, FIv73 121 68 = y := ⟨_, rfl⟩
                  have h95l := congrArg Int32.toInt h95
                  have b96 := gI_121_68 hI75; rw [h95] at b96
                  obtain ⟨x97, h98⟩ : ∃ y, FIv73 121 69 = y := ⟨_, rfl⟩
                  have h98l := congrArg Int32.toInt h98
                  have := i_rng x97
                  obtain ⟨x99, h100⟩ : ∃ y, FIv73 121 73 = y := ⟨_, rfl⟩
                  have h100l := congrArg Int32.toInt h100
                  have b101 := gI_121_73 hI75; rw [h100] at b101
                  refine hw_aloadn (aX12_place 112 rfl) rfl ?_
                  refine hw_get (v := .ref (base + 149)) (aX12_place 113 rfl) wf_RX12_105 (c121 hS) (s121 hS) (by decide) (congrArg (fun r => va_rf (h_rf base r)) (r121_62 hF)) ?_
                  refine hw_aloadn (aX12_place 114 rfl) rfl ?_
                  refine hw_get (v := .int (x94)) (aX12_place 115 rfl) wf_RX12_478 (c121 hS) (s121 hS) (by decide) (congrArg Value.int (show FIv73 121 68 = x94 from h95)) ?_
                  obtain ⟨x102, h103⟩ : ∃ y, FIv73 149 (x94).toNatClampNeg = y := ⟨_, rfl⟩
                  have h103l := congrArg Int32.toInt h103
                  have := i_rng x102
                  refine hw_iald (v := x102) (aX12_place 116 rfl) (c149 hS) (s149 hS) (h_in rfl (by omega) (by omega)) (show FIv73 149 (x94).toNatClampNeg = x102 from h103) ?_
                  refine hw_ic (v := (3 : Int32)) (aX12_place 117 rfl) (by decide) ?_
                  refine hw_icne (tgt := 287) (aX12_place 118 rfl) (by decide) rfl (by decide : (3 : Int32).toInt = 3) (fun cd104 => ?_) (fun cd104 => ?_)
                  · have hby : kf (FI 149) (x94).toInt.toNat ≠ 3 := (by { have e : (x94).toInt.toNat = (x94).toNatClampNeg := by { rw [i_cl (x := x94) rfl]; try omega }; show (FI 149 ((x94).toInt.toNat)).toInt ≠ 3; rw [e, ← (show FIv73 149 = FI 149 from rw91), show FIv73 149 (x94).toNatClampNeg = x102 from h103]; try omega })
                    refine hw_aloadn (aX12_place 156 rfl) rfl ?_
                    refine hw_get (v := .int (x99)) (aX12_place 157 rfl) wf_RX12_493 (c121 hS) (s121 hS) (by decide) (congrArg Value.int (show FIv73 121 73 = x99 from h100)) ?_
                    refine hw_sp (v := (4000 : Int32)) (aX12_place 158 rfl) (by decide) ?_
                    refine hw_icgt (tgt := 304) (aX12_place 159 rfl) (by decide) rfl (by decide : (4000 : Int32).toInt = 4000) (fun cd105 => ?_) (fun cd105 => ?_)
                    · refine xw_vret (aX12_place 165 rfl) rfl ?_
                      exact ⟨rfl, FIv73, rfl, hI75, fr74, (by have := congrArg Int32.toInt (show FIv73 121 67 = x4 from kp76); have := congrArg Int32.toInt (show FIv73 121 68 = x94 from h95); omega), (by have := congrArg Int32.toInt (show FIv73 121 68 = x94 from h95); omega), (by have := congrArg Int32.toInt (show FIv73 121 68 = x94 from h95); have := congrArg Int32.toInt (show FIv73 121 73 = x99 from h100); omega), (by have := congrArg Int32.toInt (show FIv73 121 73 = x99 from h100); omega), (by have := congrArg Int32.toInt (show FIv73 121 71 = x12 from kp77); omega), (by have := congrArg Int32.toInt (show FIv73 121 68 = x94 from h95); have := congrArg Int32.toInt (show FIv73 121 69 = x97 from h98); intro h69; exact Or.inr (Or.inr (Or.inr (Or.inl ⟨hnb, by omega, by omega, fun i h1 h2 => xi207_0 i h1 (by omega), by rw [show (FIv73 121 68).toInt.toNat = (x94).toInt.toNat by omega]; exact hby, by omega⟩)))), (by have := congrArg Int32.toInt (show FIv73 121 71 = x12 from kp77); exact fun _ => by omega), (by have := congrArg Int32.toInt (show FIv73 121 68 = x94 from h95); have := congrArg Int32.toInt (show FIv73 121 69 = x97 from h98); have := congrArg Int32.toInt (show FIv73 121 73 = x99 from h100); intro h69; have := wp_n rel_wh (t := FI 121 68) (u := FIv73 121 68) (by omega) (by omega) (by omega); omega)⟩
                    · refine hw_aloadn (aX12_place 160 rfl) rfl ?_
                      refine hw_get (v := .ref (base + 154)) (aX12_place 161 rfl) wf_RX12_120 (c121 hS) (s121 hS) (by decide) (congrArg (fun r => va_rf (h_rf base r)) (r121_72 hF)) ?_
                      refine xw_iloadn (aX12_place 162 rfl) rfl ?_
                      refine xw_iloadn (aX12_place 163 rfl) rfl ?_
                      refine hv_iast (k := (x55).toNatClampNeg) (aX12_place 164 rfl) (c154 hS) (s154 hS) (h_in rfl (by omega) (by omega)) rfl (fun FI106 u107 => ?_)
                      have rl108 : rl_e (FI106 149) (FI106 121 67) := by rw [show FI106 149 = FIv73 149 from up_row u107 (by decide) rfl, show FI106 121 67 = FIv73 121 67 from up_c u107 (by decide) rfl]; exact rl79
                      have rl109 : rl_t (FI106 149) (FL 150) := by rw [show FI106 149 = FIv73 149 from up_row u107 (by decide) rfl]; exact rl80
                      have rl110 : rl_w (FI106 121 67) (FI106 149) (FL 150) (FI106 151) := by rw [show FI106 149 = FIv73 149 from up_row u107 (by decide) rfl, show FI106 151 = FIv73 151 from up_row u107 (by decide) rfl, show FI106 121 67 = FIv73 121 67 from up_c u107 (by decide) rfl]; exact rl81
                      have hI111 : g_I FI106 := gU_154 hI75 u107 (by omega) (by omega)
                      refine xw_vret (aX12_place 165 rfl) rfl ?_
                      exact ⟨rfl, FI106, rfl, hI111, (gf_a fr74 u107 (by decide)), (by have := congrArg Int32.toInt (show FI106 121 67 = x4 from (up_c u107 (by decide) (kp76))); have := congrArg Int32.toInt (show FI106 121 68 = x94 from (up_c u107 (by decide) (h95))); omega), (by have := congrArg Int32.toInt (show FI106 121 68 = x94 from (up_c u107 (by decide) (h95))); omega), (by have := congrArg Int32.toInt (show FI106 121 68 = x94 from (up_c u107 (by decide) (h95))); have := congrArg Int32.toInt (show FI106 121 73 = x99 from (up_c u107 (by decide) (h100))); omega), (by have := congrArg Int32.toInt (show FI106 121 73 = x99 from (up_c u107 (by decide) (h100))); omega), (by have := congrArg Int32.toInt (show FI106 121 71 = x12 from (up_c u107 (by decide) (kp77))); omega), (by have := congrArg Int32.toInt (show FI106 121 68 = x94 from (up_c u107 (by decide) (h95))); have := congrArg Int32.toInt (show FI106 121 69 = x97 from (up_c u107 (by decide) (h98))); intro h69; exact Or.inr (Or.inr (Or.inr (Or.inl ⟨hnb, by omega, by omega, fun i h1 h2 => xi207_0 i h1 (by omega), by rw [show (FI106 121 68).toInt.toNat = (x94).toInt.toNat by omega]; exact hby, by omega⟩)))), (by have := congrArg Int32.toInt (show FI106 121 71 = x12 from (up_c u107 (by decide) (kp77))); exact fun _ => by omega), (by have := congrArg Int32.toInt (show FI106 121 68 = x94 from (up_c u107 (by decide) (h95))); have := congrArg Int32.toInt (show FI106 121 69 = x97 from (up_c u107 (by decide) (h98))); have := congrArg Int32.toInt (show FI106 121 73 = x99 from (up_c u107 (by decide) (h100))); intro h69; have := wp_n rel_wh (t := FI 121 68) (u := FI106 121 68) (by omega) (by omega) (by omega); omega)⟩
                  · have hk207 : kf (FI 149) (x94).toInt.toNat = 3 := (by { have e : (x94).toInt.toNat = (x94).toNatClampNeg := by { rw [i_cl (x := x94) rfl]; try omega }; show (FI 149 ((x94).toInt.toNat)).toInt = 3; rw [e, ← (show FIv73 149 = FI 149 from rw91), show FIv73 149 (x94).toNatClampNeg = x102 from h103]; try omega })
                    have := congrArg Int32.toInt (show FIv73 121 67 = x4 from kp76)
                    have hne111 := rl_e_ne rl79 (t := x94) (by omega)
                    refine hw_aloadn (aX12_place 119 rfl) rfl ?_
                    refine hw_get (v := .ref (base + 150)) (aX12_place 120 rfl) wf_RX12_108 (c121 hS) (s121 hS) (by decide) (congrArg (fun r => va_rf (h_rf base r)) (r121_63 hF)) ?_
                    refine hw_aloadn (aX12_place 121 rfl) rfl ?_
                    refine hw_get (v := .int (x94)) (aX12_place 122 rfl) wf_RX12_478 (c121 hS) (s121 hS) (by decide) (congrArg Value.int (show FIv73 121 68 = x94 from h95)) ?_
                    obtain ⟨x112, h113⟩ : ∃ y, FL 150 (x94).toNatClampNeg = y := ⟨_, rfl⟩
                    have h113l := congrArg Int64.toInt h113
                    have := l_rng x112
                    refine hw_lald (v := x112) (aX12_place 123 rfl) (c150 hS) (s150 hS) (h_in rfl (by omega) (by omega)) (show FL 150 (x94).toNatClampNeg = x112 from h113) ?_
                    refine xw_ldc2 (aX12_place 124 rfl) wk_RX12_503 ?_
                    have j192 : ∀ (g147 : Int32) (FIj142 : Nat → Nat → Int32), (g_fr n SH [(121, 68), (121, 69), (121, 70), (121, 71), (121, 73), (121, 90), (121, 91)] [154, 164, 165, 166, 167, 168] [] FI FIj142) → (g_I FIj142) → (FIj142 121 67 = x4) → (FIj142 121 68 = x94) → (FIj142 121 69 = g147) → (FIj142 121 71 = x12) → (FIj142 121 73 = x99) → (FIj142 149 (x30).toNatClampNeg = x41) → (FIj142 149 (x94).toNatClampNeg = x102) → (FIj142 149 = FI 149) → (FIj142 151 = FI 151) → (rl_e (FIj142 149) (FIj142 121 67)) → (rl_t (FIj142 149) (FL 150)) → (rl_w (FIj142 121 67) (FIj142 149) (FL 150) (FIj142 151)) → ((g147).toInt = 0 → (y3).toInt ≤ 63) → hw zk base (d + 7) none 230 256 [(0, .ref (base + 121)), (2, .int (x55)), (3, .int (y3))] [] (n, sl, SH, FIj142, FL, FR) (h_V (fun s => ∃ FI', s = (n, sl, SH, FI', FL, FR) ∧ g_I FI' ∧ g_fr n SH [(121, 68), (121, 69), (121, 70), (121, 71), (121, 73), (121, 90), (121, 91)] [154, 164, 165, 166, 167, 168] [] FI FI' ∧ ((FI' 121 68).toInt ≤ (FI' 121 67).toInt - 1) ∧ ((FI 121 68).toInt ≤ (FI' 121 68).toInt) ∧ ((FI' 121 73).toInt ≤ (FI 121 73).toInt + 20 * ((FI' 121 68).toInt - (FI 121 68).toInt)) ∧ ((FI 121 73).toInt ≤ (FI' 121 73).toInt) ∧ (-800 ≤ (FI' 121 71).toInt ∧ (FI' 121 71).toInt ≤ 100) ∧ ((FI' 121 69).toInt = 0 → gr_pl (kf (FI 149)) (wf (FL 150)) (FI 121 68).toInt.toNat (FI' 121 68).toInt.toNat) ∧ ((FI' 121 69).toInt = 0 → (FI' 121 71).toInt = (FI 121 71).toInt) ∧ ((FI' 121 69).toInt = 0 → (FI' 121 73).toInt + 2 - 4 * wp (FI 151) (FI' 121 68) ≤ (FI 121 73).toInt - 4 * wp (FI 151) (FI 121 68)))) := by
                      intro g147 FIj142 fr143 hI144 kp145 kp146 kp148 kp149 kp150 kp151 kp152 rw153 rw154 rl155 rl156 rl157 fc256_0
                      have rg_g147 := i_rng g147
                      have := congrArg Int32.toInt kp145
                      have := congrArg Int32.toInt kp146
                      have := congrArg Int32.toInt kp148
                      have := congrArg Int32.toInt kp149
                      have := congrArg Int32.toInt kp150
                      have := congrArg Int32.toInt kp151
                      have := congrArg Int32.toInt kp152
                      refine hw_aloadn (aX12_place 137 rfl) rfl ?_
                      refine hw_aloadn (aX12_place 138 rfl) rfl ?_
                      refine hw_get (v := .ref (base + 150)) (aX12_place 139 rfl) wf_RX12_108 (c121 hS) (s121 hS) (by decide) (congrArg (fun r => va_rf (h_rf base r)) (r121_63 hF)) ?_
                      refine hw_aloadn (aX12_place 140 rfl) rfl ?_
                      refine hw_get (v := .int (x94)) (aX12_place 141 rfl) wf_RX12_478 (c121 hS) (s121 hS) (by decide) (congrArg Value.int (show FIj142 121 68 = x94 from kp146)) ?_
                      refine hw_lald (v := x112) (aX12_place 142 rfl) (c150 hS) (s150 hS) (h_in rfl (by omega) (by omega)) (show FL 150 (x94).toNatClampNeg = x112 from h113) ?_
                      refine xw_l2i (aX12_place 143 rfl) ?_
                      refine hw_ti (fun x193 => ?_)
                      have b194 := i_rng x193
                      refine hw_callV (Bs := [.int (x193)]) (rest := []) (aX12_place 144 rfl) wc_RX12_496 (by decide) rfl wi_yX12_emit wv_yX12_emit (c121 hS) (s121 hS) rfl rfl rfl (Nat.le_of_ble_eq_true rfl) (Nat.le_of_ble_eq_true rfl) (n_emit0 (d := d + 6) hS hF hI144 (x193) (by have := congrArg Int32.toInt (show FIj142 121 73 = x99 from kp150); omega)) (fun v195 sv196 p197 => ?_)
                      have := congrArg Int32.toInt (show FIj142 121 73 = x99 from kp150)
                      obtain ⟨rfl, FI199, rfl, hI200, f201, t202⟩ := p197
                      have rl203 : rl_e (FI199 149) (FI199 121 67) := by rw [show FI199 149 = FIj142 149 from gf_row f201 (c149 hS) (s149 hS) rfl rfl, show FI199 121 67 = FIj142 121 67 from gf_at f201 (c121 hS) (s121 hS) rfl rfl]; exact rl155
                      have rl204 : rl_t (FI199 149) (FL 150) := by rw [show FI199 149 = FIj142 149 from gf_row f201 (c149 hS) (s149 hS) rfl rfl]; exact rl156
                      have rl205 : rl_w (FI199 121 67) (FI199 149) (FL 150) (FI199 151) := by rw [show FI199 149 = FIj142 149 from gf_row f201 (c149 hS) (s149 hS) rfl rfl, show FI199 151 = FIj142 151 from gf_row f201 (c151 hS) (s151 hS) rfl rfl, show FI199 121 67 = FIj142 121 67 from gf_at f201 (c121 hS) (s121 hS) rfl rfl]; exact rl157
                      obtain ⟨x206, h207⟩ : ∃ y, FI199 121 73 = y := ⟨_, rfl⟩
                      have h207l := congrArg Int32.toInt h207
                      have b208 := gI_121_73 hI200; rw [h207] at b208
                      show hw zk base _ _ _ _ _ [] _ _
                      refine xw_iloadn (aX12_place 145 rfl) rfl ?_
                      refine hw_ic (v := (1 : Int32)) (aX12_place 146 rfl) (by decide) ?_
                      refine xw_iadd (aX12_place 147 rfl) ?_
                      refine hw_tie (A := ((y3).toInt) + (1)) (i_add rfl (by decide : (1 : Int32).toInt = 1) (by omega) (by omega)) (fun x209 e210 => ?_)
                      refine xw_istoren (L2 := [(3, .int (x209)), (0, .ref (base + 121)), (2, .int (x55))]) (aX12_place 148 rfl) (by decide) rfl ?_
                      refine hw_aloadn (aX12_place 149 rfl) rfl ?_
                      refine hw_aloadn (aX12_place 150 rfl) rfl ?_
                      refine hw_get (v := .int (x94)) (aX12_place 151 rfl) wf_RX12_478 (c121 hS) (s121 hS) (by decide) (congrArg Value.int (show FI199 121 68 = x94 from (gf_at f201 (c121 hS) (s121 hS) rfl (kp146)))) ?_
                      refine hw_ic (v := (1 : Int32)) (aX12_place 152 rfl) (by decide) ?_
                      refine xw_iadd (aX12_place 153 rfl) ?_
                      refine hw_tie (A := ((x94).toInt) + (1)) (i_add rfl (by decide : (1 : Int32).toInt = 1) (by omega) (by omega)) (fun x211 e212 => ?_)
                      refine hv_puti (aX12_place 154 rfl) wf_RX12_478 (c121 hS) (s121 hS) (by decide) rfl rfl (fun FI213 u214 => ?_)
                      have rl215 : rl_e (FI213 149) (FI213 121 67) := by rw [show FI213 149 = FI199 149 from up_row u214 (by decide) rfl, show FI213 121 67 = FI199 121 67 from up_k u214 (by decide) rfl]; exact rl203
                      have rl216 : rl_t (FI213 149) (FL 150) := by rw [show FI213 149 = FI199 149 from up_row u214 (by decide) rfl]; exact rl204
                      have rl217 : rl_w (FI213 121 67) (FI213 149) (FL 150) (FI213 151) := by rw [show FI213 149 = FI199 149 from up_row u214 (by decide) rfl, show FI213 151 = FI199 151 from up_row u214 (by decide) rfl, show FI213 121 67 = FI199 121 67 from up_k u214 (by decide) rfl]; exact rl205
                      have hI218 : g_I FI213 := gU_121_68 hI200 u214 (by have := (e212 : (x211).toInt = ((x94).toInt) + (1)); omega) (by have := (e212 : (x211).toInt = ((x94).toInt) + (1)); omega)
                      refine xw_goto (tgt := 200) (aX12_place 155 rfl) (by decide) ?_
                      refine hw_aloadn (aX12_place 109 rfl) rfl ?_
                      refine hw_get (v := .int (g147)) (aX12_place 110 rfl) wf_RX12_475 (c121 hS) (s121 hS) (by decide) (congrArg Value.int (show FI213 121 69 = g147 from (up_k u214 (by decide) ((gf_at f201 (c121 hS) (s121 hS) rfl (kp148)))))) ?_
                      refine hw_ifne (tgt := 287) (aX12_place 111 rfl) (by decide) rfl (fun cd219 => ?_) (fun cd219 => ?_)
                      · refine hw_aloadn (aX12_place 156 rfl) rfl ?_
                        refine hw_get (v := .int (x206)) (aX12_place 157 rfl) wf_RX12_493 (c121 hS) (s121 hS) (by decide) (congrArg Value.int (show FI213 121 73 = x206 from (up_k u214 (by decide) (h207)))) ?_
                        refine hw_sp (v := (4000 : Int32)) (aX12_place 158 rfl) (by decide) ?_
                        refine hw_icgt (tgt := 304) (aX12_place 159 rfl) (by decide) rfl (by decide : (4000 : Int32).toInt = 4000) (fun cd220 => ?_) (fun cd220 => ?_)
                        · refine xw_vret (aX12_place 165 rfl) rfl ?_
                          exact ⟨rfl, FI213, rfl, hI218, (gf_f (gf_tr ex_rf fr143 f201 rfl rfl rfl) u214 (by decide)), (by have := congrArg Int32.toInt (show FI213 121 67 = x4 from (up_k u214 (by decide) ((gf_at f201 (c121 hS) (s121 hS) rfl (kp145))))); have := congrArg Int32.toInt (show FI213 121 68 = x211 from up_eq u214); have := (e212 : (x211).toInt = ((x94).toInt) + (1)); omega), (by have := congrArg Int32.toInt (show FI213 121 68 = x211 from up_eq u214); have := (e212 : (x211).toInt = ((x94).toInt) + (1)); omega), (by have := congrArg Int32.toInt (show FI213 121 68 = x211 from up_eq u214); have := (e212 : (x211).toInt = ((x94).toInt) + (1)); have := congrArg Int32.toInt (show FI213 121 73 = x206 from (up_k u214 (by decide) (h207))); omega), (by have := congrArg Int32.toInt (show FI213 121 73 = x206 from (up_k u214 (by decide) (h207))); omega), (by have := congrArg Int32.toInt (show FI213 121 71 = x12 from (up_k u214 (by decide) ((gf_at f201 (c121 hS) (s121 hS) rfl (kp149))))); omega), (by have := congrArg Int32.toInt (show FI213 121 69 = g147 from (up_k u214 (by decide) ((gf_at f201 (c121 hS) (s121 hS) rfl (kp148))))); exact fun h => absurd h (by omega)), (by have := congrArg Int32.toInt (show FI213 121 69 = g147 from (up_k u214 (by decide) ((gf_at f201 (c121 hS) (s121 hS) rfl (kp148))))); exact fun h => absurd h (by omega)), (by have := congrArg Int32.toInt (show FI213 121 69 = g147 from (up_k u214 (by decide) ((gf_at f201 (c121 hS) (s121 hS) rfl (kp148))))); exact fun h => absurd h (by omega))⟩
                        · refine hw_aloadn (aX12_place 160 rfl) rfl ?_
                          refine hw_get (v := .ref (base + 154)) (aX12_place 161 rfl) wf_RX12_120 (c121 hS) (s121 hS) (by decide) (congrArg (fun r => va_rf (h_rf base r)) (r121_72 hF)) ?_
                          refine xw_iloadn (aX12_place 162 rfl) rfl ?_
                          refine xw_iloadn (aX12_place 163 rfl) rfl ?_
                          refine hv_iast (k := (x55).toNatClampNeg) (aX12_place 164 rfl) (c154 hS) (s154 hS) (h_in rfl (by omega) (by omega)) rfl (fun FI221 u222 => ?_)
                          have rl223 : rl_e (FI221 149) (FI221 121 67) := by rw [show FI221 149 = FI213 149 from up_row u222 (by decide) rfl, show FI221 121 67 = FI213 121 67 from up_c u222 (by decide) rfl]; exact rl215
                          have rl224 : rl_t (FI221 149) (FL 150) := by rw [show FI221 149 = FI213 149 from up_row u222 (by decide) rfl]; exact rl216
                          have rl225 : rl_w (FI221 121 67) (FI221 149) (FL 150) (FI221 151) := by rw [show FI221 149 = FI213 149 from up_row u222 (by decide) rfl, show FI221 151 = FI213 151 from up_row u222 (by decide) rfl, show FI221 121 67 = FI213 121 67 from up_c u222 (by decide) rfl]; exact rl217
                          have hI226 : g_I FI221 := gU_154 hI218 u222 (by have := (e210 : (x209).toInt = ((y3).toInt) + (1)); omega) (by have := (e210 : (x209).toInt = ((y3).toInt) + (1)); omega)
                          refine xw_vret (aX12_place 165 rfl) rfl ?_
                          exact ⟨rfl, FI221, rfl, hI226, (gf_a (gf_f (gf_tr ex_rf fr143 f201 rfl rfl rfl) u214 (by decide)) u222 (by decide)), (by have := congrArg Int32.toInt (show FI221 121 67 = x4 from (up_c u222 (by decide) ((up_k u214 (by decide) ((gf_at f201 (c121 hS) (s121 hS) rfl (kp145))))))); have := congrArg Int32.toInt (show FI221 121 68 = x211 from (up_c u222 (by decide) (up_eq u214))); have := (e212 : (x211).toInt = ((x94).toInt) + (1)); omega), (by have := congrArg Int32.toInt (show FI221 121 68 = x211 from (up_c u222 (by decide) (up_eq u214))); have := (e212 : (x211).toInt = ((x94).toInt) + (1)); omega), (by have := congrArg Int32.toInt (show FI221 121 68 = x211 from (up_c u222 (by decide) (up_eq u214))); have := (e212 : (x211).toInt = ((x94).toInt) + (1)); have := congrArg Int32.toInt (show FI221 121 73 = x206 from (up_c u222 (by decide) ((up_k u214 (by decide) (h207))))); omega), (by have := congrArg Int32.toInt (show FI221 121 73 = x206 from (up_c u222 (by decide) ((up_k u214 (by decide) (h207))))); omega), (by have := congrArg Int32.toInt (show FI221 121 71 = x12 from (up_c u222 (by decide) ((up_k u214 (by decide) ((gf_at f201 (c121 hS) (s121 hS) rfl (kp149))))))); omega), (by have := congrArg Int32.toInt (show FI221 121 69 = g147 from (up_c u222 (by decide) ((up_k u214 (by decide) ((gf_at f201 (c121 hS) (s121 hS) rfl (kp148))))))); exact fun h => absurd h (by omega)), (by have := congrArg Int32.toInt (show FI221 121 69 = g147 from (up_c u222 (by decide) ((up_k u214 (by decide) ((gf_at f201 (c121 hS) (s121 hS) rfl (kp148))))))); exact fun h => absurd h (by omega)), (by have := congrArg Int32.toInt (show FI221 121 69 = g147 from (up_c u222 (by decide) ((up_k u214 (by decide) ((gf_at f201 (c121 hS) (s121 hS) rfl (kp148))))))); exact fun h => absurd h (by omega))⟩
                      · exact hw_L (ih (x209) FI213 (gf_f (gf_tr ex_rf fr143 f201 rfl rfl rfl) u214 (by decide)) hI218 (show FI213 121 67 = x4 from (up_k u214 (by decide) ((gf_at f201 (c121 hS) (s121 hS) rfl (kp145))))) (show FI213 121 71 = x12 from (up_k u214 (by decide) ((gf_at f201 (c121 hS) (s121 hS) rfl (kp149))))) (show FI213 149 (x30).toNatClampNeg = x41 from (up_c u214 (by decide) ((gf_at f201 (c149 hS) (s149 hS) rfl (kp151))))) (show rl_e (FI213 149) (FI213 121 67) from rl215) (show rl_t (FI213 149) (FL 150) from rl216) (show rl_w (FI213 121 67) (FI213 149) (FL 150) (FI213 151) from rl217) (by have := (e210 : (x209).toInt = ((y3).toInt) + (1)); omega) (by have := (e210 : (x209).toInt = ((y3).toInt) + (1)); have := congrArg Int32.toInt (show FI213 121 68 = x211 from up_eq u214); have := (e212 : (x211).toInt = ((x94).toInt) + (1)); omega) (by have := (e210 : (x209).toInt = ((y3).toInt) + (1)); have := congrArg Int32.toInt (show FI213 121 69 = g147 from (up_k u214 (by decide) ((gf_at f201 (c121 hS) (s121 hS) rfl (kp148))))); omega) (by have := (e210 : (x209).toInt = ((y3).toInt) + (1)); have := congrArg Int32.toInt (show FI213 121 67 = x4 from (up_k u214 (by decide) ((gf_at f201 (c121 hS) (s121 hS) rfl (kp145))))); have := congrArg Int32.toInt (show FI213 121 68 = x211 from up_eq u214); have := (e212 : (x211).toInt = ((x94).toInt) + (1)); omega) (by have := (e210 : (x209).toInt = ((y3).toInt) + (1)); have := congrArg Int32.toInt (show FI213 121 68 = x211 from up_eq u214); have := (e212 : (x211).toInt = ((x94).toInt) + (1)); omega) (by have := (e210 : (x209).toInt = ((y3).toInt) + (1)); have := congrArg Int32.toInt (show FI213 121 73 = x206 from (up_k u214 (by decide) (h207))); omega) (by have := (e210 : (x209).toInt = ((y3).toInt) + (1)); have := congrArg Int32.toInt (show FI213 121 68 = x211 from up_eq u214); have := (e212 : (x211).toInt = ((x94).toInt) + (1)); have := congrArg Int32.toInt (show FI213 121 73 = x206 from (up_k u214 (by decide) (h207))); omega) (by have := (e210 : (x209).toInt = ((y3).toInt) + (1)); have := congrArg Int32.toInt (show FI213 121 73 = x206 from (up_k u214 (by decide) (h207))); omega) (by have := (e210 : (x209).toInt = ((y3).toInt) + (1)); have := congrArg Int32.toInt (show FI213 121 73 = x206 from (up_k u214 (by decide) (h207))); omega) (show ∀ i : Nat, (FI 121 68).toInt.toNat < i → i < ((FI213 121 68).toInt).toNat → kf (FI 149) i = 3 from (by have := (e210 : (x209).toInt = ((y3).toInt) + (1)); have := congrArg Int32.toInt (show FI213 121 68 = x211 from up_eq u214); have := (e212 : (x211).toInt = ((x94).toInt) + (1)); exact (fun i h1 h2 => by { rcases Nat.lt_or_ge i (x94).toInt.toNat with h | h; { exact xi207_0 i h1 (by omega) }; { rw [show i = (x94).toInt.toNat by omega]; exact hk207 } }))) (show FI213 149 = FI 149 from (up_row u214 (by decide) ((gf_row f201 (c149 hS) (s149 hS) rfl (rw153))))) (show FI213 151 = FI 151 from (up_row u214 (by decide) ((gf_row f201 (c151 hS) (s151 hS) rfl (rw154))))) (by have := (e210 : (x209).toInt = ((y3).toInt) + (1)); have := congrArg Int32.toInt (show FI213 121 68 = x211 from up_eq u214); have := (e212 : (x211).toInt = ((x94).toInt) + (1)); omega)) ⟨rfl, rfl, rfl, trivial⟩
                    refine hw_lcle (tgt := 244) (aX12_place 125 rfl) (aX12_place 126 rfl) (by decide) rfl (by decide : (255 : Int64).toInt = 255) (fun cd227 => ?_) (fun cd227 => ?_)
                    · refine xw_iloadn (aX12_place 131 rfl) rfl ?_
                      refine hw_bp (v := (64 : Int32)) (aX12_place 132 rfl) (by decide) ?_
                      refine hw_icne (tgt := 256) (aX12_place 133 rfl) (by decide) rfl (by decide : (64 : Int32).toInt = 64) (fun cd228 => ?_) (fun cd228 => ?_)
                      · exact hw_L (j192 (x97) FIv73 fr74 hI75 (show FIv73 121 67 = x4 from kp76) (show FIv73 121 68 = x94 from h95) (show FIv73 121 69 = x97 from h98) (show FIv73 121 71 = x12 from kp77) (show FIv73 121 73 = x99 from h100) (show FIv73 149 (x30).toNatClampNeg = x41 from kp78) (show FIv73 149 (x94).toNatClampNeg = x102 from h103) (show FIv73 149 = FI 149 from rw91) (show FIv73 151 = FI 151 from rw92) (show rl_e (FIv73 149) (FIv73 121 67) from rl79) (show rl_t (FIv73 149) (FL 150) from rl80) (show rl_w (FIv73 121 67) (FIv73 149) (FL 150) (FIv73 151) from rl81) (by show (x97).toInt = 0 → (y3).toInt ≤ 63; omega)) ⟨rfl, rfl, rfl, trivial⟩
                      · refine hw_aloadn (aX12_place 134 rfl) rfl ?_
                        refine hw_bp (v := (6 : Int32)) (aX12_place 135 rfl) (by decide) ?_
                        refine hw_callV (Bs := [.int ((6 : Int32))]) (rest := []) (aX12_place 136 rfl) wc_RX12_487 (by decide) rfl wi_yX12_fail wv_yX12_fail (c121 hS) (s121 hS) rfl rfl rfl (Nat.le_of_ble_eq_true rfl) (Nat.le_of_ble_eq_true rfl) (n_fail (d := d + 6) hS hF hI75 ((6 : Int32)) (by have := ((by decide : (6 : Int32).toInt = 6) : ((6 : Int32)).toInt = 6); omega)) (fun v229 sv230 p231 => ?_)
                        obtain ⟨rfl, FI233, rfl, hI234, f235, t236⟩ := p231
                        have rl237 : rl_e (FI233 149) (FI233 121 67) := by rw [show FI233 149 = FIv73 149 from gf_row f235 (c149 hS) (s149 hS) rfl rfl, show FI233 121 67 = FIv73 121 67 from gf_at f235 (c121 hS) (s121 hS) rfl rfl]; exact rl79
                        have rl238 : rl_t (FI233 149) (FL 150) := by rw [show FI233 149 = FIv73 149 from gf_row f235 (c149 hS) (s149 hS) rfl rfl]; exact rl80
                        have rl239 : rl_w (FI233 121 67) (FI233 149) (FL 150) (FI233 151) := by rw [show FI233 149 = FIv73 149 from gf_row f235 (c149 hS) (s149 hS) rfl rfl, show FI233 151 = FIv73 151 from gf_row f235 (c151 hS) (s151 hS) rfl rfl, show FI233 121 67 = FIv73 121 67 from gf_at f235 (c121 hS) (s121 hS) rfl rfl]; exact rl81
                        obtain ⟨x240, h241⟩ : ∃ y, FI233 121 69 = y := ⟨_, rfl⟩
                        have h241l := congrArg Int32.toInt h241
                        have := i_rng x240
                        show hw zk base _ _ _ _ _ [] _ _
                        exact hw_L (j192 (x240) FI233 (gf_tr ex_rf fr74 f235 rfl rfl rfl) hI234 (show FI233 121 67 = x4 from (gf_at f235 (c121 hS) (s121 hS) rfl (kp76))) (show FI233 121 68 = x94 from (gf_at f235 (c121 hS) (s121 hS) rfl (h95))) (show FI233 121 69 = x240 from h241) (show FI233 121 71 = x12 from (gf_at f235 (c121 hS) (s121 hS) rfl (kp77))) (show FI233 121 73 = x99 from (gf_at f235 (c121 hS) (s121 hS) rfl (h100))) (show FI233 149 (x30).toNatClampNeg = x41 from (gf_at f235 (c149 hS) (s149 hS) rfl (kp78))) (show FI233 149 (x94).toNatClampNeg = x102 from (gf_at f235 (c149 hS) (s149 hS) rfl (h103))) (show FI233 149 = FI 149 from (gf_row f235 (c149 hS) (s149 hS) rfl (rw91))) (show FI233 151 = FI 151 from (gf_row f235 (c151 hS) (s151 hS) rfl (rw92))) (show rl_e (FI233 149) (FI233 121 67) from rl237) (show rl_t (FI233 149) (FL 150) from rl238) (show rl_w (FI233 121 67) (FI233 149) (FL 150) (FI233 151) from rl239) (by show (x240).toInt = 0 → (y3).toInt ≤ 63; omega)) ⟨rfl, rfl, rfl, trivial⟩
                    · refine hw_aloadn (aX12_place 127 rfl) rfl ?_
                      refine hw_ic (v := (3 : Int32)) (aX12_place 128 rfl) (by decide) ?_
                      refine hw_callV (Bs := [.int ((3 : Int32))]) (rest := []) (aX12_place 129 rfl) wc_RX12_487 (by decide) rfl wi_yX12_fail wv_yX12_fail (c121 hS) (s121 hS) rfl rfl rfl (Nat.le_of_ble_eq_true rfl) (Nat.le_of_ble_eq_true rfl) (n_fail (d := d + 6) hS hF hI75 ((3 : Int32)) (by have := ((by decide : (3 : Int32).toInt = 3) : ((3 : Int32)).toInt = 3); omega)) (fun v242 sv243 p244 => ?_)
                      obtain ⟨rfl, FI246, rfl, hI247, f248, t249⟩ := p244
                      have rl250 : rl_e (FI246 149) (FI246 121 67) := by rw [show FI246 149 = FIv73 149 from gf_row f248 (c149 hS) (s149 hS) rfl rfl, show FI246 121 67 = FIv73 121 67 from gf_at f248 (c121 hS) (s121 hS) rfl rfl]; exact rl79
                      have rl251 : rl_t (FI246 149) (FL 150) := by rw [show FI246 149 = FIv73 149 from gf_row f248 (c149 hS) (s149 hS) rfl rfl]; exact rl80
                      have rl252 : rl_w (FI246 121 67) (FI246 149) (FL 150) (FI246 151) := by rw [show FI246 149 = FIv73 149 from gf_row f248 (c149 hS) (s149 hS) rfl rfl, show FI246 151 = FIv73 151 from gf_row f248 (c151 hS) (s151 hS) rfl rfl, show FI246 121 67 = FIv73 121 67 from gf_at f248 (c121 hS) (s121 hS) rfl rfl]; exact rl81
                      obtain ⟨x253, h254⟩ : ∃ y, FI246 121 69 = y := ⟨_, rfl⟩
                      have h254l := congrArg Int32.toInt h254
                      have := i_rng x253
                      show hw zk base _ _ _ _ _ [] _ _
                      refine xw_goto (tgt := 256) (aX12_place 130 rfl) (by decide) ?_
                      exact hw_L (j192 (x253) FI246 (gf_tr ex_rf fr74 f248 rfl rfl rfl) hI247 (show FI246 121 67 = x4 from (gf_at f248 (c121 hS) (s121 hS) rfl (kp76))) (show FI246 121 68 = x94 from (gf_at f248 (c121 hS) (s121 hS) rfl (h95))) (show FI246 121 69 = x253 from h254) (show FI246 121 71 = x12 from (gf_at f248 (c121 hS) (s121 hS) rfl (kp77))) (show FI246 121 73 = x99 from (gf_at f248 (c121 hS) (s121 hS) rfl (h100))) (show FI246 149 (x30).toNatClampNeg = x41 from (gf_at f248 (c149 hS) (s149 hS) rfl (kp78))) (show FI246 149 (x94).toNatClampNeg = x102 from (gf_at f248 (c149 hS) (s149 hS) rfl (h103))) (show FI246 149 = FI 149 from (gf_row f248 (c149 hS) (s149 hS) rfl (rw91))) (show FI246 151 = FI 151 from (gf_row f248 (c151 hS) (s151 hS) rfl (rw92))) (show rl_e (FI246 149) (FI246 121 67) from rl250) (show rl_t (FI246 149) (FL 150) from rl251) (show rl_w (FI246 121 67) (FI246 149) (FL 150) (FI246 151) from rl252) (by show (x253).toInt = 0 → (y3).toInt ≤ 63; omega)) ⟨rfl, rfl, rfl, trivial⟩
              exact hw_L (lp93 ((1001 - (x30).toInt : Int).toNat + 1) ((0 : Int32)) FI62 (gf_tr ex_rf (gf_tr ex_rf (gf_f gf_rf u33 (by decide)) f50 rfl rfl rfl) f64 rfl rfl rfl) hI63 (show FI62 121 67 = x4 from (gf_at f64 (c121 hS) (s121 hS) rfl ((gf_at f50 (c121 hS) (s121 hS) rfl ((up_k u33 (by decide) (h5))))))) (show FI62 121 71 = x12 from (gf_at f64 (c121 hS) (s121 hS) rfl ((gf_at f50 (c121 hS) (s121 hS) rfl ((up_k u33 (by decide) (h13))))))) (show FI62 149 (x30).toNatClampNeg = x41 from (gf_at f64 (c149 hS) (s149 hS) rfl ((gf_at f50 (c149 hS) (s149 hS) rfl (h42))))) (show rl_e (FI62 149) (FI62 121 67) from rl66) (show rl_t (FI62 149) (FL 150) from rl67) (show rl_w (FI62 121 67) (FI62 149) (FL 150) (FI62 151) from rl68) (by have := ((by decide : (0 : Int32).toInt = 0) : ((0 : Int32)).toInt = 0); omega) (by have := ((by decide : (0 : Int32).toInt = 0) : ((0 : Int32)).toInt = 0); have := congrArg Int32.toInt (show FI62 121 68 = x30 from (gf_at f64 (c121 hS) (s121 hS) rfl ((gf_at f50 (c121 hS) (s121 hS) rfl (up_eq u33))))); have := (e31 : (x30).toInt = ((x1).toInt) + (1)); omega) (by have := ((by decide : (0 : Int32).toInt = 0) : ((0 : Int32)).toInt = 0); have := congrArg Int32.toInt (show FI62 121 69 = x7 from (gf_at f64 (c121 hS) (s121 hS) rfl ((gf_at f50 (c121 hS) (s121 hS) rfl ((up_k u33 (by decide) (h8))))))); omega) (by have := ((by decide : (0 : Int32).toInt = 0) : ((0 : Int32)).toInt = 0); have := congrArg Int32.toInt (show FI62 121 67 = x4 from (gf_at f64 (c121 hS) (s121 hS) rfl ((gf_at f50 (c121 hS) (s121 hS) rfl ((up_k u33 (by decide) (h5))))))); have := congrArg Int32.toInt (show FI62 121 68 = x30 from (gf_at f64 (c121 hS) (s121 hS) rfl ((gf_at f50 (c121 hS) (s121 hS) rfl (up_eq u33))))); have := (e31 : (x30).toInt = ((x1).toInt) + (1)); omega) (by have := ((by decide : (0 : Int32).toInt = 0) : ((0 : Int32)).toInt = 0); have := congrArg Int32.toInt (show FI62 121 68 = x30 from (gf_at f64 (c121 hS) (s121 hS) rfl ((gf_at f50 (c121 hS) (s121 hS) rfl (up_eq u33))))); have := (e31 : (x30).toInt = ((x1).toInt) + (1)); omega) (by have := ((by decide : (0 : Int32).toInt = 0) : ((0 : Int32)).toInt = 0); have := congrArg Int32.toInt (show FI62 121 73 = x69 from h70); omega) (by have := ((by decide : (0 : Int32).toInt = 0) : ((0 : Int32)).toInt = 0); have := congrArg Int32.toInt (show FI62 121 68 = x30 from (gf_at f64 (c121 hS) (s121 hS) rfl ((gf_at f50 (c121 hS) (s121 hS) rfl (up_eq u33))))); have := (e31 : (x30).toInt = ((x1).toInt) + (1)); have := congrArg Int32.toInt (show FI62 121 73 = x69 from h70); omega) (by have := ((by decide : (0 : Int32).toInt = 0) : ((0 : Int32)).toInt = 0); have := congrArg Int32.toInt (show FI62 121 73 = x69 from h70); omega) (by have := ((by decide : (0 : Int32).toInt = 0) : ((0 : Int32)).toInt = 0); have := congrArg Int32.toInt (show FI62 121 73 = x69 from h70); omega) (show ∀ i : Nat, (FI 121 68).toInt.toNat < i → i < ((FI62 121 68).toInt).toNat → kf (FI 149) i = 3 from (by have := ((by decide : (0 : Int32).toInt = 0) : ((0 : Int32)).toInt = 0); have := congrArg Int32.toInt (show FI62 121 68 = x30 from (gf_at f64 (c121 hS) (s121 hS) rfl ((gf_at f50 (c121 hS) (s121 hS) rfl (up_eq u33))))); have := (e31 : (x30).toInt = ((x1).toInt) + (1)); exact (fun i h1 h2 => absurd h1 (by omega)))) (show FI62 149 = FI 149 from (gf_row f64 (c149 hS) (s149 hS) rfl ((gf_row f50 (c149 hS) (s149 hS) rfl ((up_row u33 (by decide) (rfl))))))) (show FI62 151 = FI 151 from (gf_row f64 (c151 hS) (s151 hS) rfl ((gf_row f50 (c151 hS) (s151 hS) rfl ((up_row u33 (by decide) (rfl))))))) (by have := ((by decide : (0 : Int32).toInt = 0) : ((0 : Int32)).toInt = 0); have := congrArg Int32.toInt (show FI62 121 68 = x30 from (gf_at f64 (c121 hS) (s121 hS) rfl ((gf_at f50 (c121 hS) (s121 hS) rfl (up_eq u33))))); have := (e31 : (x30).toInt = ((x1).toInt) + (1)); omega)) ⟨rfl, rfl, rfl, trivial⟩
          · refine hw_aloadn (aX12_place 95 rfl) rfl ?_
            refine hw_ic (v := (1 : Int32)) (aX12_place 96 rfl) (by decide) ?_
            refine hw_callV (Bs := [.int ((1 : Int32))]) (rest := []) (aX12_place 97 rfl) wc_RX12_487 (by decide) rfl wi_yX12_fail wv_yX12_fail (c121 hS) (s121 hS) rfl rfl rfl (Nat.le_of_ble_eq_true rfl) (Nat.le_of_ble_eq_true rfl) (n_fail (d := d + 6) hS hF hI37 ((1 : Int32)) (by have := ((by decide : (1 : Int32).toInt = 1) : ((1 : Int32)).toInt = 1); omega)) (fun v255 sv256 p257 => ?_)
            obtain ⟨rfl, FI259, rfl, hI260, f261, t262⟩ := p257
            have rl263 : rl_e (FI259 149) (FI259 121 67) := by rw [show FI259 149 = FI32 149 from gf_row f261 (c149 hS) (s149 hS) rfl rfl, show FI259 121 67 = FI32 121 67 from gf_at f261 (c121 hS) (s121 hS) rfl rfl]; exact rl34
            have rl264 : rl_t (FI259 149) (FL 150) := by rw [show FI259 149 = FI32 149 from gf_row f261 (c149 hS) (s149 hS) rfl rfl]; exact rl35
            have rl265 : rl_w (FI259 121 67) (FI259 149) (FL 150) (FI259 151) := by rw [show FI259 149 = FI32 149 from gf_row f261 (c149 hS) (s149 hS) rfl rfl, show FI259 151 = FI32 151 from gf_row f261 (c151 hS) (s151 hS) rfl rfl, show FI259 121 67 = FI32 121 67 from gf_at f261 (c121 hS) (s121 hS) rfl rfl]; exact rl36
            obtain ⟨x266, h267⟩ : ∃ y, FI259 121 69 = y := ⟨_, rfl⟩
            have h267l := congrArg Int32.toInt h267
            have := i_rng x266
            show hw zk base _ _ _ _ _ [] _ _
            refine hw_aloadn (aX12_place 98 rfl) rfl ?_
            refine hw_sp (v := (158 : Int32)) (aX12_place 99 rfl) (by decide) ?_
            refine hw_callV (Bs := [.int ((158 : Int32))]) (rest := []) (aX12_place 100 rfl) wc_RX12_496 (by decide) rfl wi_yX12_emit wv_yX12_emit (c121 hS) (s121 hS) rfl rfl rfl (Nat.le_of_ble_eq_true rfl) (Nat.le_of_ble_eq_true rfl) (n_emit0 (d := d + 6) hS hF hI260 ((158 : Int32)) (by have := congrArg Int32.toInt (show FI259 121 73 = x9 from (gf_at f261 (c121 hS) (s121 hS) rfl ((up_k u33 (by decide) (h10))))); omega)) (fun v268 sv269 p270 => ?_)
            have := congrArg Int32.toInt (show FI259 121 73 = x9 from (gf_at f261 (c121 hS) (s121 hS) rfl ((up_k u33 (by decide) (h10)))))
            obtain ⟨rfl, FI272, rfl, hI273, f274, t275⟩ := p270
            have rl276 : rl_e (FI272 149) (FI272 121 67) := by rw [show FI272 149 = FI259 149 from gf_row f274 (c149 hS) (s149 hS) rfl rfl, show FI272 121 67 = FI259 121 67 from gf_at f274 (c121 hS) (s121 hS) rfl rfl]; exact rl263
            have rl277 : rl_t (FI272 149) (FL 150) := by rw [show FI272 149 = FI259 149 from gf_row f274 (c149 hS) (s149 hS) rfl rfl]; exact rl264
            have rl278 : rl_w (FI272 121 67) (FI272 149) (FL 150) (FI272 151) := by rw [show FI272 149 = FI259 149 from gf_row f274 (c149 hS) (s149 hS) rfl rfl, show FI272 151 = FI259 151 from gf_row f274 (c151 hS) (s151 hS) rfl rfl, show FI272 121 67 = FI259 121 67 from gf_at f274 (c121 hS) (s121 hS) rfl rfl]; exact rl265
            obtain ⟨x279, h280⟩ : ∃ y, FI272 121 73 = y := ⟨_, rfl⟩
            have h280l := congrArg Int32.toInt h280
            have b281 := gI_121_73 hI273; rw [h280] at b281
            show hw zk base _ _ _ _ _ [] _ _
            refine hw_aloadn (aX12_place 101 rfl) rfl ?_
            refine hw_get (v := .int (x279)) (aX12_place 102 rfl) wf_RX12_493 (c121 hS) (s121 hS) (by decide) (congrArg Value.int (show FI272 121 73 = x279 from h280)) ?_
            refine xw_istoren (L2 := [(2, .int (x279)), (1, .int (x28)), (0, .ref (base + 121))]) (aX12_place 103 rfl) (by decide) rfl ?_
            refine hw_aloadn (aX12_place 104 rfl) rfl ?_
            refine hw_ic (v := (0 : Int32)) (aX12_place 105 rfl) (by decide) ?_
            refine hw_callV (Bs := [.int ((0 : Int32))]) (rest := []) (aX12_place 106 rfl) wc_RX12_496 (by decide) rfl wi_yX12_emit wv_yX12_emit (c121 hS) (s121 hS) rfl rfl rfl (Nat.le_of_ble_eq_true rfl) (Nat.le_of_ble_eq_true rfl) (n_emit0 (d := d + 6) hS hF hI273 ((0 : Int32)) (by have := congrArg Int32.toInt (show FI272 121 73 = x279 from h280); omega)) (fun v282 sv283 p284 => ?_)
            have := congrArg Int32.toInt (show FI272 121 73 = x279 from h280)
            obtain ⟨rfl, FI286, rfl, hI287, f288, t289⟩ := p284
            have rl290 : rl_e (FI286 149) (FI286 121 67) := by rw [show FI286 149 = FI272 149 from gf_row f288 (c149 hS) (s149 hS) rfl rfl, show FI286 121 67 = FI272 121 67 from gf_at f288 (c121 hS) (s121 hS) rfl rfl]; exact rl276
            have rl291 : rl_t (FI286 149) (FL 150) := by rw [show FI286 149 = FI272 149 from gf_row f288 (c149 hS) (s149 hS) rfl rfl]; exact rl277
            have rl292 : rl_w (FI286 121 67) (FI286 149) (FL 150) (FI286 151) := by rw [show FI286 149 = FI272 149 from gf_row f288 (c149 hS) (s149 hS) rfl rfl, show FI286 151 = FI272 151 from gf_row f288 (c151 hS) (s151 hS) rfl rfl, show FI286 121 67 = FI272 121 67 from gf_at f288 (c121 hS) (s121 hS) rfl rfl]; exact rl278
            obtain ⟨x293, h294⟩ : ∃ y, FI286 121 73 = y := ⟨_, rfl⟩
            have h294l := congrArg Int32.toInt h294
            have b295 := gI_121_73 hI287; rw [h294] at b295
            show hw zk base _ _ _ _ _ [] _ _
            refine hw_ic (v := (0 : Int32)) (aX12_place 107 rfl) (by decide) ?_
            refine xw_istoren (L2 := [(3, .int ((0 : Int32))), (2, .int (x279)), (1, .int (x28)), (0, .ref (base + 121))]) (aX12_place 108 rfl) (by decide) rfl ?_
            refine hw_aloadn (aX12_place 109 rfl) rfl ?_
            refine hw_get (v := .int (x266)) (aX12_place 110 rfl) wf_RX12_475 (c121 hS) (s121 hS) (by decide) (congrArg Value.int (show FI286 121 69 = x266 from (gf_at f288 (c121 hS) (s121 hS) rfl ((gf_at f274 (c121 hS) (s121 hS) rfl (h267)))))) ?_
            refine hw_ifne (tgt := 287) (aX12_place 111 rfl) (by decide) rfl (fun cd296 => ?_) (fun cd296 => ?_)
            · refine hw_aloadn (aX12_place 156 rfl) rfl ?_
              refine hw_get (v := .int (x293)) (aX12_place 157 rfl) wf_RX12_493 (c121 hS) (s121 hS) (by decide) (congrArg Value.int (show FI286 121 73 = x293 from h294)) ?_
              refine hw_sp (v := (4000 : Int32)) (aX12_place 158 rfl) (by decide) ?_
              refine hw_icgt (tgt := 304) (aX12_place 159 rfl) (by decide) rfl (by decide : (4000 : Int32).toInt = 4000) (fun cd297 => ?_) (fun cd297 => ?_)
              · refine xw_vret (aX12_place 165 rfl) rfl ?_
                exact ⟨rfl, FI286, rfl, hI287, (gf_tr ex_rf (gf_tr ex_rf (gf_tr ex_rf (gf_f gf_rf u33 (by decide)) f261 rfl rfl rfl) f274 rfl rfl rfl) f288 rfl rfl rfl), (by have := congrArg Int32.toInt (show FI286 121 67 = x4 from (gf_at f288 (c121 hS) (s121 hS) rfl ((gf_at f274 (c121 hS) (s121 hS) rfl ((gf_at f261 (c121 hS) (s121 hS) rfl ((up_k u33 (by decide) (h5))))))))); have := congrArg Int32.toInt (show FI286 121 68 = x30 from (gf_at f288 (c121 hS) (s121 hS) rfl ((gf_at f274 (c121 hS) (s121 hS) rfl ((gf_at f261 (c121 hS) (s121 hS) rfl (up_eq u33))))))); have := (e31 : (x30).toInt = ((x1).toInt) + (1)); omega), (by have := congrArg Int32.toInt (show FI286 121 68 = x30 from (gf_at f288 (c121 hS) (s121 hS) rfl ((gf_at f274 (c121 hS) (s121 hS) rfl ((gf_at f261 (c121 hS) (s121 hS) rfl (up_eq u33))))))); have := (e31 : (x30).toInt = ((x1).toInt) + (1)); omega), (by have := congrArg Int32.toInt (show FI286 121 68 = x30 from (gf_at f288 (c121 hS) (s121 hS) rfl ((gf_at f274 (c121 hS) (s121 hS) rfl ((gf_at f261 (c121 hS) (s121 hS) rfl (up_eq u33))))))); have := (e31 : (x30).toInt = ((x1).toInt) + (1)); have := congrArg Int32.toInt (show FI286 121 73 = x293 from h294); omega), (by have := congrArg Int32.toInt (show FI286 121 73 = x293 from h294); omega), (by have := congrArg Int32.toInt (show FI286 121 71 = x12 from (gf_at f288 (c121 hS) (s121 hS) rfl ((gf_at f274 (c121 hS) (s121 hS) rfl ((gf_at f261 (c121 hS) (s121 hS) rfl ((up_k u33 (by decide) (h13))))))))); omega), (by have := congrArg Int32.toInt (show FI286 121 69 = x266 from (gf_at f288 (c121 hS) (s121 hS) rfl ((gf_at f274 (c121 hS) (s121 hS) rfl (h267))))); exact fun h => absurd h (by omega)), (by have := congrArg Int32.toInt (show FI286 121 69 = x266 from (gf_at f288 (c121 hS) (s121 hS) rfl ((gf_at f274 (c121 hS) (s121 hS) rfl (h267))))); exact fun h => absurd h (by omega)), (by have := congrArg Int32.toInt (show FI286 121 69 = x266 from (gf_at f288 (c121 hS) (s121 hS) rfl ((gf_at f274 (c121 hS) (s121 hS) rfl (h267))))); exact fun h => absurd h (by omega))⟩
              · refine hw_aloadn (aX12_place 160 rfl) rfl ?_
                refine hw_get (v := .ref (base + 154)) (aX12_place 161 rfl) wf_RX12_120 (c121 hS) (s121 hS) (by decide) (congrArg (fun r => va_rf (h_rf base r)) (r121_72 hF)) ?_
                refine xw_iloadn (aX12_place 162 rfl) rfl ?_
                refine xw_iloadn (aX12_place 163 rfl) rfl ?_
                refine hv_iast (k := (x279).toNatClampNeg) (aX12_place 164 rfl) (c154 hS) (s154 hS) (h_in rfl (by omega) (by omega)) rfl (fun FI298 u299 => ?_)
                have rl300 : rl_e (FI298 149) (FI298 121 67) := by rw [show FI298 149 = FI286 149 from up_row u299 (by decide) rfl, show FI298 121 67 = FI286 121 67 from up_c u299 (by decide) rfl]; exact rl290
                have rl301 : rl_t (FI298 149) (FL 150) := by rw [show FI298 149 = FI286 149 from up_row u299 (by decide) rfl]; exact rl291
                have rl302 : rl_w (FI298 121 67) (FI298 149) (FL 150) (FI298 151) := by rw [show FI298 149 = FI286 149 from up_row u299 (by decide) rfl, show FI298 151 = FI286 151 from up_row u299 (by decide) rfl, show FI298 121 67 = FI286 121 67 from up_c u299 (by decide) rfl]; exact rl292
                have hI303 : g_I FI298 := gU_154 hI287 u299 (by have := ((by decide : (0 : Int32).toInt = 0) : ((0 : Int32)).toInt = 0); omega) (by have := ((by decide : (0 : Int32).toInt = 0) : ((0 : Int32)).toInt = 0); omega)
                refine xw_vret (aX12_place 165 rfl) rfl ?_
                exact ⟨rfl, FI298, rfl, hI303, (gf_a (gf_tr ex_rf (gf_tr ex_rf (gf_tr ex_rf (gf_f gf_rf u33 (by decide)) f261 rfl rfl rfl) f274 rfl rfl rfl) f288 rfl rfl rfl) u299 (by decide)), (by have := congrArg Int32.toInt (show FI298 121 67 = x4 from (up_c u299 (by decide) ((gf_at f288 (c121 hS) (s121 hS) rfl ((gf_at f274 (c121 hS) (s121 hS) rfl ((gf_at f261 (c121 hS) (s121 hS) rfl ((up_k u33 (by decide) (h5))))))))))); have := congrArg Int32.toInt (show FI298 121 68 = x30 from (up_c u299 (by decide) ((gf_at f288 (c121 hS) (s121 hS) rfl ((gf_at f274 (c121 hS) (s121 hS) rfl ((gf_at f261 (c121 hS) (s121 hS) rfl (up_eq u33))))))))); have := (e31 : (x30).toInt = ((x1).toInt) + (1)); omega), (by have := congrArg Int32.toInt (show FI298 121 68 = x30 from (up_c u299 (by decide) ((gf_at f288 (c121 hS) (s121 hS) rfl ((gf_at f274 (c121 hS) (s121 hS) rfl ((gf_at f261 (c121 hS) (s121 hS) rfl (up_eq u33))))))))); have := (e31 : (x30).toInt = ((x1).toInt) + (1)); omega), (by have := congrArg Int32.toInt (show FI298 121 68 = x30 from (up_c u299 (by decide) ((gf_at f288 (c121 hS) (s121 hS) rfl ((gf_at f274 (c121 hS) (s121 hS) rfl ((gf_at f261 (c121 hS) (s121 hS) rfl (up_eq u33))))))))); have := (e31 : (x30).toInt = ((x1).toInt) + (1)); have := congrArg Int32.toInt (show FI298 121 73 = x293 from (up_c u299 (by decide) (h294))); omega), (by have := congrArg Int32.toInt (show FI298 121 73 = x293 from (up_c u299 (by decide) (h294))); omega), (by have := congrArg Int32.toInt (show FI298 121 71 = x12 from (up_c u299 (by decide) ((gf_at f288 (c121 hS) (s121 hS) rfl ((gf_at f274 (c121 hS) (s121 hS) rfl ((gf_at f261 (c121 hS) (s121 hS) rfl ((up_k u33 (by decide) (h13))))))))))); omega), (by have := congrArg Int32.toInt (show FI298 121 69 = x266 from (up_c u299 (by decide) ((gf_at f288 (c121 hS) (s121 hS) rfl ((gf_at f274 (c121 hS) (s121 hS) rfl (h267))))))); exact fun h => absurd h (by omega)), (by have := congrArg Int32.toInt (show FI298 121 69 = x266 from (up_c u299 (by decide) ((gf_at f288 (c121 hS) (s121 hS) rfl ((gf_at f274 (c121 hS) (s121 hS) rfl (h267))))))); exact fun h => absurd h (by omega)), (by have := congrArg Int32.toInt (show FI298 121 69 = x266 from (up_c u299 (by decide) ((gf_at f288 (c121 hS) (s121 hS) rfl ((gf_at f274 (c121 hS) (s121 hS) rfl (h267))))))); exact fun h => absurd h (by omega))⟩
            · omega
      · refine hw_aloadn (aX12_place 79 rfl) rfl ?_
        have := congrArg Int32.toInt (show FI32 121 68 = x30 from up_eq u33)
        have := congrArg Int32.toInt (show FI32 121 71 = x12 from (up_k u33 (by decide) (h13)))
        have := congrArg Int32.toInt (show FI32 121 73 = x9 from (up_k u33 (by decide) (h10)))
        refine hw_callV (Bs := []) (rest := []) (aX12_place 80 rfl) wc_RX12_553 (by decide) rfl wi_yX12_chosen wv_yX12_chosen (c121 hS) (s121 hS) rfl rfl rfl (Nat.le_of_ble_eq_true rfl) (Nat.le_of_ble_eq_true rfl) (n_chosen (d := d) hS hF hI37 (by have := congrArg Int32.toInt (show FI32 121 68 = x30 from up_eq u33); have := (e31 : (x30).toInt = ((x1).toInt) + (1)); have := congrArg Int32.toInt (show FI32 121 67 = x4 from (up_k u33 (by decide) (h5))); omega) (by have := congrArg Int32.toInt (show FI32 121 73 = x9 from (up_k u33 (by decide) (h10))); have := congrArg Int32.toInt (show FI32 121 68 = x30 from up_eq u33); have := (e31 : (x30).toInt = ((x1).toInt) + (1)); omega) (by have := congrArg Int32.toInt (show FI32 121 69 = x7 from (up_k u33 (by decide) (h8))); have := congrArg Int32.toInt (show FI32 121 71 = x12 from (up_k u33 (by decide) (h13))); have := congrArg Int32.toInt (show FI32 121 71 = x12 from (up_k u33 (by decide) (h13))); omega) (by have := congrArg Int32.toInt (show FI32 121 71 = x12 from (up_k u33 (by decide) (h13))); have := congrArg Int32.toInt (show FI32 121 71 = x12 from (up_k u33 (by decide) (h13))); omega) (show rl_e (FI32 149) (FI32 121 67) from rl34) (show rl_t (FI32 149) (FL 150) from rl35) (show rl_w (FI32 121 67) (FI32 149) (FL 150) (FI32 151) from rl36)) (fun v304 sv305 p306 => ?_)
        have := congrArg Int32.toInt (show FI32 121 68 = x30 from up_eq u33)
        have := (e31 : (x30).toInt = ((x1).toInt) + (1))
        have := congrArg Int32.toInt (show FI32 121 73 = x9 from (up_k u33 (by decide) (h10)))
        have := congrArg Int32.toInt (show FI32 121 68 = x30 from up_eq u33)
        have := (e31 : (x30).toInt = ((x1).toInt) + (1))
        have := congrArg Int32.toInt (show FI32 121 73 = x9 from (up_k u33 (by decide) (h10)))
        obtain ⟨rfl, FI308, rfl, hI309, f310, t311, t312, t313, t314, t315, u316, u317, u318⟩ := p306
        have rl319 : rl_e (FI308 149) (FI308 121 67) := by rw [show FI308 149 = FI32 149 from gf_row f310 (c149 hS) (s149 hS) rfl rfl, show FI308 121 67 = FI32 121 67 from gf_at f310 (c121 hS) (s121 hS) rfl rfl]; exact rl34
        have rl320 : rl_t (FI308 149) (FL 150) := by rw [show FI308 149 = FI32 149 from gf_row f310 (c149 hS) (s149 hS) rfl rfl]; exact rl35
        have rl321 : rl_w (FI308 121 67) (FI308 149) (FL 150) (FI308 151) := by rw [show FI308 149 = FI32 149 from gf_row f310 (c149 hS) (s149 hS) rfl rfl, show FI308 151 = FI32 151 from gf_row f310 (c151 hS) (s151 hS) rfl rfl, show FI308 121 67 = FI32 121 67 from gf_at f310 (c121 hS) (s121 hS) rfl rfl]; exact rl36
        obtain ⟨x322, h323⟩ : ∃ y, FI308 121 68 = y := ⟨_, rfl⟩
        have h323l := congrArg Int32.toInt h323
        have b324 := gI_121_68 hI309; rw [h323] at b324
        have := congrArg Int32.toInt (show FI308 121 67 = x4 from (gf_at f310 (c121 hS) (s121 hS) rfl ((up_k u33 (by decide) (h5)))))
        obtain ⟨x325, h326⟩ : ∃ y, FI308 121 73 = y := ⟨_, rfl⟩
        have h326l := congrArg Int32.toInt h326
        have b327 := gI_121_73 hI309; rw [h326] at b327
        obtain ⟨x328, h329⟩ : ∃ y, FI308 121 90 = y := ⟨_, rfl⟩
        have h329l := congrArg Int32.toInt h329
        have b330 := gI_121_90 hI309; rw [h329] at b330
        obtain ⟨x331, h332⟩ : ∃ y, FI308 121 71 = y := ⟨_, rfl⟩
        have h332l := congrArg Int32.toInt h332
        have := i_rng x331
        show hw zk base _ _ _ _ _ [] _ _
        have hacc := u316; rw [show FI32 149 = FI 149 from (up_row u33 (by decide) (rfl)), show (FI32 121 68).toInt.toNat = (FI 121 68).toInt.toNat + 1 by omega] at hacc
        have ho71 := u317
        have hcw := u318; rw [show FI32 151 = FI 151 from (up_row u33 (by decide) (rfl))] at hcw
        have := congrArg Int32.toInt (show FI308 121 68 = x322 from h323)
        have := congrArg Int32.toInt (show FI308 121 73 = x325 from h326)
        obtain ⟨x333, h334⟩ : ∃ y, FI308 121 69 = y := ⟨_, rfl⟩
        have h334l := congrArg Int32.toInt h334
        have := i_rng x333
        have := congrArg Int32.toInt (show FI308 121 69 = x333 from h334)
        refine hw_aloadn (aX12_place 81 rfl) rfl ?_
        refine hw_sp (v := (159 : Int32)) (aX12_place 82 rfl) (by decide) ?_
        refine hw_callV (Bs := [.int ((159 : Int32))]) (rest := []) (aX12_place 83 rfl) wc_RX12_496 (by decide) rfl wi_yX12_emit wv_yX12_emit (c121 hS) (s121 hS) rfl rfl rfl (Nat.le_of_ble_eq_true rfl) (Nat.le_of_ble_eq_true rfl) (n_emit0 (d := d + 6) hS hF hI309 ((159 : Int32)) (by have := congrArg Int32.toInt (show FI308 121 73 = x325 from h326); omega)) (fun v335 sv336 p337 => ?_)
        have := congrArg Int32.toInt (show FI308 121 73 = x325 from h326)
        obtain ⟨rfl, FI339, rfl, hI340, f341, t342⟩ := p337
        have rl343 : rl_e (FI339 149) (FI339 121 67) := by rw [show FI339 149 = FI308 149 from gf_row f341 (c149 hS) (s149 hS) rfl rfl, show FI339 121 67 = FI308 121 67 from gf_at f341 (c121 hS) (s121 hS) rfl rfl]; exact rl319
        have rl344 : rl_t (FI339 149) (FL 150) := by rw [show FI339 149 = FI308 149 from gf_row f341 (c149 hS) (s149 hS) rfl rfl]; exact rl320
        have rl345 : rl_w (FI339 121 67) (FI339 149) (FL 150) (FI339 151) := by rw [show FI339 149 = FI308 149 from gf_row f341 (c149 hS) (s149 hS) rfl rfl, show FI339 151 = FI308 151 from gf_row f341 (c151 hS) (s151 hS) rfl rfl, show FI339 121 67 = FI308 121 67 from gf_at f341 (c121 hS) (s121 hS) rfl rfl]; exact rl321
        obtain ⟨x346, h347⟩ : ∃ y, FI339 121 73 = y := ⟨_, rfl⟩
        have h347l := congrArg Int32.toInt h347
        have b348 := gI_121_73 hI340; rw [h347] at b348
        show hw zk base _ _ _ _ _ [] _ _
        refine xw_goto (tgt := 304) (aX12_place 84 rfl) (by decide) ?_
        refine xw_vret (aX12_place 165 rfl) rfl ?_
        exact ⟨rfl, FI339, rfl, hI340, (gf_tr ex_rf (gf_tr ex_rf (gf_f gf_rf u33 (by decide)) f310 rfl rfl rfl) f341 rfl rfl rfl), (by have := congrArg Int32.toInt (show FI339 121 67 = x4 from (gf_at f341 (c121 hS) (s121 hS) rfl ((gf_at f310 (c121 hS) (s121 hS) rfl ((up_k u33 (by decide) (h5))))))); have := congrArg Int32.toInt (show FI339 121 68 = x322 from (gf_at f341 (c121 hS) (s121 hS) rfl (h323))); omega), (by have := congrArg Int32.toInt (show FI339 121 68 = x322 from (gf_at f341 (c121 hS) (s121 hS) rfl (h323))); omega), (by have := congrArg Int32.toInt (show FI339 121 68 = x322 from (gf_at f341 (c121 hS) (s121 hS) rfl (h323))); have := congrArg Int32.toInt (show FI339 121 73 = x346 from h347); omega), (by have := congrArg Int32.toInt (show FI339 121 73 = x346 from h347); omega), (by have := congrArg Int32.toInt (show FI339 121 71 = x331 from (gf_at f341 (c121 hS) (s121 hS) rfl (h332))); omega), (by have := congrArg Int32.toInt (show FI339 121 68 = x322 from (gf_at f341 (c121 hS) (s121 hS) rfl (h323))); have := congrArg Int32.toInt (show FI339 121 69 = x333 from (gf_at f341 (c121 hS) (s121 hS) rfl (h334))); intro h69; rw [show FI339 121 68 = FI308 121 68 from ((gf_at f341 (c121 hS) (s121 hS) rfl (h323))).trans (h323).symm]; exact Or.inr (Or.inr (Or.inl ⟨hnb, by omega, hacc (by omega)⟩))), (by have := congrArg Int32.toInt (show FI339 121 69 = x333 from (gf_at f341 (c121 hS) (s121 hS) rfl (h334))); have := congrArg Int32.toInt (show FI339 121 71 = x331 from (gf_at f341 (c121 hS) (s121 hS) rfl (h332))); intro h69; have := ho71 (by omega); omega), (by have := congrArg Int32.toInt (show FI339 121 68 = x322 from (gf_at f341 (c121 hS) (s121 hS) rfl (h323))); have := congrArg Int32.toInt (show FI339 121 69 = x333 from (gf_at f341 (c121 hS) (s121 hS) rfl (h334))); have := congrArg Int32.toInt (show FI339 121 73 = x346 from h347); intro h69; have := wp_n rel_wh (t := FI 121 68) (u := FI32 121 68) (by omega) (by omega) (by omega); have := wp_n rel_wh (t := FI308 121 68) (u := FI339 121 68) (by omega) (by omega) (by omega); have := hcw (by omega); omega)⟩
    · refine hw_aloadn (aX12_place 33 rfl) rfl ?_
      refine hw_get (v := .ref (base + 149)) (aX12_place 34 rfl) wf_RX12_105 (c121 hS) (s121 hS) (by decide) (congrArg (fun r => va_rf (h_rf base r)) (r121_62 hF)) ?_
      refine hw_aloadn (aX12_place 35 rfl) rfl ?_
      refine hw_get (v := .int (x30)) (aX12_place 36 rfl) wf_RX12_478 (c121 hS) (s121 hS) (by decide) (congrArg Value.int (show FI32 121 68 = x30 from up_eq u33)) ?_
      obtain ⟨x349, h350⟩ : ∃ y, FI32 149 (x30).toNatClampNeg = y := ⟨_, rfl⟩
      have h350l := congrArg Int32.toInt h350
      have := i_rng x349
      refine hw_iald (v := x349) (aX12_place 37 rfl) (c149 hS) (s149 hS) (h_in e31 (by omega) (by omega)) (show FI32 149 (x30).toNatClampNeg = x349 from h350) ?_
      refine hw_ic (v := (3 : Int32)) (aX12_place 38 rfl) (by decide) ?_
      refine hw_iceq (tgt := 80) (aX12_place 39 rfl) (by decide) rfl (by decide : (3 : Int32).toInt = 3) (fun cd351 => ?_) (fun cd351 => ?_)
      · refine hw_aloadn (aX12_place 44 rfl) rfl ?_
        refine hw_get (v := .ref (base + 150)) (aX12_place 45 rfl) wf_RX12_108 (c121 hS) (s121 hS) (by decide) (congrArg (fun r => va_rf (h_rf base r)) (r121_63 hF)) ?_
        refine hw_aloadn (aX12_place 46 rfl) rfl ?_
        refine hw_get (v := .int (x30)) (aX12_place 47 rfl) wf_RX12_478 (c121 hS) (s121 hS) (by decide) (congrArg Value.int (show FI32 121 68 = x30 from up_eq u33)) ?_
        obtain ⟨x352, h353⟩ : ∃ y, FL 150 (x30).toNatClampNeg = y := ⟨_, rfl⟩
        have h353l := congrArg Int64.toInt h353
        have := l_rng x352
        refine hw_lald (v := x352) (aX12_place 48 rfl) (c150 hS) (s150 hS) (h_in e31 (by omega) (by omega)) (show FL 150 (x30).toNatClampNeg = x352 from h353) ?_
        refine xw_ldc2 (aX12_place 49 rfl) wk_RX12_310 ?_
        refine hw_lcle (tgt := 101) (aX12_place 50 rfl) (aX12_place 51 rfl) (by decide) rfl (by decide : (31 : Int64).toInt = 31) (fun cd354 => ?_) (fun cd354 => ?_)
        · refine hw_aloadn (aX12_place 55 rfl) rfl ?_
          refine hw_get (v := .int (x7)) (aX12_place 56 rfl) wf_RX12_475 (c121 hS) (s121 hS) (by decide) (congrArg Value.int (show FI32 121 69 = x7 from (up_k u33 (by decide) (h8)))) ?_
          refine hw_ifeq (tgt := 109) (aX12_place 57 rfl) (by decide) rfl (fun cd355 => ?_) (fun cd355 => ?_)
          · have kq356 : kf (FI 149) ((FI 121 68).toInt.toNat + 1) = 3 := (by { have e : (FI 121 68).toInt.toNat + 1 = (x30).toNatClampNeg := by { rw [i_cl (x := x30) rfl]; try omega }; show (FI 149 ((FI 121 68).toInt.toNat + 1)).toInt = 3; rw [e, ← (show FI32 149 = FI 149 from (up_row u33 (by decide) (rfl))), show FI32 149 (x30).toNatClampNeg = x349 from h350]; try omega })
            have kq357 : wf (FL 150) ((FI 121 68).toInt.toNat + 1) ≤ 31 := (by { have e : (FI 121 68).toInt.toNat + 1 = (x30).toNatClampNeg := by { rw [i_cl (x := x30) rfl]; try omega }; show (FL 150 ((FI 121 68).toInt.toNat + 1)).toInt ≤ 31; rw [e, show FL 150 (x30).toNatClampNeg = x352 from h353]; try omega })
            have := congrArg Int32.toInt (show FI32 121 67 = x4 from (up_k u33 (by decide) (h5)))
            have hne357 := rl_e_ne rl34 (t := x30) (by omega)
            refine hw_aloadn (aX12_place 59 rfl) rfl ?_
            refine hw_bp (v := (80 : Int32)) (aX12_place 60 rfl) (by decide) ?_
            refine hw_aloadn (aX12_place 61 rfl) rfl ?_
            refine hw_get (v := .ref (base + 150)) (aX12_place 62 rfl) wf_RX12_108 (c121 hS) (s121 hS) (by decide) (congrArg (fun r => va_rf (h_rf base r)) (r121_63 hF)) ?_
            refine hw_aloadn (aX12_place 63 rfl) rfl ?_
            refine hw_get (v := .int (x30)) (aX12_place 64 rfl) wf_RX12_478 (c121 hS) (s121 hS) (by decide) (congrArg Value.int (show FI32 121 68 = x30 from up_eq u33)) ?_
            refine hw_lald (v := x352) (aX12_place 65 rfl) (c150 hS) (s150 hS) (h_in e31 (by omega) (by omega)) (show FL 150 (x30).toNatClampNeg = x352 from h353) ?_
            refine xw_l2i (aX12_place 66 rfl) ?_
            refine hw_ti (fun x358 => ?_)
            have b359 := i_rng x358
            refine xw_iadd (aX12_place 67 rfl) ?_
            refine hw_ti (fun x360 => ?_)
            have b361 := i_rng x360
            refine hw_callV (Bs := [.int (x360)]) (rest := []) (aX12_place 68 rfl) wc_RX12_496 (by decide) rfl wi_yX12_emit wv_yX12_emit (c121 hS) (s121 hS) rfl rfl rfl (Nat.le_of_ble_eq_true rfl) (Nat.le_of_ble_eq_true rfl) (n_emit0 (d := d + 6) hS hF hI37 (x360) (by have := congrArg Int32.toInt (show FI32 121 73 = x9 from (up_k u33 (by decide) (h10))); omega)) (fun v362 sv363 p364 => ?_)
            have := congrArg Int32.toInt (show FI32 121 73 = x9 from (up_k u33 (by decide) (h10)))
            obtain ⟨rfl, FI366, rfl, hI367, f368, t369⟩ := p364
            have rl370 : rl_e (FI366 149) (FI366 121 67) := by rw [show FI366 149 = FI32 149 from gf_row f368 (c149 hS) (s149 hS) rfl rfl, show FI366 121 67 = FI32 121 67 from gf_at f368 (c121 hS) (s121 hS) rfl rfl]; exact rl34
            have rl371 : rl_t (FI366 149) (FL 150) := by rw [show FI366 149 = FI32 149 from gf_row f368 (c149 hS) (s149 hS) rfl rfl]; exact rl35
            have rl372 : rl_w (FI366 121 67) (FI366 149) (FL 150) (FI366 151) := by rw [show FI366 149 = FI32 149 from gf_row f368 (c149 hS) (s149 hS) rfl rfl, show FI366 151 = FI32 151 from gf_row f368 (c151 hS) (s151 hS) rfl rfl, show FI366 121 67 = FI32 121 67 from gf_at f368 (c121 hS) (s121 hS) rfl rfl]; exact rl36
            obtain ⟨x373, h374⟩ : ∃ y, FI366 121 73 = y := ⟨_, rfl⟩
            have h374l := congrArg Int32.toInt h374
            have b375 := gI_121_73 hI367; rw [h374] at b375
            show hw zk base _ _ _ _ _ [] _ _
            refine hw_aloadn (aX12_place 69 rfl) rfl ?_
            refine hw_aloadn (aX12_place 70 rfl) rfl ?_
            refine hw_get (v := .int (x30)) (aX12_place 71 rfl) wf_RX12_478 (c121 hS) (s121 hS) (by decide) (congrArg Value.int (show FI366 121 68 = x30 from (gf_at f368 (c121 hS) (s121 hS) rfl (up_eq u33)))) ?_
            refine hw_ic (v := (1 : Int32)) (aX12_place 72 rfl) (by decide) ?_
            refine xw_iadd (aX12_place 73 rfl) ?_
            refine hw_tie (A := (((x1).toInt) + (1)) + (1)) (i_add e31 (by decide : (1 : Int32).toInt = 1) (by omega) (by omega)) (fun x376 e377 => ?_)
            refine hv_puti (aX12_place 74 rfl) wf_RX12_478 (c121 hS) (s121 hS) (by decide) rfl rfl (fun FI378 u379 => ?_)
            have rl380 : rl_e (FI378 149) (FI378 121 67) := by rw [show FI378 149 = FI366 149 from up_row u379 (by decide) rfl, show FI378 121 67 = FI366 121 67 from up_k u379 (by decide) rfl]; exact rl370
            have rl381 : rl_t (FI378 149) (FL 150) := by rw [show FI378 149 = FI366 149 from up_row u379 (by decide) rfl]; exact rl371
            have rl382 : rl_w (FI378 121 67) (FI378 149) (FL 150) (FI378 151) := by rw [show FI378 149 = FI366 149 from up_row u379 (by decide) rfl, show FI378 151 = FI366 151 from up_row u379 (by decide) rfl, show FI378 121 67 = FI366 121 67 from up_k u379 (by decide) rfl]; exact rl372
            have hI383 : g_I FI378 := gU_121_68 hI367 u379 (by have := (e377 : (x376).toInt = (((x1).toInt) + (1)) + (1)); omega) (by have := (e377 : (x376).toInt = (((x1).toInt) + (1)) + (1)); omega)
            refine xw_goto (tgt := 304) (aX12_place 75 rfl) (by decide) ?_
            refine xw_vret (aX12_place 165 rfl) rfl ?_
            exact ⟨rfl, FI378, rfl, hI383, (gf_f (gf_tr ex_rf (gf_f gf_rf u33 (by decide)) f368 rfl rfl rfl) u379 (by decide)), (by have := congrArg Int32.toInt (show FI378 121 67 = x4 from (up_k u379 (by decide) ((gf_at f368 (c121 hS) (s121 hS) rfl ((up_k u33 (by decide) (h5))))))); have := congrArg Int32.toInt (show FI378 121 68 = x376 from up_eq u379); have := (e377 : (x376).toInt = (((x1).toInt) + (1)) + (1)); omega), (by have := congrArg Int32.toInt (show FI378 121 68 = x376 from up_eq u379); have := (e377 : (x376).toInt = (((x1).toInt) + (1)) + (1)); omega), (by have := congrArg Int32.toInt (show FI378 121 68 = x376 from up_eq u379); have := (e377 : (x376).toInt = (((x1).toInt) + (1)) + (1)); have := congrArg Int32.toInt (show FI378 121 73 = x373 from (up_k u379 (by decide) (h374))); omega), (by have := congrArg Int32.toInt (show FI378 121 73 = x373 from (up_k u379 (by decide) (h374))); omega), (by have := congrArg Int32.toInt (show FI378 121 71 = x12 from (up_k u379 (by decide) ((gf_at f368 (c121 hS) (s121 hS) rfl ((up_k u33 (by decide) (h13))))))); omega), (by have := congrArg Int32.toInt (show FI378 121 68 = x376 from up_eq u379); have := (e377 : (x376).toInt = (((x1).toInt) + (1)) + (1)); have := congrArg Int32.toInt (show FI378 121 69 = x7 from (up_k u379 (by decide) ((gf_at f368 (c121 hS) (s121 hS) rfl ((up_k u33 (by decide) (h8))))))); intro h69; exact Or.inr (Or.inl ⟨hnb, by omega, kq356, kq357, by omega⟩)), (by have := congrArg Int32.toInt (show FI378 121 71 = x12 from (up_k u379 (by decide) ((gf_at f368 (c121 hS) (s121 hS) rfl ((up_k u33 (by decide) (h13))))))); exact fun _ => by omega), (by have := congrArg Int32.toInt (show FI378 121 68 = x376 from up_eq u379); have := (e377 : (x376).toInt = (((x1).toInt) + (1)) + (1)); have := congrArg Int32.toInt (show FI378 121 69 = x7 from (up_k u379 (by decide) ((gf_at f368 (c121 hS) (s121 hS) rfl ((up_k u33 (by decide) (h8))))))); have := congrArg Int32.toInt (show FI378 121 73 = x373 from (up_k u379 (by decide) (h374))); intro h69; have := wp_n rel_wh (t := FI 121 68) (u := FI378 121 68) (by omega) (by omega) (by omega); omega)⟩
          · omega
        · refine hw_aloadn (aX12_place 52 rfl) rfl ?_
          refine hw_ic (v := (2 : Int32)) (aX12_place 53 rfl) (by decide) ?_
          refine hw_callV (Bs := [.int ((2 : Int32))]) (rest := []) (aX12_place 54 rfl) wc_RX12_487 (by decide) rfl wi_yX12_fail wv_yX12_fail (c121 hS) (s121 hS) rfl rfl rfl (Nat.le_of_ble_eq_true rfl) (Nat.le_of_ble_eq_true rfl) (n_fail (d := d + 6) hS hF hI37 ((2 : Int32)) (by have := ((by decide : (2 : Int32).toInt = 2) : ((2 : Int32)).toInt = 2); omega)) (fun v384 sv385 p386 => ?_)
          obtain ⟨rfl, FI388, rfl, hI389, f390, t391⟩ := p386
          have rl392 : rl_e (FI388 149) (FI388 121 67) := by rw [show FI388 149 = FI32 149 from gf_row f390 (c149 hS) (s149 hS) rfl rfl, show FI388 121 67 = FI32 121 67 from gf_at f390 (c121 hS) (s121 hS) rfl rfl]; exact rl34
          have rl393 : rl_t (FI388 149) (FL 150) := by rw [show FI388 149 = FI32 149 from gf_row f390 (c149 hS) (s149 hS) rfl rfl]; exact rl35
          have rl394 : rl_w (FI388 121 67) (FI388 149) (FL 150) (FI388 151) := by rw [show FI388 149 = FI32 149 from gf_row f390 (c149 hS) (s149 hS) rfl rfl, show FI388 151 = FI32 151 from gf_row f390 (c151 hS) (s151 hS) rfl rfl, show FI388 121 67 = FI32 121 67 from gf_at f390 (c121 hS) (s121 hS) rfl rfl]; exact rl36
          obtain ⟨x395, h396⟩ : ∃ y, FI388 121 69 = y := ⟨_, rfl⟩
          have h396l := congrArg Int32.toInt h396
          have := i_rng x395
          show hw zk base _ _ _ _ _ [] _ _
          refine hw_aloadn (aX12_place 55 rfl) rfl ?_
          refine hw_get (v := .int (x395)) (aX12_place 56 rfl) wf_RX12_475 (c121 hS) (s121 hS) (by decide) (congrArg Value.int (show FI388 121 69 = x395 from h396)) ?_
          refine hw_ifeq (tgt := 109) (aX12_place 57 rfl) (by decide) rfl (fun cd397 => ?_) (fun cd397 => ?_)
          · omega
          · refine xw_vret (aX12_place 58 rfl) rfl ?_
            exact ⟨rfl, FI388, rfl, hI389, (gf_tr ex_rf (gf_f gf_rf u33 (by decide)) f390 rfl rfl rfl), (by have := congrArg Int32.toInt (show FI388 121 67 = x4 from (gf_at f390 (c121 hS) (s121 hS) rfl ((up_k u33 (by decide) (h5))))); have := congrArg Int32.toInt (show FI388 121 68 = x30 from (gf_at f390 (c121 hS) (s121 hS) rfl (up_eq u33))); have := (e31 : (x30).toInt = ((x1).toInt) + (1)); omega), (by have := congrArg Int32.toInt (show FI388 121 68 = x30 from (gf_at f390 (c121 hS) (s121 hS) rfl (up_eq u33))); have := (e31 : (x30).toInt = ((x1).toInt) + (1)); omega), (by have := congrArg Int32.toInt (show FI388 121 68 = x30 from (gf_at f390 (c121 hS) (s121 hS) rfl (up_eq u33))); have := (e31 : (x30).toInt = ((x1).toInt) + (1)); have := congrArg Int32.toInt (show FI388 121 73 = x9 from (gf_at f390 (c121 hS) (s121 hS) rfl ((up_k u33 (by decide) (h10))))); omega), (by have := congrArg Int32.toInt (show FI388 121 73 = x9 from (gf_at f390 (c121 hS) (s121 hS) rfl ((up_k u33 (by decide) (h10))))); omega), (by have := congrArg Int32.toInt (show FI388 121 71 = x12 from (gf_at f390 (c121 hS) (s121 hS) rfl ((up_k u33 (by decide) (h13))))); omega), (by have := congrArg Int32.toInt (show FI388 121 69 = x395 from h396); exact fun h => absurd h (by omega)), (by have := congrArg Int32.toInt (show FI388 121 69 = x395 from h396); exact fun h => absurd h (by omega)), (by have := congrArg Int32.toInt (show FI388 121 69 = x395 from h396); exact fun h => absurd h (by omega))⟩
      · refine hw_aloadn (aX12_place 40 rfl) rfl ?_
        refine hw_ic (v := (1 : Int32)) (aX12_place 41 rfl) (by decide) ?_
        refine hw_callV (Bs := [.int ((1 : Int32))]) (rest := []) (aX12_place 42 rfl) wc_RX12_487 (by decide) rfl wi_yX12_fail wv_yX12_fail (c121 hS) (s121 hS) rfl rfl rfl (Nat.le_of_ble_eq_true rfl) (Nat.le_of_ble_eq_true rfl) (n_fail (d := d + 6) hS hF hI37 ((1 : Int32)) (by have := ((by decide : (1 : Int32).toInt = 1) : ((1 : Int32)).toInt = 1); omega)) (fun v398 sv399 p400 => ?_)
        obtain ⟨rfl, FI402, rfl, hI403, f404, t405⟩ := p400
        have rl406 : rl_e (FI402 149) (FI402 121 67) := by rw [show FI402 149 = FI32 149 from gf_row f404 (c149 hS) (s149 hS) rfl rfl, show FI402 121 67 = FI32 121 67 from gf_at f404 (c121 hS) (s121 hS) rfl rfl]; exact rl34
        have rl407 : rl_t (FI402 149) (FL 150) := by rw [show FI402 149 = FI32 149 from gf_row f404 (c149 hS) (s149 hS) rfl rfl]; exact rl35
        have rl408 : rl_w (FI402 121 67) (FI402 149) (FL 150) (FI402 151) := by rw [show FI402 149 = FI32 149 from gf_row f404 (c149 hS) (s149 hS) rfl rfl, show FI402 151 = FI32 151 from gf_row f404 (c151 hS) (s151 hS) rfl rfl, show FI402 121 67 = FI32 121 67 from gf_at f404 (c121 hS) (s121 hS) rfl rfl]; exact rl36
        obtain ⟨x409, h410⟩ : ∃ y, FI402 121 69 = y := ⟨_, rfl⟩
        have h410l := congrArg Int32.toInt h410
        have := i_rng x409
        show hw zk base _ _ _ _ _ [] _ _
        refine xw_goto (tgt := 101) (aX12_place 43 rfl) (by decide) ?_
        refine hw_aloadn (aX12_place 55 rfl) rfl ?_
        refine hw_get (v := .int (x409)) (aX12_place 56 rfl) wf_RX12_475 (c121 hS) (s121 hS) (by decide) (congrArg Value.int (show FI402 121 69 = x409 from h410)) ?_
        refine hw_ifeq (tgt := 109) (aX12_place 57 rfl) (by decide) rfl (fun cd411 => ?_) (fun cd411 => ?_)
        · omega
        · refine xw_vret (aX12_place 58 rfl) rfl ?_
          exact ⟨rfl, FI402, rfl, hI403, (gf_tr ex_rf (gf_f gf_rf u33 (by decide)) f404 rfl rfl rfl), (by have := congrArg Int32.toInt (show FI402 121 67 = x4 from (gf_at f404 (c121 hS) (s121 hS) rfl ((up_k u33 (by decide) (h5))))); have := congrArg Int32.toInt (show FI402 121 68 = x30 from (gf_at f404 (c121 hS) (s121 hS) rfl (up_eq u33))); have := (e31 : (x30).toInt = ((x1).toInt) + (1)); omega), (by have := congrArg Int32.toInt (show FI402 121 68 = x30 from (gf_at f404 (c121 hS) (s121 hS) rfl (up_eq u33))); have := (e31 : (x30).toInt = ((x1).toInt) + (1)); omega), (by have := congrArg Int32.toInt (show FI402 121 68 = x30 from (gf_at f404 (c121 hS) (s121 hS) rfl (up_eq u33))); have := (e31 : (x30).toInt = ((x1).toInt) + (1)); have := congrArg Int32.toInt (show FI402 121 73 = x9 from (gf_at f404 (c121 hS) (s121 hS) rfl ((up_k u33 (by decide) (h10))))); omega), (by have := congrArg Int32.toInt (show FI402 121 73 = x9 from (gf_at f404 (c121 hS) (s121 hS) rfl ((up_k u33 (by decide) (h10))))); omega), (by have := congrArg Int32.toInt (show FI402 121 71 = x12 from (gf_at f404 (c121 hS) (s121 hS) rfl ((up_k u33 (by decide) (h13))))); omega), (by have := congrArg Int32.toInt (show FI402 121 69 = x409 from h410); exact fun h => absurd h (by omega)), (by have := congrArg Int32.toInt (show FI402 121 69 = x409 from h410); exact fun h => absurd h (by omega)), (by have := congrArg Int32.toInt (show FI402 121 69 = x409 from h410); exact fun h => absurd h (by omega))⟩
  · replace t21 := t21 (by omega)
    have hbr := u23.mp (by omega); rw [show ((91 : Int32)).toInt = (91 : Int) from by decide] at hbr
    refine hw_aloadn (aX12_place 4 rfl) rfl ?_
    refine hw_callV (Bs := []) (rest := []) (aX12_place 5 rfl) wc_RX12_538 (by decide) rfl wi_yX12_opens wv_yX12_opens (c121 hS) (s121 hS) rfl rfl rfl (Nat.le_of_ble_eq_true rfl) (Nat.le_of_ble_eq_true rfl) (n_opens (d := d + 5) hS hF hI (by have := congrArg Int32.toInt (show FI 121 68 = x1 from h2); have := congrArg Int32.toInt (show FI 121 67 = x4 from h5); omega) (by have := congrArg Int32.toInt (show FI 121 71 = x12 from h13); have := congrArg Int32.toInt (show FI 121 71 = x12 from h13); omega)) (fun v412 sv413 p414 => ?_)
    have := congrArg Int32.toInt (show FI 121 68 = x1 from h2)
    have := congrArg Int32.toInt (show FI 121 71 = x12 from h13)
    have := congrArg Int32.toInt (show FI 121 71 = x12 from h13)
    have := congrArg Int32.toInt (show FI 121 69 = x7 from h8)
    obtain ⟨rfl, FI416, rfl, hI417, f418, t419, t420, t421⟩ := p414
    have rl422 : rl_e (FI416 149) (FI416 121 67) := by rw [show FI416 149 = FI 149 from gf_row f418 (c149 hS) (s149 hS) rfl rfl, show FI416 121 67 = FI 121 67 from gf_at f418 (c121 hS) (s121 hS) rfl rfl]; exact rel_tend
    have rl423 : rl_t (FI416 149) (FL 150) := by rw [show FI416 149 = FI 149 from gf_row f418 (c149 hS) (s149 hS) rfl rfl]; exact rel_tok
    have rl424 : rl_w (FI416 121 67) (FI416 149) (FL 150) (FI416 151) := by rw [show FI416 149 = FI 149 from gf_row f418 (c149 hS) (s149 hS) rfl rfl, show FI416 151 = FI 151 from gf_row f418 (c151 hS) (s151 hS) rfl rfl, show FI416 121 67 = FI 121 67 from gf_at f418 (c121 hS) (s121 hS) rfl rfl]; exact rel_wh
    obtain ⟨x425, h426⟩ : ∃ y, FI416 121 68 = y := ⟨_, rfl⟩
    have h426l := congrArg Int32.toInt h426
    have b427 := gI_121_68 hI417; rw [h426] at b427
    obtain ⟨x428, h429⟩ : ∃ y, FI416 121 71 = y := ⟨_, rfl⟩
    have h429l := congrArg Int32.toInt h429
    have := i_rng x428
    obtain ⟨x430, h431⟩ : ∃ y, FI416 121 69 = y := ⟨_, rfl⟩
    have h431l := congrArg Int32.toInt h431
    have := i_rng x430
    show hw zk base _ _ _ _ _ [] _ _
    refine hw_aloadn (aX12_place 6 rfl) rfl ?_
    have := congrArg Int32.toInt (show FI416 121 68 = x425 from h426)
    have := congrArg Int32.toInt (show FI416 121 71 = x428 from h429)
    have := congrArg Int32.toInt (show FI416 121 73 = x9 from (gf_at f418 (c121 hS) (s121 hS) rfl (h10)))
    refine hw_callV (Bs := []) (rest := []) (aX12_place 7 rfl) wc_RX12_553 (by decide) rfl wi_yX12_chosen wv_yX12_chosen (c121 hS) (s121 hS) rfl rfl rfl (Nat.le_of_ble_eq_true rfl) (Nat.le_of_ble_eq_true rfl) (n_chosen (d := d) hS hF hI417 (by have := congrArg Int32.toInt (show FI416 121 68 = x425 from h426); have := congrArg Int32.toInt (show FI416 121 67 = x4 from (gf_at f418 (c121 hS) (s121 hS) rfl (h5))); omega) (by have := congrArg Int32.toInt (show FI416 121 73 = x9 from (gf_at f418 (c121 hS) (s121 hS) rfl (h10))); have := congrArg Int32.toInt (show FI416 121 68 = x425 from h426); omega) (by have := congrArg Int32.toInt (show FI416 121 69 = x430 from h431); have := congrArg Int32.toInt (show FI416 121 71 = x428 from h429); have := congrArg Int32.toInt (show FI416 121 71 = x428 from h429); omega) (by have := congrArg Int32.toInt (show FI416 121 71 = x428 from h429); have := congrArg Int32.toInt (show FI416 121 71 = x428 from h429); omega) (show rl_e (FI416 149) (FI416 121 67) from rl422) (show rl_t (FI416 149) (FL 150) from rl423) (show rl_w (FI416 121 67) (FI416 149) (FL 150) (FI416 151) from rl424)) (fun v432 sv433 p434 => ?_)
    have := congrArg Int32.toInt (show FI416 121 68 = x425 from h426)
    have := congrArg Int32.toInt (show FI416 121 73 = x9 from (gf_at f418 (c121 hS) (s121 hS) rfl (h10)))
    have := congrArg Int32.toInt (show FI416 121 68 = x425 from h426)
    have := congrArg Int32.toInt (show FI416 121 73 = x9 from (gf_at f418 (c121 hS) (s121 hS) rfl (h10)))
    obtain ⟨rfl, FI436, rfl, hI437, f438, t439, t440, t441, t442, t443, u444, u445, u446⟩ := p434
    have rl447 : rl_e (FI436 149) (FI436 121 67) := by rw [show FI436 149 = FI416 149 from gf_row f438 (c149 hS) (s149 hS) rfl rfl, show FI436 121 67 = FI416 121 67 from gf_at f438 (c121 hS) (s121 hS) rfl rfl]; exact rl422
    have rl448 : rl_t (FI436 149) (FL 150) := by rw [show FI436 149 = FI416 149 from gf_row f438 (c149 hS) (s149 hS) rfl rfl]; exact rl423
    have rl449 : rl_w (FI436 121 67) (FI436 149) (FL 150) (FI436 151) := by rw [show FI436 149 = FI416 149 from gf_row f438 (c149 hS) (s149 hS) rfl rfl, show FI436 151 = FI416 151 from gf_row f438 (c151 hS) (s151 hS) rfl rfl, show FI436 121 67 = FI416 121 67 from gf_at f438 (c121 hS) (s121 hS) rfl rfl]; exact rl424
    obtain ⟨x450, h451⟩ : ∃ y, FI436 121 68 = y := ⟨_, rfl⟩
    have h451l := congrArg Int32.toInt h451
    have b452 := gI_121_68 hI437; rw [h451] at b452
    have := congrArg Int32.toInt (show FI436 121 67 = x4 from (gf_at f438 (c121 hS) (s121 hS) rfl ((gf_at f418 (c121 hS) (s121 hS) rfl (h5)))))
    obtain ⟨x453, h454⟩ : ∃ y, FI436 121 73 = y := ⟨_, rfl⟩
    have h454l := congrArg Int32.toInt h454
    have b455 := gI_121_73 hI437; rw [h454] at b455
    obtain ⟨x456, h457⟩ : ∃ y, FI436 121 90 = y := ⟨_, rfl⟩
    have h457l := congrArg Int32.toInt h457
    have b458 := gI_121_90 hI437; rw [h457] at b458
    obtain ⟨x459, h460⟩ : ∃ y, FI436 121 71 = y := ⟨_, rfl⟩
    have h460l := congrArg Int32.toInt h460
    have := i_rng x459
    show hw zk base _ _ _ _ _ [] _ _
    have hacc := u444; rw [show FI416 149 = FI 149 from (gf_row f418 (c149 hS) (s149 hS) rfl (rfl)), show (FI416 121 68).toInt.toNat = (FI 121 68).toInt.toNat + 1 by omega] at hacc
    have ho71 := u445
    have hcw := u446; rw [show FI416 151 = FI 151 from (gf_row f418 (c151 hS) (s151 hS) rfl (rfl))] at hcw
    have := congrArg Int32.toInt (show FI436 121 68 = x450 from h451)
    have := congrArg Int32.toInt (show FI436 121 73 = x453 from h454)
    obtain ⟨x461, h462⟩ : ∃ y, FI436 121 69 = y := ⟨_, rfl⟩
    have h462l := congrArg Int32.toInt h462
    have := i_rng x461
    have := congrArg Int32.toInt (show FI436 121 69 = x461 from h462)
    refine hw_aloadn (aX12_place 8 rfl) rfl ?_
    refine hw_bp (v := (93 : Int32)) (aX12_place 9 rfl) (by decide) ?_
    refine hw_callV (Bs := [.int ((93 : Int32))]) (rest := []) (aX12_place 10 rfl) wc_RX12_527 (by decide) rfl wi_yX12_need wv_yX12_need (c121 hS) (s121 hS) rfl rfl rfl (Nat.le_of_ble_eq_true rfl) (Nat.le_of_ble_eq_true rfl) (n_need (d := d + 5) hS hF hI437 ((93 : Int32)) (by have := congrArg Int32.toInt (show FI436 121 68 = x450 from h451); have := congrArg Int32.toInt (show FI436 121 67 = x4 from (gf_at f438 (c121 hS) (s121 hS) rfl ((gf_at f418 (c121 hS) (s121 hS) rfl (h5))))); omega) (show rl_e (FI436 149) (FI436 121 67) from rl447)) (fun v463 sv464 p465 => ?_)
    have := congrArg Int32.toInt (show FI436 121 68 = x450 from h451)
    have := congrArg Int32.toInt (show FI436 121 69 = x461 from h462)
    have := congrArg Int32.toInt (show FI436 121 68 = x450 from h451)
    have := congrArg Int32.toInt (show FI436 121 68 = x450 from h451)
    obtain ⟨rfl, FI467, rfl, hI468, f469, t470, t471, t472, u473⟩ := p465
    have rl474 : rl_e (FI467 149) (FI467 121 67) := by rw [show FI467 149 = FI436 149 from gf_row f469 (c149 hS) (s149 hS) rfl rfl, show FI467 121 67 = FI436 121 67 from gf_at f469 (c121 hS) (s121 hS) rfl rfl]; exact rl447
    have rl475 : rl_t (FI467 149) (FL 150) := by rw [show FI467 149 = FI436 149 from gf_row f469 (c149 hS) (s149 hS) rfl rfl]; exact rl448
    have rl476 : rl_w (FI467 121 67) (FI467 149) (FL 150) (FI467 151) := by rw [show FI467 149 = FI436 149 from gf_row f469 (c149 hS) (s149 hS) rfl rfl, show FI467 151 = FI436 151 from gf_row f469 (c151 hS) (s151 hS) rfl rfl, show FI467 121 67 = FI436 121 67 from gf_at f469 (c121 hS) (s121 hS) rfl rfl]; exact rl449
    obtain ⟨x477, h478⟩ : ∃ y, FI467 121 68 = y := ⟨_, rfl⟩
    have h478l := congrArg Int32.toInt h478
    have b479 := gI_121_68 hI468; rw [h478] at b479
    have := congrArg Int32.toInt (show FI467 121 67 = x4 from (gf_at f469 (c121 hS) (s121 hS) rfl ((gf_at f438 (c121 hS) (s121 hS) rfl ((gf_at f418 (c121 hS) (s121 hS) rfl (h5)))))))
    obtain ⟨x480, h481⟩ : ∃ y, FI467 121 69 = y := ⟨_, rfl⟩
    have h481l := congrArg Int32.toInt h481
    have := i_rng x480
    show hw zk base _ _ _ _ _ [] _ _
    refine hw_aloadn (aX12_place 11 rfl) rfl ?_
    refine hw_aloadn (aX12_place 12 rfl) rfl ?_
    refine hw_get (v := .int (x459)) (aX12_place 13 rfl) wf_RX12_490 (c121 hS) (s121 hS) (by decide) (congrArg Value.int (show FI467 121 71 = x459 from (gf_at f469 (c121 hS) (s121 hS) rfl (h460)))) ?_
    refine hw_ic (v := (1 : Int32)) (aX12_place 14 rfl) (by decide) ?_
    refine xw_isub (aX12_place 15 rfl) ?_
    refine hw_tie (A := ((x459).toInt) - (1)) (i_sub rfl (by decide : (1 : Int32).toInt = 1) (by omega) (by omega)) (fun x482 e483 => ?_)
    refine hv_puti (aX12_place 16 rfl) wf_RX12_490 (c121 hS) (s121 hS) (by decide) rfl rfl (fun FI484 u485 => ?_)
    have rl486 : rl_e (FI484 149) (FI484 121 67) := by rw [show FI484 149 = FI467 149 from up_row u485 (by decide) rfl, show FI484 121 67 = FI467 121 67 from up_k u485 (by decide) rfl]; exact rl474
    have rl487 : rl_t (FI484 149) (FL 150) := by rw [show FI484 149 = FI467 149 from up_row u485 (by decide) rfl]; exact rl475
    have rl488 : rl_w (FI484 121 67) (FI484 149) (FL 150) (FI484 151) := by rw [show FI484 149 = FI467 149 from up_row u485 (by decide) rfl, show FI484 151 = FI467 151 from up_row u485 (by decide) rfl, show FI484 121 67 = FI467 121 67 from up_k u485 (by decide) rfl]; exact rl476
    have hI489 : g_I FI484 := gU_F hI468 u485 rfl
    refine xw_vret (aX12_place 17 rfl) rfl ?_
    exact ⟨rfl, FI484, rfl, hI489, (gf_f (gf_tr ex_rf (gf_tr ex_rf (gf_tr ex_rf gf_rf f418 rfl rfl rfl) f438 rfl rfl rfl) f469 rfl rfl rfl) u485 (by decide)), (by have := congrArg Int32.toInt (show FI484 121 67 = x4 from (up_k u485 (by decide) ((gf_at f469 (c121 hS) (s121 hS) rfl ((gf_at f438 (c121 hS) (s121 hS) rfl ((gf_at f418 (c121 hS) (s121 hS) rfl (h5))))))))); have := congrArg Int32.toInt (show FI484 121 68 = x477 from (up_k u485 (by decide) (h478))); omega), (by have := congrArg Int32.toInt (show FI484 121 68 = x477 from (up_k u485 (by decide) (h478))); omega), (by have := congrArg Int32.toInt (show FI484 121 68 = x477 from (up_k u485 (by decide) (h478))); have := congrArg Int32.toInt (show FI484 121 73 = x453 from (up_k u485 (by decide) ((gf_at f469 (c121 hS) (s121 hS) rfl (h454))))); omega), (by have := congrArg Int32.toInt (show FI484 121 73 = x453 from (up_k u485 (by decide) ((gf_at f469 (c121 hS) (s121 hS) rfl (h454))))); omega), (by have := congrArg Int32.toInt (show FI484 121 71 = x482 from up_eq u485); have := (e483 : (x482).toInt = ((x459).toInt) - (1)); omega), (by have := congrArg Int32.toInt (show FI484 121 68 = x477 from (up_k u485 (by decide) (h478))); have := congrArg Int32.toInt (show FI484 121 69 = x480 from (up_k u485 (by decide) (h481))); intro h69; have := congrArg Int32.toInt (show FI436 121 68 = x450 from h451); exact Or.inl ⟨hbr, _, hacc (by omega), by omega⟩), (by have := congrArg Int32.toInt (show FI484 121 69 = x480 from (up_k u485 (by decide) (h481))); have := congrArg Int32.toInt (show FI484 121 71 = x482 from up_eq u485); have := (e483 : (x482).toInt = ((x459).toInt) - (1)); intro h69; have := ho71 (by omega); omega), (by have := congrArg Int32.toInt (show FI484 121 68 = x477 from (up_k u485 (by decide) (h478))); have := congrArg Int32.toInt (show FI484 121 69 = x480 from (up_k u485 (by decide) (h481))); have := congrArg Int32.toInt (show FI484 121 73 = x453 from (up_k u485 (by decide) ((gf_at f469 (c121 hS) (s121 hS) rfl (h454))))); intro h69; have := wp_n rel_wh (t := FI 121 68) (u := FI416 121 68) (by omega) (by omega) (by omega); have := wp_n rel_wh (t := FI436 121 68) (u := FI484 121 68) (by omega) (by omega) (by omega); have := hcw (by omega); omega)⟩
