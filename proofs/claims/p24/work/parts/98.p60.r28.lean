section
def nX12_meansOperand : Nat := 0xac04c802b62abb02b6fc00b42a2ac502b62a070099c002b62a1600a7bb02b6cd00b42a2a8d02b50b102a09009ad000b42a100099c002b62a22009a94c30214203d00a7bb02b661c900b42a2f1b00b42a0700b42a1100a7090700a0021b00b42a2a8d02b50b102a0900a0021b00b42a110099c002b62a39009a94be0214207b00a79002b560049002b42a2abb02b62f882f9002b42a7500b42a0700b42a2a2300a0081ba000a7bb02b6202a0b00a0061bac034402b602032a0b009a94b90214201300a0081b9002b560049002b42a2aac039002b560049002b42a2a4402b6091020100500a71f1008009a948b0214201200a79b00110900a0051b1d00a76088200001110c00a0071b2a3d0099b602b607102a0c009994b4021420140099948b0214201300a0081b21009f071b412f9002b42a7500b42a3c2e9002b42a7200b42a
theorem bX12_meansOperand : cX12_meansOperand.data.toList.map UInt8.toNat = x_un nX12_meansOperand 320 := by decide +kernel
def iX12_meansOperand : List (Nat × Jvm.ClassFile.Instr × Nat) := [(0, .aload_n 0, 1), (1, .getfield 114, 3), (4, .aload_n 0, 1), (5, .getfield 656, 3), (8, .iaload, 1), (9, .istore_n 1, 1), (10, .aload_n 0, 1), (11, .getfield 117, 3), (14, .aload_n 0, 1), (15, .getfield 656, 3), (18, .laload, 1), (19, .lstore_n 2, 1), (20, .iload_n 1, 1), (21, .iconst 4, 1), (22, .if_icmp .eq 33, 3), (25, .iload_n 1, 1), (26, .iconst 5, 1), (27, .if_icmp .ne 19, 3), (30, .lload_n 2, 1), (31, .ldc2_w 651, 3), (34, .lcmp, 1), (35, .ifCond .eq 20, 3), (38, .lload_n 2, 1), (39, .ldc2_w 692, 3), (42, .lcmp, 1), (43, .ifCond .eq 12, 3), (46, .aload_n 0, 1), (47, .bipush 7, 2), (49, .invokevirtual 694, 3), (52, .ifCond .eq 61, 3), (55, .aload_n 0, 1), (56, .iload_n 1, 1), (57, .iconst 4, 1), (58, .if_icmp .ne 12, 3), (61, .sipush 256, 3), (64, .lload_n 2, 1), (65, .l2i, 1), (66, .iadd, 1), (67, .goto 29, 3), (70, .iload_n 1, 1), (71, .iconst 2, 1), (72, .if_icmp .ne 9, 3), (75, .sipush 155, 3), (78, .goto 18, 3), (81, .lload_n 2, 1), (82, .ldc2_w 651, 3), (85, .lcmp, 1), (86, .ifCond .ne 8, 3), (89, .bipush 31, 2), (91, .goto 5, 3), (94, .bipush 32, 2), (96, .bipush 9, 2), (98, .invokevirtual 580, 3), (101, .aload_n 0, 1), (102, .aload_n 0, 1), (103, .getfield 656, 3), (106, .iconst 1, 1), (107, .iadd, 1), (108, .putfield 656, 3), (111, .iconst 0, 1), (112, .ireturn, 1), (113, .aload_n 0, 1), (114, .aload_n 0, 1), (115, .getfield 656, 3), (118, .iconst 1, 1), (119, .iadd, 1), (120, .putfield 656, 3), (123, .iload_n 1, 1), (124, .iconst 5, 1), (125, .if_icmp .ne 19, 3), (128, .lload_n 2, 1), (129, .ldc2_w 697, 3), (132, .lcmp, 1), (133, .ifCond .ne 11, 3), (136, .aload_n 0, 1), (137, .iconst 0, 1), (138, .iconst (-1), 1), (139, .invokevirtual 580, 3), (142, .iconst 0, 1), (143, .ireturn, 1), (144, .iload_n 1, 1), (145, .iconst 3, 1), (146, .if_icmp .ne 11, 3), (149, .aload_n 0, 1), (150, .lload_n 2, 1), (151, .invokevirtual 699, 3), (154, .goto 160, 3), (157, .iload_n 1, 1), (158, .iconst 5, 1), (159, .if_icmp .ne 35, 3), (162, .aload_n 0, 1), (163, .aload_n 0, 1), (164, .getfield 7, 3), (167, .aload_n 0, 1), (168, .getfield 117, 3), (171, .aload_n 0, 1), (172, .getfield 656, 3), (175, .laload, 1), (176, .l2i, 1), (177, .laload, 1), (178, .invokevirtual 699, 3), (181, .aload_n 0, 1), (182, .aload_n 0, 1), (183, .getfield 656, 3), (186, .iconst 1, 1), (187, .iadd, 1), (188, .putfield 656, 3), (191, .goto 123, 3), (194, .lload_n 2, 1), (195, .ldc2_w 702, 3), (198, .lcmp, 1), (199, .ifCond .ne 57, 3), (202, .aload_n 0, 1), (203, .invokevirtual 704, 3), (206, .ifCond .eq 17, 3), (209, .aload_n 0, 1), (210, .getfield 27, 3), (213, .iconst (-1), 1), (214, .if_icmp .ne 9, 3), (217, .aload_n 0, 1), (218, .bipush 11, 2), (220, .putfield 653, 3), (223, .aload_n 0, 1), (224, .aload_n 0, 1), (225, .getfield 27, 3), (228, .iconst (-1), 1), (229, .if_icmp .ne 7, 3), (232, .lconst 0, 1), (233, .goto 17, 3), (236, .aload_n 0, 1), (237, .getfield 7, 3), (240, .aload_n 0, 1), (241, .getfield 27, 3), (244, .laload, 1), (245, .aload_n 0, 1), (246, .getfield 201, 3), (249, .ladd, 1), (250, .invokevirtual 699, 3), (253, .goto 61, 3), (256, .lload_n 2, 1), (257, .ldc2_w 707, 3), (260, .lcmp, 1), (261, .ifCond .ne 34, 3), (264, .aload_n 0, 1), (265, .invokevirtual 704, 3), (268, .ifCond .eq 16, 3), (271, .aload_n 0, 1), (272, .getfield 208, 3), (275, .ifCond .ne 9, 3), (278, .aload_n 0, 1), (279, .bipush 11, 2), (281, .putfield 653, 3), (284, .aload_n 0, 1), (285, .aload_n 0, 1), (286, .getfield 205, 3), (289, .invokevirtual 699, 3), (292, .goto 22, 3), (295, .aload_n 0, 1), (296, .invokevirtual 704, 3), (299, .ifCond .eq 7, 3), (302, .aload_n 0, 1), (303, .invokevirtual 709, 3), (306, .aload_n 0, 1), (307, .aload_n 0, 1), (308, .getfield 252, 3), (311, .invokevirtual 699, 3), (314, .aload_n 0, 1), (315, .invokevirtual 712, 3), (318, .iconst 1, 1), (319, .ireturn, 1)]
theorem dX12_meansOperand : x_il nX12_meansOperand 320 iX12_meansOperand = true := by decide +kernel
theorem aX12_meansOperand (k : Nat) {pc : Nat} {i : Jvm.ClassFile.Instr} {len : Nat} (hk : iX12_meansOperand[k]? = some (pc, i, len)) : x_at xMM 261 pc i len yX12_meansOperand 4 (some .boolean) := ⟨cX12_meansOperand, rfl, x_il_ok bX12_meansOperand dX12_meansOperand k hk⟩
set_option maxHeartbeats 4000000 in
set_option maxRecDepth 100000 in
theorem n_meansOperand {zk : xK} {base d n sl : Nat} {SH : Nat → Nat × Nat} {FI : Nat → Nat → Int32} {FL : Nat → Nat → Int64} {FR : Nat → Nat → Option Nat} (hS : h_S n SH) (hF : h_FR FR) (hI : g_I FI) (g0 : (FI 121 90).toInt ≤ 249) (gg0 : ∃ q b m, au_st (kf (FI 152)) (wf (FL 153)) (FI 121 92).toInt.toNat true (sk (FI 166) (FI 121 90).toInt.toNat) q b m ∧ q ≤ 1000) (gg1 : (FI 121 101).toInt = (au_vc (sk (FI 166) (FI 121 90).toInt.toNat) : Int)) (rel_wm : rl_wm (FI 121 90) (FI 165) (FI 166)) (rel_kept : rl_t (FI 152) (FL 153)) (rel_hold : rl_h 2 (FI 136) (FL 137) (FI 138)) (rel_piece : rl_h 32 (FI 130) (FL 131) (FI 134)) (rel_back : rl_b (FI 139) (FI 140) (FI 141)) : hw zk base (d + 6) none 261 0 [(0, .ref (base + 121))] [] (n, sl, SH, FI, FL, FR) (h_I (fun r s => ∃ FI' FL', s = (n, sl, SH, FI', FL', FR) ∧ g_I FI' ∧ g_fr n SH [(121, 29), (121, 30), (121, 31), (121, 32), (121, 33), (121, 34), (121, 37), (121, 38), (121, 90), (121, 92), (121, 93), (121, 101)] [128, 129, 130, 132, 133, 134, 135, 136, 138, 139, 140, 141, 142, 165, 166] [] FI FI' ∧ g_fr n SH [(121, 35), (121, 36), (121, 39)] [127, 131, 137, 173] [] FL FL' ∧ (0 ≤ r.toInt ∧ r.toInt ≤ 1) ∧ (∀ q b m, au_st (kf (FI 152)) (wf (FL 153)) (FI 121 92).toInt.toNat true (sk (FI 166) (FI 121 90).toInt.toNat) q b m → r.toInt = (if b then 0 else 1) ∧ (FI' 121 92).toInt.toNat = q ∧ (sk (FI' 166) (FI' 121 90).toInt.toNat) = m ∧ (FI' 121 101).toInt = (au_vc m : Int) + (if b then 0 else 1)) ∧ (rl_wm (FI' 121 90) (FI' 165) (FI' 166)) ∧ (rl_h 2 (FI' 136) (FL' 137) (FI' 138)) ∧ (rl_h 32 (FI' 130) (FL' 131) (FI' 134)) ∧ (rl_b (FI' 139) (FI' 140) (FI' 141)))) := by
  obtain ⟨x1, h2⟩ : ∃ y, FI 121 90 = y := ⟨_, rfl⟩
  have h2l := congrArg Int32.toInt h2
  have b3 := gI_121_90 hI; rw [h2] at b3
  obtain ⟨x4, h5⟩ : ∃ y, FI 121 92 = y := ⟨_, rfl⟩
  have h5l := congrArg Int32.toInt h5
  have b6 := gI_121_92 hI; rw [h5] at b6
  obtain ⟨x7, h8⟩ : ∃ y, FI 121 101 = y := ⟨_, rfl⟩
  have h8l := congrArg Int32.toInt h8
  have b9 := gI_121_101 hI; rw [h8] at b9
  obtain ⟨q0, b0, m0, hst0, hq0⟩ := gg0
  have hlt0 := au_st_lt hst0
  have hvc0 := au_vc_le (l := (sk (FI 166) (FI 121 90).toInt.toNat)); rw [sk_len] at hvc0; have hgv := gg1
  have := congrArg Int32.toInt (show FI 121 92 = x4 from h5)
  have := congrArg Int32.toInt (show FI 121 90 = x1 from h2)
  have := congrArg Int32.toInt (show FI 121 101 = x7 from h8)
  refine hw_aloadn (aX12_meansOperand 0 rfl) rfl ?_
  refine hw_get (v := .ref (base + 152)) (aX12_meansOperand 1 rfl) wf_RX12_114 (c121 hS) (s121 hS) (by decide) (congrArg (fun r => va_rf (h_rf base r)) (r121_65 hF)) ?_
  refine hw_aloadn (aX12_meansOperand 2 rfl) rfl ?_
  refine hw_get (v := .int (x4)) (aX12_meansOperand 3 rfl) wf_RX12_656 (c121 hS) (s121 hS) (by decide) (congrArg Value.int (show FI 121 92 = x4 from h5)) ?_
  obtain ⟨x10, h11⟩ : ∃ y, FI 152 (x4).toNatClampNeg = y := ⟨_, rfl⟩
  have h11l := congrArg Int32.toInt h11
  have := i_rng x10
  refine hw_iald (v := x10) (aX12_meansOperand 4 rfl) (c152 hS) (s152 hS) (h_in rfl (by omega) (by omega)) (show FI 152 (x4).toNatClampNeg = x10 from h11) ?_
  refine xw_istoren (L2 := [(1, .int (x10)), (0, .ref (base + 121))]) (aX12_meansOperand 5 rfl) (by decide) rfl ?_
  refine hw_aloadn (aX12_meansOperand 6 rfl) rfl ?_
  refine hw_get (v := .ref (base + 153)) (aX12_meansOperand 7 rfl) wf_RX12_117 (c121 hS) (s121 hS) (by decide) (congrArg (fun r => va_rf (h_rf base r)) (r121_66 hF)) ?_
  refine hw_aloadn (aX12_meansOperand 8 rfl) rfl ?_
  refine hw_get (v := .int (x4)) (aX12_meansOperand 9 rfl) wf_RX12_656 (c121 hS) (s121 hS) (by decide) (congrArg Value.int (show FI 121 92 = x4 from h5)) ?_
  obtain ⟨x12, h13⟩ : ∃ y, FL 153 (x4).toNatClampNeg = y := ⟨_, rfl⟩
  have h13l := congrArg Int64.toInt h13
  have := l_rng x12
  refine hw_lald (v := x12) (aX12_meansOperand 10 rfl) (c153 hS) (s153 hS) (h_in rfl (by omega) (by omega)) (show FL 153 (x4).toNatClampNeg = x12 from h13) ?_
  refine xw_lstoren (L2 := [(2, .long (x12)), (1, .int (x10)), (0, .ref (base + 121))]) (aX12_meansOperand 11 rfl) (by decide) rfl ?_
  have ee1 : (FI 121 92).toInt.toNat = (x4).toNatClampNeg := (i_cl (congrArg Int32.toInt (h5)).symm).symm
  have hk1 : kf (FI 152) (FI 121 92).toInt.toNat = (x10).toInt := by unfold kf; rw [ee1, show FI 152 (x4).toNatClampNeg = x10 from h11]
  have hw1 : wf (FL 153) (FI 121 92).toInt.toNat = (x12).toInt := by unfold wf; rw [ee1, show FL 153 (x4).toNatClampNeg = x12 from h13]
  refine xw_iloadn (aX12_meansOperand 12 rfl) rfl ?_
  refine hw_ic (v := (4 : Int32)) (aX12_meansOperand 13 rfl) (by decide) ?_
  have j420 : (au_un (kf (FI 152) (FI 121 92).toInt.toNat) (wf (FL 153) (FI 121 92).toInt.toNat)) → hw zk base (d + 6) none 261 55 [(0, .ref (base + 121)), (1, .int (x10)), (2, .long (x12))] [] (n, sl, SH, FI, FL, FR) (h_I (fun r s => ∃ FI' FL', s = (n, sl, SH, FI', FL', FR) ∧ g_I FI' ∧ g_fr n SH [(121, 29), (121, 30), (121, 31), (121, 32), (121, 33), (121, 34), (121, 37), (121, 38), (121, 90), (121, 92), (121, 93), (121, 101)] [128, 129, 130, 132, 133, 134, 135, 136, 138, 139, 140, 141, 142, 165, 166] [] FI FI' ∧ g_fr n SH [(121, 35), (121, 36), (121, 39)] [127, 131, 137, 173] [] FL FL' ∧ (0 ≤ r.toInt ∧ r.toInt ≤ 1) ∧ (∀ q b m, au_st (kf (FI 152)) (wf (FL 153)) (FI 121 92).toInt.toNat true (sk (FI 166) (FI 121 90).toInt.toNat) q b m → r.toInt = (if b then 0 else 1) ∧ (FI' 121 92).toInt.toNat = q ∧ (sk (FI' 166) (FI' 121 90).toInt.toNat) = m ∧ (FI' 121 101).toInt = (au_vc m : Int) + (if b then 0 else 1)) ∧ (rl_wm (FI' 121 90) (FI' 165) (FI' 166)) ∧ (rl_h 2 (FI' 136) (FL' 137) (FI' 138)) ∧ (rl_h 32 (FI' 130) (FL' 131) (FI' 134)) ∧ (rl_b (FI' 139) (FI' 140) (FI' 141)))) := by
    intro fc55_0
    refine hw_aloadn (aX12_meansOperand 30 rfl) rfl ?_
    refine xw_iloadn (aX12_meansOperand 31 rfl) rfl ?_
    refine hw_ic (v := (4 : Int32)) (aX12_meansOperand 32 rfl) (by decide) ?_
    have j458 : ∀ (g428 : Int32), (31 ≤ (g428).toInt ∧ (g428).toInt ≤ 264) → ((g428).toInt = 31 ∨ (g428).toInt = 32 ∨ (g428).toInt = 155 ∨ (257 ≤ (g428).toInt ∧ (g428).toInt ≤ 264)) → hw zk base (d + 6) none 261 96 [(0, .ref (base + 121))] [.int (g428), .ref (base + 121)] (n, sl, SH, FI, FL, FR) (h_I (fun r s => ∃ FI' FL', s = (n, sl, SH, FI', FL', FR) ∧ g_I FI' ∧ g_fr n SH [(121, 29), (121, 30), (121, 31), (121, 32), (121, 33), (121, 34), (121, 37), (121, 38), (121, 90), (121, 92), (121, 93), (121, 101)] [128, 129, 130, 132, 133, 134, 135, 136, 138, 139, 140, 141, 142, 165, 166] [] FI FI' ∧ g_fr n SH [(121, 35), (121, 36), (121, 39)] [127, 131, 137, 173] [] FL FL' ∧ (0 ≤ r.toInt ∧ r.toInt ≤ 1) ∧ (∀ q b m, au_st (kf (FI 152)) (wf (FL 153)) (FI 121 92).toInt.toNat true (sk (FI 166) (FI 121 90).toInt.toNat) q b m → r.toInt = (if b then 0 else 1) ∧ (FI' 121 92).toInt.toNat = q ∧ (sk (FI' 166) (FI' 121 90).toInt.toNat) = m ∧ (FI' 121 101).toInt = (au_vc m : Int) + (if b then 0 else 1)) ∧ (rl_wm (FI' 121 90) (FI' 165) (FI' 166)) ∧ (rl_h 2 (FI' 136) (FL' 137) (FI' 138)) ∧ (rl_h 32 (FI' 130) (FL' 131) (FI' 134)) ∧ (rl_b (FI' 139) (FI' 140) (FI' 141)))) := by
      intro g428 q459 fc96_0
      have rg_g428 := i_rng g428
      refine hw_bp (v := (9 : Int32)) (aX12_meansOperand 51 rfl) (by decide) ?_
      refine hw_callV (Bs := [.int (g428), .int ((9 : Int32))]) (rest := []) (aX12_meansOperand 52 rfl) wc_RX12_580 (by decide) rfl wi_yX12_later wv_yX12_later (c121 hS) (s121 hS) rfl rfl rfl (Nat.le_of_ble_eq_true rfl) (Nat.le_of_ble_eq_true rfl) (n_laterm (d := d + 5) hS hF hI (g428) ((9 : Int32)) (by have := congrArg Int32.toInt (show FI 121 90 = x1 from h2); omega) (by have := ((by decide : (9 : Int32).toInt = 9) : ((9 : Int32)).toInt = 9); omega) (show rl_wm (FI 121 90) (FI 165) (FI 166) from rel_wm)) (fun v460 sv461 p462 => ?_)
      have := congrArg Int32.toInt (show FI 121 90 = x1 from h2)
      obtain ⟨rfl, FI464, rfl, hI465, f466, t467, u468, u469, rl470⟩ := p462
      have rl471 : rl_b (FI464 139) (FI464 140) (FI464 141) := by rw [show FI464 139 = FI 139 from gf_row f466 (c139 hS) (s139 hS) rfl rfl, show FI464 140 = FI 140 from gf_row f466 (c140 hS) (s140 hS) rfl rfl, show FI464 141 = FI 141 from gf_row f466 (c141 hS) (s141 hS) rfl rfl]; exact rel_back
      have rl472 : rl_h 2 (FI464 136) (FL 137) (FI464 138) := by rw [show FI464 136 = FI 136 from gf_row f466 (c136 hS) (s136 hS) rfl rfl, show FI464 138 = FI 138 from gf_row f466 (c138 hS) (s138 hS) rfl rfl]; exact rel_hold
      have rl473 : rl_t (FI464 152) (FL 153) := by rw [show FI464 152 = FI 152 from gf_row f466 (c152 hS) (s152 hS) rfl rfl]; exact rel_kept
      have rl474 : rl_h 32 (FI464 130) (FL 131) (FI464 134) := by rw [show FI464 130 = FI 130 from gf_row f466 (c130 hS) (s130 hS) rfl rfl, show FI464 134 = FI 134 from gf_row f466 (c134 hS) (s134 hS) rfl rfl]; exact rel_piece
      obtain ⟨x475, h476⟩ : ∃ y, FI464 121 90 = y := ⟨_, rfl⟩
      have h476l := congrArg Int32.toInt h476
      have b477 := gI_121_90 hI465; rw [h476] at b477
      show hw zk base _ _ _ _ _ [] _ _
      refine hw_aloadn (aX12_meansOperand 53 rfl) rfl ?_
      refine hw_aloadn (aX12_meansOperand 54 rfl) rfl ?_
      refine hw_get (v := .int (x4)) (aX12_meansOperand 55 rfl) wf_RX12_656 (c121 hS) (s121 hS) (by decide) (congrArg Value.int (show FI464 121 92 = x4 from (gf_at f466 (c121 hS) (s121 hS) rfl (h5)))) ?_
      refine hw_ic (v := (1 : Int32)) (aX12_meansOperand 56 rfl) (by decide) ?_
      refine xw_iadd (aX12_meansOperand 57 rfl) ?_
      refine hw_tie (A := ((x4).toInt) + (1)) (i_add rfl (by decide : (1 : Int32).toInt = 1) (by omega) (by omega)) (fun x478 e479 => ?_)
      refine hv_puti (aX12_meansOperand 58 rfl) wf_RX12_656 (c121 hS) (s121 hS) (by decide) rfl rfl (fun FI480 u481 => ?_)
      have rl482 : rl_b (FI480 139) (FI480 140) (FI480 141) := by rw [show FI480 139 = FI464 139 from up_row u481 (by decide) rfl, show FI480 140 = FI464 140 from up_row u481 (by decide) rfl, show FI480 141 = FI464 141 from up_row u481 (by decide) rfl]; exact rl471
      have rl483 : rl_h 2 (FI480 136) (FL 137) (FI480 138) := by rw [show FI480 136 = FI464 136 from up_row u481 (by decide) rfl, show FI480 138 = FI464 138 from up_row u481 (by decide) rfl]; exact rl472
      have rl484 : rl_t (FI480 152) (FL 153) := by rw [show FI480 152 = FI464 152 from up_row u481 (by decide) rfl]; exact rl473
      have rl485 : rl_h 32 (FI480 130) (FL 131) (FI480 134) := by rw [show FI480 130 = FI464 130 from up_row u481 (by decide) rfl, show FI480 134 = FI464 134 from up_row u481 (by decide) rfl]; exact rl474
      have rl486 : rl_wm (FI480 121 90) (FI480 165) (FI480 166) := by rw [show FI480 165 = FI464 165 from up_row u481 (by decide) rfl, show FI480 166 = FI464 166 from up_row u481 (by decide) rfl, show FI480 121 90 = FI464 121 90 from up_k u481 (by decide) rfl]; exact rl470
      have hI487 : g_I FI480 := gU_121_92 hI465 u481 (by have := (e479 : (x478).toInt = ((x4).toInt) + (1)); omega) (by have := (e479 : (x478).toInt = ((x4).toInt) + (1)); omega)
      refine hw_ic (v := (0 : Int32)) (aX12_meansOperand 59 rfl) (by decide) ?_
      refine xw_iret (aX12_meansOperand 60 rfl) rfl (by decide) ?_
      have e488 : ((0 : Int32)).toInt = 0 := (by decide : (0 : Int32).toInt = 0)
      exact ⟨(0 : Int32), rfl, FI480, FL, rfl, hI487, (gf_f (gf_tr ex_rf gf_rf f466 rfl rfl rfl) u481 (by decide)), gf_rf, (by have : ((0 : Int32)).toInt = 0 := (by decide); omega), (by have := congrArg Int32.toInt (show FI480 121 92 = x478 from up_eq u481); have := (e479 : (x478).toInt = ((x4).toInt) + (1)); have := congrArg Int32.toInt (show FI480 121 101 = x7 from (up_k u481 (by decide) ((gf_at f466 (c121 hS) (s121 hS) rfl (h8))))); have hz : (((0 : Int32))).toInt = 0 := (by decide : (0 : Int32).toInt = 0); intro q b m hst; have hm : (sk (FI480 166) (FI480 121 90).toInt.toNat) = 9 :: (sk (FI 166) (FI 121 90).toInt.toNat) := (by rw [show FI480 166 = FI464 166 from (up_row u481 (by decide) (rfl)), show FI480 121 90 = FI464 121 90 from ((up_k u481 (by decide) (h476))).trans (h476).symm, u469, show ((9 : Int32)).toInt = (9 : Int) from by decide]); obtain ⟨e1, e2, e3⟩ := au_st_un hst fc55_0; subst e2; refine ⟨by simp <;> omega, by omega, by rw [e3]; exact hm, ?_⟩; rw [e3, show au_vc (9 :: (sk (FI 166) (FI 121 90).toInt.toNat)) = au_vc (sk (FI 166) (FI 121 90).toInt.toNat) from (by simp [au_vc])]; simp only [if_true]; omega), (show rl_wm (FI480 121 90) (FI480 165) (FI480 166) from rl486), (show rl_h 2 (FI480 136) (FL 137) (FI480 138) from rl483), (show rl_h 32 (FI480 130) (FL 131) (FI480 134) from rl485), (show rl_b (FI480 139) (FI480 140) (FI480 141) from rl482)⟩
    refine hw_icne (tgt := 70) (aX12_meansOperand 33 rfl) (by decide) rfl (by decide : (4 : Int32).toInt = 4) (fun cd489 => ?_) (fun cd489 => ?_)
    · refine xw_iloadn (aX12_meansOperand 39 rfl) rfl ?_
      refine hw_ic (v := (2 : Int32)) (aX12_meansOperand 40 rfl) (by decide) ?_
      refine hw_icne (tgt := 81) (aX12_meansOperand 41 rfl) (by decide) rfl (by decide : (2 : Int32).toInt = 2) (fun cd490 => ?_) (fun cd490 => ?_)
      · refine xw_lloadn (aX12_meansOperand 44 rfl) rfl ?_
        refine xw_ldc2 (aX12_meansOperand 45 rfl) wk_RX12_651 ?_
        refine hw_lcne (tgt := 94) (aX12_meansOperand 46 rfl) (aX12_meansOperand 47 rfl) (by decide) rfl (by decide : (45 : Int64).toInt = 45) (fun cd491 => ?_) (fun cd491 => ?_)
        · refine hw_bp (v := (32 : Int32)) (aX12_meansOperand 50 rfl) (by decide) ?_
          exact hw_L (j458 ((32 : Int32)) (by have := ((by decide : (32 : Int32).toInt = 32) : ((32 : Int32)).toInt = 32); show 31 ≤ ((32 : Int32)).toInt ∧ ((32 : Int32)).toInt ≤ 264; omega) (by have := ((by decide : (32 : Int32).toInt = 32) : ((32 : Int32)).toInt = 32); have := ((by decide : (32 : Int32).toInt = 32) : ((32 : Int32)).toInt = 32); have := ((by decide : (32 : Int32).toInt = 32) : ((32 : Int32)).toInt = 32); have := ((by decide : (32 : Int32).toInt = 32) : ((32 : Int32)).toInt = 32); have := ((by decide : (32 : Int32).toInt = 32) : ((32 : Int32)).toInt = 32); show 32 = 31 ∨ 32 = 32 ∨ 32 = 155 ∨ (257 ≤ 32 ∧ 32 ≤ 264); omega)) ⟨rfl, trivial⟩
        · refine hw_bp (v := (31 : Int32)) (aX12_meansOperand 48 rfl) (by decide) ?_
          refine xw_goto (tgt := 96) (aX12_meansOperand 49 rfl) (by decide) ?_
          exact hw_L (j458 ((31 : Int32)) (by have := ((by decide : (31 : Int32).toInt = 31) : ((31 : Int32)).toInt = 31); show 31 ≤ ((31 : Int32)).toInt ∧ ((31 : Int32)).toInt ≤ 264; omega) (by have := ((by decide : (31 : Int32).toInt = 31) : ((31 : Int32)).toInt = 31); have := ((by decide : (31 : Int32).toInt = 31) : ((31 : Int32)).toInt = 31); have := ((by decide : (31 : Int32).toInt = 31) : ((31 : Int32)).toInt = 31); have := ((by decide : (31 : Int32).toInt = 31) : ((31 : Int32)).toInt = 31); have := ((by decide : (31 : Int32).toInt = 31) : ((31 : Int32)).toInt = 31); show 31 = 31 ∨ 31 = 32 ∨ 31 = 155 ∨ (257 ≤ 31 ∧ 31 ≤ 264); omega)) ⟨rfl, trivial⟩
      · refine hw_sp (v := (155 : Int32)) (aX12_meansOperand 42 rfl) (by decide) ?_
        refine xw_goto (tgt := 96) (aX12_meansOperand 43 rfl) (by decide) ?_
        exact hw_L (j458 ((155 : Int32)) (by have := ((by decide : (155 : Int32).toInt = 155) : ((155 : Int32)).toInt = 155); show 31 ≤ ((155 : Int32)).toInt ∧ ((155 : Int32)).toInt ≤ 264; omega) (by have := ((by decide : (155 : Int32).toInt = 155) : ((155 : Int32)).toInt = 155); have := ((by decide : (155 : Int32).toInt = 155) : ((155 : Int32)).toInt = 155); have := ((by decide : (155 : Int32).toInt = 155) : ((155 : Int32)).toInt = 155); have := ((by decide : (155 : Int32).toInt = 155) : ((155 : Int32)).toInt = 155); have := ((by decide : (155 : Int32).toInt = 155) : ((155 : Int32)).toInt = 155); show 155 = 31 ∨ 155 = 32 ∨ 155 = 155 ∨ (257 ≤ 155 ∧ 155 ≤ 264); omega)) ⟨rfl, trivial⟩
    · have h4 := (rel_kept (x4).toNatClampNeg).2 (by rw [show FI 152 (x4).toNatClampNeg = x10 from h11]; omega); rw [show FL 153 (x4).toNatClampNeg = x12 from h13] at h4
      refine hw_sp (v := (256 : Int32)) (aX12_meansOperand 34 rfl) (by decide) ?_
      refine xw_lloadn (aX12_meansOperand 35 rfl) rfl ?_
      refine xw_l2i (aX12_meansOperand 36 rfl) ?_
      refine hw_tie (A := (x12).toInt) (l_2i rfl (by omega) (by omega)) (fun x492 e493 => ?_)
      refine xw_iadd (aX12_meansOperand 37 rfl) ?_
      refine hw_tie (A := (256) + ((x12).toInt)) (i_add (by decide : (256 : Int32).toInt = 256) e493 (by omega) (by omega)) (fun x494 e495 => ?_)
      refine xw_goto (tgt := 96) (aX12_meansOperand 38 rfl) (by decide) ?_
      exact hw_L (j458 (x494) (by have := (e495 : (x494).toInt = (256) + ((x12).toInt)); show 31 ≤ (x494).toInt ∧ (x494).toInt ≤ 264; omega) (by have := (e495 : (x494).toInt = (256) + ((x12).toInt)); have := (e495 : (x494).toInt = (256) + ((x12).toInt)); have := (e495 : (x494).toInt = (256) + ((x12).toInt)); have := (e495 : (x494).toInt = (256) + ((x12).toInt)); have := (e495 : (x494).toInt = (256) + ((x12).toInt)); show (x494).toInt = 31 ∨ (x494).toInt = 32 ∨ (x494).toInt = 155 ∨ (257 ≤ (x494).toInt ∧ (x494).toInt ≤ 264); omega)) ⟨rfl, trivial⟩
  refine hw_iceq (tgt := 55) (aX12_meansOperand 14 rfl) (by decide) rfl (by decide : (4 : Int32).toInt = 4) (fun cd496 => ?_) (fun cd496 => ?_)
  · exact hw_L (j420 (show au_un (kf (FI 152) (FI 121 92).toInt.toNat) (wf (FL 153) (FI 121 92).toInt.toNat) from (by { unfold au_un; rw [hk1, hw1]; omega }))) ⟨rfl, rfl, rfl, trivial⟩
  · refine xw_iloadn (aX12_meansOperand 15 rfl) rfl ?_
    refine hw_ic (v := (5 : Int32)) (aX12_meansOperand 16 rfl) (by decide) ?_
    have j865 : ((x10).toInt ≠ 4 ∧ ¬ ((x10).toInt = 5 ∧ ((x12).toInt = 45 ∨ (x12).toInt = 126))) → hw zk base (d + 6) none 261 46 [(0, .ref (base + 121)), (1, .int (x10)), (2, .long (x12))] [] (n, sl, SH, FI, FL, FR) (h_I (fun r s => ∃ FI' FL', s = (n, sl, SH, FI', FL', FR) ∧ g_I FI' ∧ g_fr n SH [(121, 29), (121, 30), (121, 31), (121, 32), (121, 33), (121, 34), (121, 37), (121, 38), (121, 90), (121, 92), (121, 93), (121, 101)] [128, 129, 130, 132, 133, 134, 135, 136, 138, 139, 140, 141, 142, 165, 166] [] FI FI' ∧ g_fr n SH [(121, 35), (121, 36), (121, 39)] [127, 131, 137, 173] [] FL FL' ∧ (0 ≤ r.toInt ∧ r.toInt ≤ 1) ∧ (∀ q b m, au_st (kf (FI 152)) (wf (FL 153)) (FI 121 92).toInt.toNat true (sk (FI 166) (FI 121 90).toInt.toNat) q b m → r.toInt = (if b then 0 else 1) ∧ (FI' 121 92).toInt.toNat = q ∧ (sk (FI' 166) (FI' 121 90).toInt.toNat) = m ∧ (FI' 121 101).toInt = (au_vc m : Int) + (if b then 0 else 1)) ∧ (rl_wm (FI' 121 90) (FI' 165) (FI' 166)) ∧ (rl_h 2 (FI' 136) (FL' 137) (FI' 138)) ∧ (rl_h 32 (FI' 130) (FL' 131) (FI' 134)) ∧ (rl_b (FI' 139) (FI' 140) (FI' 141)))) := by
      intro fc46_0
      refine hw_aloadn (aX12_meansOperand 26 rfl) rfl ?_
      refine hw_bp (v := (7 : Int32)) (aX12_meansOperand 27 rfl) (by decide) ?_
      refine hw_callV (Bs := [.int ((7 : Int32))]) (rest := []) (aX12_meansOperand 28 rfl) wc_RX12_694 (by decide) rfl wi_yX12_keepsWord wv_yX12_keepsWord (c121 hS) (s121 hS) rfl rfl rfl (Nat.le_of_ble_eq_true rfl) (Nat.le_of_ble_eq_true rfl) (n_keepsWord (d := d + 5) hS hF hI ((7 : Int32)) ) (fun v866 sv867 p868 => ?_)
      obtain ⟨r869, rfl, rfl, t871, u872⟩ := p868
      show hw zk base _ _ _ _ _ [.int (r869)] _ _
      replace u872 := hid_i u872
      refine hw_ifeq (tgt := 113) (aX12_meansOperand 29 rfl) (by decide) rfl (fun cd873 => ?_) (fun cd873 => ?_)
      · have hnu : ¬ au_un (kf (FI 152) (FI 121 92).toInt.toNat) (wf (FL 153) (FI 121 92).toInt.toNat) := fun h => by { have h9 := h; unfold au_un at h9; rcases h9 with h9 | h9 | h9; { rw [hk1] at h9; omega }; { rw [hk1, hw1] at h9; omega }; { have := (hid_e u872).mpr (by rw [show ((7 : Int32)).toInt = (7 : Int) from by decide]; exact h9); omega } }
        refine hw_aloadn (aX12_meansOperand 61 rfl) rfl ?_
        refine hw_aloadn (aX12_meansOperand 62 rfl) rfl ?_
        refine hw_get (v := .int (x4)) (aX12_meansOperand 63 rfl) wf_RX12_656 (c121 hS) (s121 hS) (by decide) (congrArg Value.int (show FI 121 92 = x4 from h5)) ?_
        refine hw_ic (v := (1 : Int32)) (aX12_meansOperand 64 rfl) (by decide) ?_
        refine xw_iadd (aX12_meansOperand 65 rfl) ?_
        refine hw_tie (A := ((x4).toInt) + (1)) (i_add rfl (by decide : (1 : Int32).toInt = 1) (by omega) (by omega)) (fun x874 e875 => ?_)
        refine hv_puti (aX12_meansOperand 66 rfl) wf_RX12_656 (c121 hS) (s121 hS) (by decide) rfl rfl (fun FI876 u877 => ?_)
        have rl878 : rl_b (FI876 139) (FI876 140) (FI876 141) := by rw [show FI876 139 = FI 139 from up_row u877 (by decide) rfl, show FI876 140 = FI 140 from up_row u877 (by decide) rfl, show FI876 141 = FI 141 from up_row u877 (by decide) rfl]; exact rel_back
        have rl879 : rl_h 2 (FI876 136) (FL 137) (FI876 138) := by rw [show FI876 136 = FI 136 from up_row u877 (by decide) rfl, show FI876 138 = FI 138 from up_row u877 (by decide) rfl]; exact rel_hold
        have rl880 : rl_t (FI876 152) (FL 153) := by rw [show FI876 152 = FI 152 from up_row u877 (by decide) rfl]; exact rel_kept
        have rl881 : rl_h 32 (FI876 130) (FL 131) (FI876 134) := by rw [show FI876 130 = FI 130 from up_row u877 (by decide) rfl, show FI876 134 = FI 134 from up_row u877 (by decide) rfl]; exact rel_piece
        have rl882 : rl_wm (FI876 121 90) (FI876 165) (FI876 166) := by rw [show FI876 165 = FI 165 from up_row u877 (by decide) rfl, show FI876 166 = FI 166 from up_row u877 (by decide) rfl, show FI876 121 90 = FI 121 90 from up_k u877 (by decide) rfl]; exact rel_wm
        have hI883 : g_I FI876 := gU_121_92 hI u877 (by have := (e875 : (x874).toInt = ((x4).toInt) + (1)); omega) (by have := (e875 : (x874).toInt = ((x4).toInt) + (1)); omega)
        refine xw_iloadn (aX12_meansOperand 67 rfl) rfl ?_
        refine hw_ic (v := (5 : Int32)) (aX12_meansOperand 68 rfl) (by decide) ?_
        refine hw_icne (tgt := 144) (aX12_meansOperand 69 rfl) (by decide) rfl (by decide : (5 : Int32).toInt = 5) (fun cd884 => ?_) (fun cd884 => ?_)
        · refine xw_iloadn (aX12_meansOperand 80 rfl) rfl ?_
          refine hw_ic (v := (3 : Int32)) (aX12_meansOperand 81 rfl) (by decide) ?_
          have j1154 : ∀ (g1117 : Int32) (g1120 : Int32) (FIj1114 : Nat → Nat → Int32) (FLj1123 : Nat → Nat → Int64), (g_fr n SH [(121, 29), (121, 30), (121, 31), (121, 32), (121, 33), (121, 34), (121, 37), (121, 38), (121, 90), (121, 92), (121, 93), (121, 101)] [128, 129, 130, 132, 133, 134, 135, 136, 138, 139, 140, 141, 142, 165, 166] [] FI FIj1114) → (g_I FIj1114) → (FIj1114 121 101 = g1117) → (0 ≤ (g1117).toInt ∧ (g1117).toInt ≤ 512) → (FIj1114 121 90 = x1) → (FIj1114 121 92 = g1120) → (1 ≤ (g1120).toInt ∧ (g1120).toInt ≤ 1001) → (FIj1114 152 (x4).toNatClampNeg = x10) → (g_fr n SH [(121, 35), (121, 36), (121, 39)] [127, 131, 137, 173] [] FL FLj1123) → (FLj1123 153 (x4).toNatClampNeg = x12) → (FIj1114 166 = FI 166) → (FIj1114 152 = FI 152) → (rl_b (FIj1114 139) (FIj1114 140) (FIj1114 141)) → (rl_h 2 (FIj1114 136) (FLj1123 137) (FIj1114 138)) → (rl_t (FIj1114 152) (FLj1123 153)) → (rl_h 32 (FIj1114 130) (FLj1123 131) (FIj1114 134)) → (rl_wm (FIj1114 121 90) (FIj1114 165) (FIj1114 166)) → (∀ q b m, au_st (kf (FI 152)) (wf (FL 153)) (FI 121 92).toInt.toNat true (sk (FI 166) (FI 121 90).toInt.toNat) q b m → q = ((g1120).toInt).toNat ∧ b = false ∧ m = au_fin (sk (FI 166) (FI 121 90).toInt.toNat)) → ((g1117).toInt = (FI 121 101).toInt + 1) → hw zk base (d + 6) none 261 314 [(0, .ref (base + 121))] [] (n, sl, SH, FIj1114, FLj1123, FR) (h_I (fun r s => ∃ FI' FL', s = (n, sl, SH, FI', FL', FR) ∧ g_I FI' ∧ g_fr n SH [(121, 29), (121, 30), (121, 31), (121, 32), (121, 33), (121, 34), (121, 37), (121, 38), (121, 90), (121, 92), (121, 93), (121, 101)] [128, 129, 130, 132, 133, 134, 135, 136, 138, 139, 140, 141, 142, 165, 166] [] FI FI' ∧ g_fr n SH [(121, 35), (121, 36), (121, 39)] [127, 131, 137, 173] [] FL FL' ∧ (0 ≤ r.toInt ∧ r.toInt ≤ 1) ∧ (∀ q b m, au_st (kf (FI 152)) (wf (FL 153)) (FI 121 92).toInt.toNat true (sk (FI 166) (FI 121 90).toInt.toNat) q b m → r.toInt = (if b then 0 else 1) ∧ (FI' 121 92).toInt.toNat = q ∧ (sk (FI' 166) (FI' 121 90).toInt.toNat) = m ∧ (FI' 121 101).toInt = (au_vc m : Int) + (if b then 0 else 1)) ∧ (rl_wm (FI' 121 90) (FI' 165) (FI' 166)) ∧ (rl_h 2 (FI' 136) (FL' 137) (FI' 138)) ∧ (rl_h 32 (FI' 130) (FL' 131) (FI' 134)) ∧ (rl_b (FI' 139) (FI' 140) (FI' 141)))) := by
            intro g1117 g1120 FIj1114 FLj1123 fr1115 hI1116 kp1118 q1155 kp1119 kp1121 q1156 kp1122 fr1124 kp1125 rw1126 rw1127 rl1128 rl1129 rl1130 rl1131 rl1132 fc314_0 fc314_1
            have rg_g1117 := i_rng g1117
            have rg_g1120 := i_rng g1120
            have := congrArg Int32.toInt kp1118
            have := congrArg Int32.toInt kp1119
            have := congrArg Int32.toInt kp1121
            have := congrArg Int32.toInt kp1122
            have := congrArg Int64.toInt kp1125
            refine hw_aloadn (aX12_meansOperand 166 rfl) rfl ?_
            refine hw_callV (Bs := []) (rest := []) (aX12_meansOperand 167 rfl) wc_RX12_712 (by decide) rfl wi_yX12_meansFinished wv_yX12_meansFinished (c121 hS) (s121 hS) rfl rfl rfl (Nat.le_of_ble_eq_true rfl) (Nat.le_of_ble_eq_true rfl) (n_meansFinished (d := d + 4) hS hF hI1116 (by have := congrArg Int32.toInt (show FIj1114 121 101 = g1117 from kp1118); omega) (show rl_wm (FIj1114 121 90) (FIj1114 165) (FIj1114 166) from rl1132)) (fun v1157 sv1158 p1159 => ?_)
            have := congrArg Int32.toInt (show FIj1114 121 90 = x1 from kp1119)
            have := congrArg Int32.toInt (show FIj1114 121 101 = g1117 from kp1118)
            obtain ⟨rfl, FI1161, FL1162, rfl, hI1163, f1164, f1165, t1166, t1167, u1168, rl1169⟩ := p1159
            have rl1170 : rl_b (FI1161 139) (FI1161 140) (FI1161 141) := by rw [show FI1161 139 = FIj1114 139 from gf_row f1164 (c139 hS) (s139 hS) rfl rfl, show FI1161 140 = FIj1114 140 from gf_row f1164 (c140 hS) (s140 hS) rfl rfl, show FI1161 141 = FIj1114 141 from gf_row f1164 (c141 hS) (s141 hS) rfl rfl]; exact rl1128
            have rl1171 : rl_h 2 (FI1161 136) (FL1162 137) (FI1161 138) := by rw [show FI1161 136 = FIj1114 136 from gf_row f1164 (c136 hS) (s136 hS) rfl rfl, show FL1162 137 = FLj1123 137 from gf_row f1165 (c137 hS) (s137 hS) rfl rfl, show FI1161 138 = FIj1114 138 from gf_row f1164 (c138 hS) (s138 hS) rfl rfl]; exact rl1129
            have rl1172 : rl_t (FI1161 152) (FL1162 153) := by rw [show FI1161 152 = FIj1114 152 from gf_row f1164 (c152 hS) (s152 hS) rfl rfl, show FL1162 153 = FLj1123 153 from gf_row f1165 (c153 hS) (s153 hS) rfl rfl]; exact rl1130
            have rl1173 : rl_h 32 (FI1161 130) (FL1162 131) (FI1161 134) := by rw [show FI1161 130 = FIj1114 130 from gf_row f1164 (c130 hS) (s130 hS) rfl rfl, show FL1162 131 = FLj1123 131 from gf_row f1165 (c131 hS) (s131 hS) rfl rfl, show FI1161 134 = FIj1114 134 from gf_row f1164 (c134 hS) (s134 hS) rfl rfl]; exact rl1131
            obtain ⟨x1174, h1175⟩ : ∃ y, FI1161 121 90 = y := ⟨_, rfl⟩
            have h1175l := congrArg Int32.toInt h1175
            have b1176 := gI_121_90 hI1163; rw [h1175] at b1176
            have := congrArg Int32.toInt (show FI1161 121 101 = g1117 from (gf_at f1164 (c121 hS) (s121 hS) rfl (kp1118)))
            show hw zk base _ _ _ _ _ [] _ _
            refine hw_ic (v := (1 : Int32)) (aX12_meansOperand 168 rfl) (by decide) ?_
            refine xw_iret (aX12_meansOperand 169 rfl) rfl (by decide) ?_
            have e1177 : ((1 : Int32)).toInt = 1 := (by decide : (1 : Int32).toInt = 1)
            exact ⟨(1 : Int32), rfl, FI1161, FL1162, rfl, hI1163, (gf_tr ex_rf fr1115 f1164 rfl rfl rfl), (gf_tr ex_rf fr1124 f1165 rfl rfl rfl), (by have : ((1 : Int32)).toInt = 1 := (by decide); omega), (by have := congrArg Int32.toInt (show FI1161 121 92 = g1120 from (gf_at f1164 (c121 hS) (s121 hS) rfl (kp1121))); have := congrArg Int32.toInt (show FI1161 121 101 = g1117 from (gf_at f1164 (c121 hS) (s121 hS) rfl (kp1118))); have hz : (((1 : Int32))).toInt = 1 := (by decide : (1 : Int32).toInt = 1); intro q b m hst; have hm : (sk (FI1161 166) (FI1161 121 90).toInt.toNat) = au_fin (sk (FI 166) (FI 121 90).toInt.toNat) := (by rw [show FI1161 166 = FIj1114 166 from (gf_row f1164 (c166 hS) (s166 hS) rfl (rfl)), show FI1161 121 90 = FI1161 121 90 from (h1175).trans (h1175).symm, u1168, show FIj1114 166 = FI 166 from rw1126, show FIj1114 121 90 = FI 121 90 from (kp1119).trans (h2).symm]); obtain ⟨e1, e2, e3⟩ := fc314_0 q b m hst; subst e2; refine ⟨by simp <;> omega, by omega, by rw [e3]; exact hm, ?_⟩; rw [e3, au_vc_fin, if_neg (by decide)]; omega), (show rl_wm (FI1161 121 90) (FI1161 165) (FI1161 166) from rl1169), (show rl_h 2 (FI1161 136) (FL1162 137) (FI1161 138) from rl1171), (show rl_h 32 (FI1161 130) (FL1162 131) (FI1161 134) from rl1173), (show rl_b (FI1161 139) (FI1161 140) (FI1161 141) from rl1170)⟩
          refine hw_icne (tgt := 157) (aX12_meansOperand 82 rfl) (by decide) rfl (by decide : (3 : Int32).toInt = 3) (fun cd1178 => ?_) (fun cd1178 => ?_)
          · refine xw_iloadn (aX12_meansOperand 87 rfl) rfl ?_
            refine hw_ic (v := (5 : Int32)) (aX12_meansOperand 88 rfl) (by decide) ?_
            refine hw_icne (tgt := 194) (aX12_meansOperand 89 rfl) (by decide) rfl (by decide : (5 : Int32).toInt = 5) (fun cd1179 => ?_) (fun cd1179 => ?_)
            · refine xw_lloadn (aX12_meansOperand 108 rfl) rfl ?_
              refine xw_ldc2 (aX12_meansOperand 109 rfl) wk_RX12_702 ?_
              refine hw_lcne (tgt := 256) (aX12_meansOperand 110 rfl) (aX12_meansOperand 111 rfl) (by decide) rfl (by decide : (5 : Int64).toInt = 5) (fun cd1180 => ?_) (fun cd1180 => ?_)
              · refine xw_lloadn (aX12_meansOperand 139 rfl) rfl ?_
                refine xw_ldc2 (aX12_meansOperand 140 rfl) wk_RX12_707 ?_
                refine hw_lcne (tgt := 295) (aX12_meansOperand 141 rfl) (aX12_meansOperand 142 rfl) (by decide) rfl (by decide : (6 : Int64).toInt = 6) (fun cd1181 => ?_) (fun cd1181 => ?_)
                · refine hw_aloadn (aX12_meansOperand 157 rfl) rfl ?_
                  refine hw_callV (Bs := []) (rest := []) (aX12_meansOperand 158 rfl) wc_RX12_704 (by decide) rfl wi_yX12_does wv_yX12_does (c121 hS) (s121 hS) rfl rfl rfl (Nat.le_of_ble_eq_true rfl) (Nat.le_of_ble_eq_true rfl) (n_does (d := d + 5) hS hF hI883 ) (fun v1182 sv1183 p1184 => ?_)
                  obtain ⟨r1185, rfl, rfl, t1187⟩ := p1184
                  show hw zk base _ _ _ _ _ [.int (r1185)] _ _
                  have j1240 : ∀  (FIj1203 : Nat → Nat → Int32) (FLj1210 : Nat → Nat → Int64), (g_fr n SH [(121, 29), (121, 30), (121, 31), (121, 32), (121, 33), (121, 34), (121, 37), (121, 38), (121, 90), (121, 92), (121, 93), (121, 101)] [128, 129, 130, 132, 133, 134, 135, 136, 138, 139, 140, 141, 142, 165, 166] [] FI FIj1203) → (g_I FIj1203) → (FIj1203 121 101 = x7) → (FIj1203 121 90 = x1) → (FIj1203 121 92 = x874) → (FIj1203 152 (x4).toNatClampNeg = x10) → (g_fr n SH [(121, 35), (121, 36), (121, 39)] [127, 131, 137, 173] [] FL FLj1210) → (FLj1210 153 (x4).toNatClampNeg = x12) → (FIj1203 166 = FI 166) → (FIj1203 152 = FI 152) → (rl_b (FIj1203 139) (FIj1203 140) (FIj1203 141)) → (rl_h 2 (FIj1203 136) (FLj1210 137) (FIj1203 138)) → (rl_t (FIj1203 152) (FLj1210 153)) → (rl_h 32 (FIj1203 130) (FLj1210 131) (FIj1203 134)) → (rl_wm (FIj1203 121 90) (FIj1203 165) (FIj1203 166)) → hw zk base (d + 6) none 261 306 [(0, .ref (base + 121))] [] (n, sl, SH, FIj1203, FLj1210, FR) (h_I (fun r s => ∃ FI' FL', s = (n, sl, SH, FI', FL', FR) ∧ g_I FI' ∧ g_fr n SH [(121, 29), (121, 30), (121, 31), (121, 32), (121, 33), (121, 34), (121, 37), (121, 38), (121, 90), (121, 92), (121, 93), (121, 101)] [128, 129, 130, 132, 133, 134, 135, 136, 138, 139, 140, 141, 142, 165, 166] [] FI FI' ∧ g_fr n SH [(121, 35), (121, 36), (121, 39)] [127, 131, 137, 173] [] FL FL' ∧ (0 ≤ r.toInt ∧ r.toInt ≤ 1) ∧ (∀ q b m, au_st (kf (FI 152)) (wf (FL 153)) (FI 121 92).toInt.toNat true (sk (FI 166) (FI 121 90).toInt.toNat) q b m → r.toInt = (if b then 0 else 1) ∧ (FI' 121 92).toInt.toNat = q ∧ (sk (FI' 166) (FI' 121 90).toInt.toNat) = m ∧ (FI' 121 101).toInt = (au_vc m : Int) + (if b then 0 else 1)) ∧ (rl_wm (FI' 121 90) (FI' 165) (FI' 166)) ∧ (rl_h 2 (FI' 136) (FL' 137) (FI' 138)) ∧ (rl_h 32 (FI' 130) (FL' 131) (FI' 134)) ∧ (rl_b (FI' 139) (FI' 140) (FI' 141)))) := by
                    intro FIj1203 FLj1210 fr1204 hI1205 kp1206 kp1207 kp1208 kp1209 fr1211 kp1212 rw1213 rw1214 rl1215 rl1216 rl1217 rl1218 rl1219
                    have := congrArg Int32.toInt kp1206
                    have := congrArg Int32.toInt kp1207
                    have := congrArg Int32.toInt kp1208
                    have := congrArg Int32.toInt kp1209
                    have := congrArg Int64.toInt kp1212
                    refine hw_aloadn (aX12_meansOperand 162 rfl) rfl ?_
                    refine hw_aloadn (aX12_meansOperand 163 rfl) rfl ?_
                    obtain ⟨x1241, h1242⟩ : ∃ y, FLj1210 121 39 = y := ⟨_, rfl⟩
                    have h1242l := congrArg Int64.toInt h1242
                    have := l_rng x1241
                    refine hw_get (v := .long (x1241)) (aX12_meansOperand 164 rfl) wf_RX12_252 (c121 hS) (s121 hS) (by decide) (congrArg Value.long (show FLj1210 121 39 = x1241 from h1242)) ?_
                    refine hw_callV (Bs := [.long (x1241)]) (rest := []) (aX12_meansOperand 165 rfl) wc_RX12_699 (by decide) rfl wi_yX12_value wv_yX12_value (c121 hS) (s121 hS) rfl rfl rfl (Nat.le_of_ble_eq_true rfl) (Nat.le_of_ble_eq_true rfl) (n_value (d := d + 5) hS hF hI1205 (x1241) (by have := congrArg Int32.toInt (show FIj1203 121 101 = x7 from kp1206); omega)) (fun v1243 sv1244 p1245 => ?_)
                    have := congrArg Int32.toInt (show FIj1203 121 101 = x7 from kp1206)
                    obtain ⟨rfl, FI1247, FL1248, rfl, hI1249, f1250, f1251, t1252⟩ := p1245
                    have rl1253 : rl_b (FI1247 139) (FI1247 140) (FI1247 141) := by rw [show FI1247 139 = FIj1203 139 from gf_row f1250 (c139 hS) (s139 hS) rfl rfl, show FI1247 140 = FIj1203 140 from gf_row f1250 (c140 hS) (s140 hS) rfl rfl, show FI1247 141 = FIj1203 141 from gf_row f1250 (c141 hS) (s141 hS) rfl rfl]; exact rl1215
                    have rl1254 : rl_h 2 (FI1247 136) (FL1248 137) (FI1247 138) := by rw [show FI1247 136 = FIj1203 136 from gf_row f1250 (c136 hS) (s136 hS) rfl rfl, show FL1248 137 = FLj1210 137 from gf_row f1251 (c137 hS) (s137 hS) rfl rfl, show FI1247 138 = FIj1203 138 from gf_row f1250 (c138 hS) (s138 hS) rfl rfl]; exact rl1216
                    have rl1255 : rl_t (FI1247 152) (FL1248 153) := by rw [show FI1247 152 = FIj1203 152 from gf_row f1250 (c152 hS) (s152 hS) rfl rfl, show FL1248 153 = FLj1210 153 from gf_row f1251 (c153 hS) (s153 hS) rfl rfl]; exact rl1217
                    have rl1256 : rl_h 32 (FI1247 130) (FL1248 131) (FI1247 134) := by rw [show FI1247 130 = FIj1203 130 from gf_row f1250 (c130 hS) (s130 hS) rfl rfl, show FL1248 131 = FLj1210 131 from gf_row f1251 (c131 hS) (s131 hS) rfl rfl, show FI1247 134 = FIj1203 134 from gf_row f1250 (c134 hS) (s134 hS) rfl rfl]; exact rl1218
                    have rl1257 : rl_wm (FI1247 121 90) (FI1247 165) (FI1247 166) := by rw [show FI1247 165 = FIj1203 165 from gf_row f1250 (c165 hS) (s165 hS) rfl rfl, show FI1247 166 = FIj1203 166 from gf_row f1250 (c166 hS) (s166 hS) rfl rfl, show FI1247 121 90 = FIj1203 121 90 from gf_at f1250 (c121 hS) (s121 hS) rfl rfl]; exact rl1219
                    obtain ⟨x1258, h1259⟩ : ∃ y, FI1247 121 101 = y := ⟨_, rfl⟩
                    have h1259l := congrArg Int32.toInt h1259
                    have b1260 := gI_121_101 hI1249; rw [h1259] at b1260
                    show hw zk base _ _ _ _ _ [] _ _
                    exact hw_L (j1154 (x1258) (x874) FI1247 FL1248 (gf_tr ex_rf fr1204 f1250 rfl rfl rfl) hI1249 (show FI1247 121 101 = x1258 from h1259) (by show 0 ≤ (x1258).toInt ∧ (x1258).toInt ≤ 512; omega) (show FI1247 121 90 = x1 from (gf_at f1250 (c121 hS) (s121 hS) rfl (kp1207))) (show FI1247 121 92 = x874 from (gf_at f1250 (c121 hS) (s121 hS) rfl (kp1208))) (by have := (e875 : (x874).toInt = ((x4).toInt) + (1)); show 1 ≤ (x874).toInt ∧ (x874).toInt ≤ 1001; omega) (show FI1247 152 (x4).toNatClampNeg = x10 from (gf_at f1250 (c152 hS) (s152 hS) rfl (kp1209))) (gf_tr ex_rf fr1211 f1251 rfl rfl rfl) (show FL1248 153 (x4).toNatClampNeg = x12 from (gf_at f1251 (c153 hS) (s153 hS) rfl (kp1212))) (show FI1247 166 = FI 166 from (gf_row f1250 (c166 hS) (s166 hS) rfl (rw1213))) (show FI1247 152 = FI 152 from (gf_row f1250 (c152 hS) (s152 hS) rfl (rw1214))) (show rl_b (FI1247 139) (FI1247 140) (FI1247 141) from rl1253) (show rl_h 2 (FI1247 136) (FL1248 137) (FI1247 138) from rl1254) (show rl_t (FI1247 152) (FL1248 153) from rl1255) (show rl_h 32 (FI1247 130) (FL1248 131) (FI1247 134) from rl1256) (show rl_wm (FI1247 121 90) (FI1247 165) (FI1247 166) from rl1257) (show ∀ q b m, au_st (kf (FI 152)) (wf (FL 153)) (FI 121 92).toInt.toNat true (sk (FI 166) (FI 121 90).toInt.toNat) q b m → q = ((x874).toInt).toNat ∧ b = false ∧ m = au_fin (sk (FI 166) (FI 121 90).toInt.toNat) from (by { intro q b m h; obtain ⟨e1, e2, e3⟩ := au_st_v h hnu (by rw [hk1]; omega); exact ⟨by have := congrArg Int32.toInt (show FI1247 121 92 = x874 from (gf_at f1250 (c121 hS) (s121 hS) rfl (kp1208))); have := (e875 : (x874).toInt = ((x4).toInt) + (1)); omega, e2, e3⟩ })) (by show (x1258).toInt = (FI 121 101).toInt + 1; omega)) ⟨rfl, trivial⟩
                  refine hw_ifeq (tgt := 306) (aX12_meansOperand 159 rfl) (by decide) rfl (fun cd1261 => ?_) (fun cd1261 => ?_)
                  · exact hw_L (j1240 FI876 FL (gf_f gf_rf u877 (by decide)) hI883 (show FI876 121 101 = x7 from (up_k u877 (by decide) (h8))) (show FI876 121 90 = x1 from (up_k u877 (by decide) (h2))) (show FI876 121 92 = x874 from up_eq u877) (show FI876 152 (x4).toNatClampNeg = x10 from (up_c u877 (by decide) (h11))) gf_rf (show FL 153 (x4).toNatClampNeg = x12 from h13) (show FI876 166 = FI 166 from (up_row u877 (by decide) (rfl))) (show FI876 152 = FI 152 from (up_row u877 (by decide) (rfl))) (show rl_b (FI876 139) (FI876 140) (FI876 141) from rl878) (show rl_h 2 (FI876 136) (FL 137) (FI876 138) from rl879) (show rl_t (FI876 152) (FL 153) from rl880) (show rl_h 32 (FI876 130) (FL 131) (FI876 134) from rl881) (show rl_wm (FI876 121 90) (FI876 165) (FI876 166) from rl882)) ⟨rfl, trivial⟩
                  · refine hw_aloadn (aX12_meansOperand 160 rfl) rfl ?_
                    refine hw_callV (Bs := []) (rest := []) (aX12_meansOperand 161 rfl) wc_RX12_709 (by decide) rfl wi_yX12_bases wv_yX12_bases (c121 hS) (s121 hS) rfl rfl rfl (Nat.le_of_ble_eq_true rfl) (Nat.le_of_ble_eq_true rfl) (n_bases (d := d) hS hF hI883 (show rl_h 2 (FI876 136) (FL 137) (FI876 138) from rl879) (show rl_h 32 (FI876 130) (FL 131) (FI876 134) from rl881) (show rl_b (FI876 139) (FI876 140) (FI876 141) from rl878)) (fun v1262 sv1263 p1264 => ?_)
                    obtain ⟨rfl, FI1266, FL1267, rfl, hI1268, f1269, f1270, rl1271, rl1272, rl1273⟩ := p1264
                    have rl1274 : rl_t (FI1266 152) (FL1267 153) := by rw [show FI1266 152 = FI876 152 from gf_row f1269 (c152 hS) (s152 hS) rfl rfl, show FL1267 153 = FL 153 from gf_row f1270 (c153 hS) (s153 hS) rfl rfl]; exact rl880
                    have rl1275 : rl_wm (FI1266 121 90) (FI1266 165) (FI1266 166) := by rw [show FI1266 165 = FI876 165 from gf_row f1269 (c165 hS) (s165 hS) rfl rfl, show FI1266 166 = FI876 166 from gf_row f1269 (c166 hS) (s166 hS) rfl rfl, show FI1266 121 90 = FI876 121 90 from gf_at f1269 (c121 hS) (s121 hS) rfl rfl]; exact rl882
                    show hw zk base _ _ _ _ _ [] _ _
                    exact hw_L (j1240 FI1266 FL1267 (gf_tr ex_rf (gf_f gf_rf u877 (by decide)) f1269 rfl rfl rfl) hI1268 (show FI1266 121 101 = x7 from (gf_at f1269 (c121 hS) (s121 hS) rfl ((up_k u877 (by decide) (h8))))) (show FI1266 121 90 = x1 from (gf_at f1269 (c121 hS) (s121 hS) rfl ((up_k u877 (by decide) (h2))))) (show FI1266 121 92 = x874 from (gf_at f1269 (c121 hS) (s121 hS) rfl (up_eq u877))) (show FI1266 152 (x4).toNatClampNeg = x10 from (gf_at f1269 (c152 hS) (s152 hS) rfl ((up_c u877 (by decide) (h11))))) (gf_tr ex_rf gf_rf f1270 rfl rfl rfl) (show FL1267 153 (x4).toNatClampNeg = x12 from (gf_at f1270 (c153 hS) (s153 hS) rfl (h13))) (show FI1266 166 = FI 166 from (gf_row f1269 (c166 hS) (s166 hS) rfl ((up_row u877 (by decide) (rfl))))) (show FI1266 152 = FI 152 from (gf_row f1269 (c152 hS) (s152 hS) rfl ((up_row u877 (by decide) (rfl))))) (show rl_b (FI1266 139) (FI1266 140) (FI1266 141) from rl1273) (show rl_h 2 (FI1266 136) (FL1267 137) (FI1266 138) from rl1271) (show rl_t (FI1266 152) (FL1267 153) from rl1274) (show rl_h 32 (FI1266 130) (FL1267 131) (FI1266 134) from rl1272) (show rl_wm (FI1266 121 90) (FI1266 165) (FI1266 166) from rl1275)) ⟨rfl, trivial⟩
                · refine hw_aloadn (aX12_meansOperand 143 rfl) rfl ?_
                  refine hw_callV (Bs := []) (rest := []) (aX12_meansOperand 144 rfl) wc_RX12_704 (by decide) rfl wi_yX12_does wv_yX12_does (c121 hS) (s121 hS) rfl rfl rfl (Nat.le_of_ble_eq_true rfl) (Nat.le_of_ble_eq_true rfl) (n_does (d := d + 5) hS hF hI883 ) (fun v1276 sv1277 p1278 => ?_)
                  obtain ⟨r1279, rfl, rfl, t1281⟩ := p1278
                  show hw zk base _ _ _ _ _ [.int (r1279)] _ _
                  have j1329 : ∀  (FIj1295 : Nat → Nat → Int32), (g_fr n SH [(121, 29), (121, 30), (121, 31), (121, 32), (121, 33), (121, 34), (121, 37), (121, 38), (121, 90), (121, 92), (121, 93), (121, 101)] [128, 129, 130, 132, 133, 134, 135, 136, 138, 139, 140, 141, 142, 165, 166] [] FI FIj1295) → (g_I FIj1295) → (FIj1295 121 101 = x7) → (FIj1295 121 90 = x1) → (FIj1295 121 92 = x874) → (FIj1295 152 (x4).toNatClampNeg = x10) → (FIj1295 166 = FI 166) → (FIj1295 152 = FI 152) → (rl_b (FIj1295 139) (FIj1295 140) (FIj1295 141)) → (rl_h 2 (FIj1295 136) (FL 137) (FIj1295 138)) → (rl_t (FIj1295 152) (FL 153)) → (rl_h 32 (FIj1295 130) (FL 131) (FIj1295 134)) → (rl_wm (FIj1295 121 90) (FIj1295 165) (FIj1295 166)) → hw zk base (d + 6) none 261 284 [(0, .ref (base + 121))] [] (n, sl, SH, FIj1295, FL, FR) (h_I (fun r s => ∃ FI' FL', s = (n, sl, SH, FI', FL', FR) ∧ g_I FI' ∧ g_fr n SH [(121, 29), (121, 30), (121, 31), (121, 32), (121, 33), (121, 34), (121, 37), (121, 38), (121, 90), (121, 92), (121, 93), (121, 101)] [128, 129, 130, 132, 133, 134, 135, 136, 138, 139, 140, 141, 142, 165, 166] [] FI FI' ∧ g_fr n SH [(121, 35), (121, 36), (121, 39)] [127, 131, 137, 173] [] FL FL' ∧ (0 ≤ r.toInt ∧ r.toInt ≤ 1) ∧ (∀ q b m, au_st (kf (FI 152)) (wf (FL 153)) (FI 121 92).toInt.toNat true (sk (FI 166) (FI 121 90).toInt.toNat) q b m → r.toInt = (if b then 0 else 1) ∧ (FI' 121 92).toInt.toNat = q ∧ (sk (FI' 166) (FI' 121 90).toInt.toNat) = m ∧ (FI' 121 101).toInt = (au_vc m : Int) + (if b then 0 else 1)) ∧ (rl_wm (FI' 121 90) (FI' 165) (FI' 166)) ∧ (rl_h 2 (FI' 136) (FL' 137) (FI' 138)) ∧ (rl_h 32 (FI' 130) (FL' 131) (FI' 134)) ∧ (rl_b (FI' 139) (FI' 140) (FI' 141)))) := by
                    intro FIj1295 fr1296 hI1297 kp1298 kp1299 kp1300 kp1301 rw1302 rw1303 rl1304 rl1305 rl1306 rl1307 rl1308
                    have := congrArg Int32.toInt kp1298
                    have := congrArg Int32.toInt kp1299
                    have := congrArg Int32.toInt kp1300
                    have := congrArg Int32.toInt kp1301
                    refine hw_aloadn (aX12_meansOperand 152 rfl) rfl ?_
                    refine hw_aloadn (aX12_meansOperand 153 rfl) rfl ?_
                    obtain ⟨x1330, h1331⟩ : ∃ y, FL 121 8 = y := ⟨_, rfl⟩
                    have h1331l := congrArg Int64.toInt h1331
                    have := l_rng x1330
                    refine hw_get (v := .long (x1330)) (aX12_meansOperand 154 rfl) wf_RX12_205 (c121 hS) (s121 hS) (by decide) (congrArg Value.long (show FL 121 8 = x1330 from h1331)) ?_
                    refine hw_callV (Bs := [.long (x1330)]) (rest := []) (aX12_meansOperand 155 rfl) wc_RX12_699 (by decide) rfl wi_yX12_value wv_yX12_value (c121 hS) (s121 hS) rfl rfl rfl (Nat.le_of_ble_eq_true rfl) (Nat.le_of_ble_eq_true rfl) (n_value (d := d + 5) hS hF hI1297 (x1330) (by have := congrArg Int32.toInt (show FIj1295 121 101 = x7 from kp1298); omega)) (fun v1332 sv1333 p1334 => ?_)
                    have := congrArg Int32.toInt (show FIj1295 121 101 = x7 from kp1298)
                    obtain ⟨rfl, FI1336, FL1337, rfl, hI1338, f1339, f1340, t1341⟩ := p1334
                    have rl1342 : rl_b (FI1336 139) (FI1336 140) (FI1336 141) := by rw [show FI1336 139 = FIj1295 139 from gf_row f1339 (c139 hS) (s139 hS) rfl rfl, show FI1336 140 = FIj1295 140 from gf_row f1339 (c140 hS) (s140 hS) rfl rfl, show FI1336 141 = FIj1295 141 from gf_row f1339 (c141 hS) (s141 hS) rfl rfl]; exact rl1304
                    have rl1343 : rl_h 2 (FI1336 136) (FL1337 137) (FI1336 138) := by rw [show FI1336 136 = FIj1295 136 from gf_row f1339 (c136 hS) (s136 hS) rfl rfl, show FL1337 137 = FL 137 from gf_row f1340 (c137 hS) (s137 hS) rfl rfl, show FI1336 138 = FIj1295 138 from gf_row f1339 (c138 hS) (s138 hS) rfl rfl]; exact rl1305
                    have rl1344 : rl_t (FI1336 152) (FL1337 153) := by rw [show FI1336 152 = FIj1295 152 from gf_row f1339 (c152 hS) (s152 hS) rfl rfl, show FL1337 153 = FL 153 from gf_row f1340 (c153 hS) (s153 hS) rfl rfl]; exact rl1306
                    have rl1345 : rl_h 32 (FI1336 130) (FL1337 131) (FI1336 134) := by rw [show FI1336 130 = FIj1295 130 from gf_row f1339 (c130 hS) (s130 hS) rfl rfl, show FL1337 131 = FL 131 from gf_row f1340 (c131 hS) (s131 hS) rfl rfl, show FI1336 134 = FIj1295 134 from gf_row f1339 (c134 hS) (s134 hS) rfl rfl]; exact rl1307
                    have rl1346 : rl_wm (FI1336 121 90) (FI1336 165) (FI1336 166) := by rw [show FI1336 165 = FIj1295 165 from gf_row f1339 (c165 hS) (s165 hS) rfl rfl, show FI1336 166 = FIj1295 166 from gf_row f1339 (c166 hS) (s166 hS) rfl rfl, show FI1336 121 90 = FIj1295 121 90 from gf_at f1339 (c121 hS) (s121 hS) rfl rfl]; exact rl1308
                    obtain ⟨x1347, h1348⟩ : ∃ y, FI1336 121 101 = y := ⟨_, rfl⟩
                    have h1348l := congrArg Int32.toInt h1348
                    have b1349 := gI_121_101 hI1338; rw [h1348] at b1349
                    show hw zk base _ _ _ _ _ [] _ _
                    refine xw_goto (tgt := 314) (aX12_meansOperand 156 rfl) (by decide) ?_
                    exact hw_L (j1154 (x1347) (x874) FI1336 FL1337 (gf_tr ex_rf fr1296 f1339 rfl rfl rfl) hI1338 (show FI1336 121 101 = x1347 from h1348) (by show 0 ≤ (x1347).toInt ∧ (x1347).toInt ≤ 512; omega) (show FI1336 121 90 = x1 from (gf_at f1339 (c121 hS) (s121 hS) rfl (kp1299))) (show FI1336 121 92 = x874 from (gf_at f1339 (c121 hS) (s121 hS) rfl (kp1300))) (by have := (e875 : (x874).toInt = ((x4).toInt) + (1)); show 1 ≤ (x874).toInt ∧ (x874).toInt ≤ 1001; omega) (show FI1336 152 (x4).toNatClampNeg = x10 from (gf_at f1339 (c152 hS) (s152 hS) rfl (kp1301))) (gf_tr ex_rf gf_rf f1340 rfl rfl rfl) (show FL1337 153 (x4).toNatClampNeg = x12 from (gf_at f1340 (c153 hS) (s153 hS) rfl (h13))) (show FI1336 166 = FI 166 from (gf_row f1339 (c166 hS) (s166 hS) rfl (rw1302))) (show FI1336 152 = FI 152 from (gf_row f1339 (c152 hS) (s152 hS) rfl (rw1303))) (show rl_b (FI1336 139) (FI1336 140) (FI1336 141) from rl1342) (show rl_h 2 (FI1336 136) (FL1337 137) (FI1336 138) from rl1343) (show rl_t (FI1336 152) (FL1337 153) from rl1344) (show rl_h 32 (FI1336 130) (FL1337 131) (FI1336 134) from rl1345) (show rl_wm (FI1336 121 90) (FI1336 165) (FI1336 166) from rl1346) (show ∀ q b m, au_st (kf (FI 152)) (wf (FL 153)) (FI 121 92).toInt.toNat true (sk (FI 166) (FI 121 90).toInt.toNat) q b m → q = ((x874).toInt).toNat ∧ b = false ∧ m = au_fin (sk (FI 166) (FI 121 90).toInt.toNat) from (by { intro q b m h; obtain ⟨e1, e2, e3⟩ := au_st_v h hnu (by rw [hk1]; omega); exact ⟨by have := congrArg Int32.toInt (show FI1336 121 92 = x874 from (gf_at f1339 (c121 hS) (s121 hS) rfl (kp1300))); have := (e875 : (x874).toInt = ((x4).toInt) + (1)); omega, e2, e3⟩ })) (by show (x1347).toInt = (FI 121 101).toInt + 1; omega)) ⟨rfl, trivial⟩
                  refine hw_ifeq (tgt := 284) (aX12_meansOperand 145 rfl) (by decide) rfl (fun cd1350 => ?_) (fun cd1350 => ?_)
                  · exact hw_L (j1329 FI876 (gf_f gf_rf u877 (by decide)) hI883 (show FI876 121 101 = x7 from (up_k u877 (by decide) (h8))) (show FI876 121 90 = x1 from (up_k u877 (by decide) (h2))) (show FI876 121 92 = x874 from up_eq u877) (show FI876 152 (x4).toNatClampNeg = x10 from (up_c u877 (by decide) (h11))) (show FI876 166 = FI 166 from (up_row u877 (by decide) (rfl))) (show FI876 152 = FI 152 from (up_row u877 (by decide) (rfl))) (show rl_b (FI876 139) (FI876 140) (FI876 141) from rl878) (show rl_h 2 (FI876 136) (FL 137) (FI876 138) from rl879) (show rl_t (FI876 152) (FL 153) from rl880) (show rl_h 32 (FI876 130) (FL 131) (FI876 134) from rl881) (show rl_wm (FI876 121 90) (FI876 165) (FI876 166) from rl882)) ⟨rfl, trivial⟩
                  · refine hw_aloadn (aX12_meansOperand 146 rfl) rfl ?_
                    obtain ⟨x1351, h1352⟩ : ∃ y, FI876 121 10 = y := ⟨_, rfl⟩
                    have h1352l := congrArg Int32.toInt h1352
                    have b1353 := gI_121_10 hI883; rw [h1352] at b1353
                    refine hw_get (v := .int (x1351)) (aX12_meansOperand 147 rfl) wf_RX12_208 (c121 hS) (s121 hS) (by decide) (congrArg Value.int (show FI876 121 10 = x1351 from h1352)) ?_
                    refine hw_ifne (tgt := 284) (aX12_meansOperand 148 rfl) (by decide) rfl (fun cd1354 => ?_) (fun cd1354 => ?_)
                    · exact hw_L (j1329 FI876 (gf_f gf_rf u877 (by decide)) hI883 (show FI876 121 101 = x7 from (up_k u877 (by decide) (h8))) (show FI876 121 90 = x1 from (up_k u877 (by decide) (h2))) (show FI876 121 92 = x874 from up_eq u877) (show FI876 152 (x4).toNatClampNeg = x10 from (up_c u877 (by decide) (h11))) (show FI876 166 = FI 166 from (up_row u877 (by decide) (rfl))) (show FI876 152 = FI 152 from (up_row u877 (by decide) (rfl))) (show rl_b (FI876 139) (FI876 140) (FI876 141) from rl878) (show rl_h 2 (FI876 136) (FL 137) (FI876 138) from rl879) (show rl_t (FI876 152) (FL 153) from rl880) (show rl_h 32 (FI876 130) (FL 131) (FI876 134) from rl881) (show rl_wm (FI876 121 90) (FI876 165) (FI876 166) from rl882)) ⟨rfl, trivial⟩
                    · refine hw_aloadn (aX12_meansOperand 149 rfl) rfl ?_
                      refine hw_bp (v := (11 : Int32)) (aX12_meansOperand 150 rfl) (by decide) ?_
                      refine hv_puti (aX12_meansOperand 151 rfl) wf_RX12_653 (c121 hS) (s121 hS) (by decide) rfl rfl (fun FI1355 u1356 => ?_)
                      have rl1357 : rl_b (FI1355 139) (FI1355 140) (FI1355 141) := by rw [show FI1355 139 = FI876 139 from up_row u1356 (by decide) rfl, show FI1355 140 = FI876 140 from up_row u1356 (by decide) rfl, show FI1355 141 = FI876 141 from up_row u1356 (by decide) rfl]; exact rl878
                      have rl1358 : rl_h 2 (FI1355 136) (FL 137) (FI1355 138) := by rw [show FI1355 136 = FI876 136 from up_row u1356 (by decide) rfl, show FI1355 138 = FI876 138 from up_row u1356 (by decide) rfl]; exact rl879
                      have rl1359 : rl_t (FI1355 152) (FL 153) := by rw [show FI1355 152 = FI876 152 from up_row u1356 (by decide) rfl]; exact rl880
                      have rl1360 : rl_h 32 (FI1355 130) (FL 131) (FI1355 134) := by rw [show FI1355 130 = FI876 130 from up_row u1356 (by decide) rfl, show FI1355 134 = FI876 134 from up_row u1356 (by decide) rfl]; exact rl881
                      have rl1361 : rl_wm (FI1355 121 90) (FI1355 165) (FI1355 166) := by rw [show FI1355 165 = FI876 165 from up_row u1356 (by decide) rfl, show FI1355 166 = FI876 166 from up_row u1356 (by decide) rfl, show FI1355 121 90 = FI876 121 90 from up_k u1356 (by decide) rfl]; exact rl882
                      have hI1362 : g_I FI1355 := gU_F hI883 u1356 rfl
                      exact hw_L (j1329 FI1355 (gf_f (gf_f gf_rf u877 (by decide)) u1356 (by decide)) hI1362 (show FI1355 121 101 = x7 from (up_k u1356 (by decide) ((up_k u877 (by decide) (h8))))) (show FI1355 121 90 = x1 from (up_k u1356 (by decide) ((up_k u877 (by decide) (h2))))) (show FI1355 121 92 = x874 from (up_k u1356 (by decide) (up_eq u877))) (show FI1355 152 (x4).toNatClampNeg = x10 from (up_c u1356 (by decide) ((up_c u877 (by decide) (h11))))) (show FI1355 166 = FI 166 from (up_row u1356 (by decide) ((up_row u877 (by decide) (rfl))))) (show FI1355 152 = FI 152 from (up_row u1356 (by decide) ((up_row u877 (by decide) (rfl))))) (show rl_b (FI1355 139) (FI1355 140) (FI1355 141) from rl1357) (show rl_h 2 (FI1355 136) (FL 137) (FI1355 138) from rl1358) (show rl_t (FI1355 152) (FL 153) from rl1359) (show rl_h 32 (FI1355 130) (FL 131) (FI1355 134) from rl1360) (show rl_wm (FI1355 121 90) (FI1355 165) (FI1355 166) from rl1361)) ⟨rfl, trivial⟩
              · refine hw_aloadn (aX12_meansOperand 112 rfl) rfl ?_
                refine hw_callV (Bs := []) (rest := []) (aX12_meansOperand 113 rfl) wc_RX12_704 (by decide) rfl wi_yX12_does wv_yX12_does (c121 hS) (s121 hS) rfl rfl rfl (Nat.le_of_ble_eq_true rfl) (Nat.le_of_ble_eq_true rfl) (n_does (d := d + 5) hS hF hI883 ) (fun v1363 sv1364 p1365 => ?_)
                obtain ⟨r1366, rfl, rfl, t1368⟩ := p1365
                show hw zk base _ _ _ _ _ [.int (r1366)] _ _
                have j1425 : ∀  (FIj1382 : Nat → Nat → Int32), (g_fr n SH [(121, 29), (121, 30), (121, 31), (121, 32), (121, 33), (121, 34), (121, 37), (121, 38), (121, 90), (121, 92), (121, 93), (121, 101)] [128, 129, 130, 132, 133, 134, 135, 136, 138, 139, 140, 141, 142, 165, 166] [] FI FIj1382) → (g_I FIj1382) → (FIj1382 121 101 = x7) → (FIj1382 121 90 = x1) → (FIj1382 121 92 = x874) → (FIj1382 152 (x4).toNatClampNeg = x10) → (FIj1382 166 = FI 166) → (FIj1382 152 = FI 152) → (rl_b (FIj1382 139) (FIj1382 140) (FIj1382 141)) → (rl_h 2 (FIj1382 136) (FL 137) (FIj1382 138)) → (rl_t (FIj1382 152) (FL 153)) → (rl_h 32 (FIj1382 130) (FL 131) (FIj1382 134)) → (rl_wm (FIj1382 121 90) (FIj1382 165) (FIj1382 166)) → hw zk base (d + 6) none 261 223 [(0, .ref (base + 121))] [] (n, sl, SH, FIj1382, FL, FR) (h_I (fun r s => ∃ FI' FL', s = (n, sl, SH, FI', FL', FR) ∧ g_I FI' ∧ g_fr n SH [(121, 29), (121, 30), (121, 31), (121, 32), (121, 33), (121, 34), (121, 37), (121, 38), (121, 90), (121, 92), (121, 93), (121, 101)] [128, 129, 130, 132, 133, 134, 135, 136, 138, 139, 140, 141, 142, 165, 166] [] FI FI' ∧ g_fr n SH [(121, 35), (121, 36), (121, 39)] [127, 131, 137, 173] [] FL FL' ∧ (0 ≤ r.toInt ∧ r.toInt ≤ 1) ∧ (∀ q b m, au_st (kf (FI 152)) (wf (FL 153)) (FI 121 92).toInt.toNat true (sk (FI 166) (FI 121 90).toInt.toNat) q b m → r.toInt = (if b then 0 else 1) ∧ (FI' 121 92).toInt.toNat = q ∧ (sk (FI' 166) (FI' 121 90).toInt.toNat) = m ∧ (FI' 121 101).toInt = (au_vc m : Int) + (if b then 0 else 1)) ∧ (rl_wm (FI' 121 90) (FI' 165) (FI' 166)) ∧ (rl_h 2 (FI' 136) (FL' 137) (FI' 138)) ∧ (rl_h 32 (FI' 130) (FL' 131) (FI' 134)) ∧ (rl_b (FI' 139) (FI' 140) (FI' 141)))) := by
                  intro FIj1382 fr1383 hI1384 kp1385 kp1386 kp1387 kp1388 rw1389 rw1390 rl1391 rl1392 rl1393 rl1394 rl1395
                  have := congrArg Int32.toInt kp1385
                  have := congrArg Int32.toInt kp1386
                  have := congrArg Int32.toInt kp1387
                  have := congrArg Int32.toInt kp1388
                  refine hw_aloadn (aX12_meansOperand 122 rfl) rfl ?_
                  refine hw_aloadn (aX12_meansOperand 123 rfl) rfl ?_
                  obtain ⟨x1426, h1427⟩ : ∃ y, FIj1382 121 6 = y := ⟨_, rfl⟩
                  have h1427l := congrArg Int32.toInt h1427
                  have b1428 := gI_121_6 hI1384; rw [h1427] at b1428
                  refine hw_get (v := .int (x1426)) (aX12_meansOperand 124 rfl) wf_RX12_27 (c121 hS) (s121 hS) (by decide) (congrArg Value.int (show FIj1382 121 6 = x1426 from h1427)) ?_
                  refine hw_ic (v := ((-1) : Int32)) (aX12_meansOperand 125 rfl) (by decide) ?_
                  have j1455 : ∀ (g1436 : Int64), hw zk base (d + 6) none 261 250 [(0, .ref (base + 121))] [.long (g1436), .ref (base + 121)] (n, sl, SH, FIj1382, FL, FR) (h_I (fun r s => ∃ FI' FL', s = (n, sl, SH, FI', FL', FR) ∧ g_I FI' ∧ g_fr n SH [(121, 29), (121, 30), (121, 31), (121, 32), (121, 33), (121, 34), (121, 37), (121, 38), (121, 90), (121, 92), (121, 93), (121, 101)] [128, 129, 130, 132, 133, 134, 135, 136, 138, 139, 140, 141, 142, 165, 166] [] FI FI' ∧ g_fr n SH [(121, 35), (121, 36), (121, 39)] [127, 131, 137, 173] [] FL FL' ∧ (0 ≤ r.toInt ∧ r.toInt ≤ 1) ∧ (∀ q b m, au_st (kf (FI 152)) (wf (FL 153)) (FI 121 92).toInt.toNat true (sk (FI 166) (FI 121 90).toInt.toNat) q b m → r.toInt = (if b then 0 else 1) ∧ (FI' 121 92).toInt.toNat = q ∧ (sk (FI' 166) (FI' 121 90).toInt.toNat) = m ∧ (FI' 121 101).toInt = (au_vc m : Int) + (if b then 0 else 1)) ∧ (rl_wm (FI' 121 90) (FI' 165) (FI' 166)) ∧ (rl_h 2 (FI' 136) (FL' 137) (FI' 138)) ∧ (rl_h 32 (FI' 130) (FL' 131) (FI' 134)) ∧ (rl_b (FI' 139) (FI' 140) (FI' 141)))) := by
                    intro g1436
                    have rg_g1436 := l_rng g1436
                    refine hw_callV (Bs := [.long (g1436)]) (rest := []) (aX12_meansOperand 137 rfl) wc_RX12_699 (by decide) rfl wi_yX12_value wv_yX12_value (c121 hS) (s121 hS) rfl rfl rfl (Nat.le_of_ble_eq_true rfl) (Nat.le_of_ble_eq_true rfl) (n_value (d := d + 5) hS hF hI1384 (g1436) (by have := congrArg Int32.toInt (show FIj1382 121 101 = x7 from kp1385); omega)) (fun v1456 sv1457 p1458 => ?_)
                    have := congrArg Int32.toInt (show FIj1382 121 101 = x7 from kp1385)
                    obtain ⟨rfl, FI1460, FL1461, rfl, hI1462, f1463, f1464, t1465⟩ := p1458
                    have rl1466 : rl_b (FI1460 139) (FI1460 140) (FI1460 141) := by rw [show FI1460 139 = FIj1382 139 from gf_row f1463 (c139 hS) (s139 hS) rfl rfl, show FI1460 140 = FIj1382 140 from gf_row f1463 (c140 hS) (s140 hS) rfl rfl, show FI1460 141 = FIj1382 141 from gf_row f1463 (c141 hS) (s141 hS) rfl rfl]; exact rl1391
                    have rl1467 : rl_h 2 (FI1460 136) (FL1461 137) (FI1460 138) := by rw [show FI1460 136 = FIj1382 136 from gf_row f1463 (c136 hS) (s136 hS) rfl rfl, show FL1461 137 = FL 137 from gf_row f1464 (c137 hS) (s137 hS) rfl rfl, show FI1460 138 = FIj1382 138 from gf_row f1463 (c138 hS) (s138 hS) rfl rfl]; exact rl1392
                    have rl1468 : rl_t (FI1460 152) (FL1461 153) := by rw [show FI1460 152 = FIj1382 152 from gf_row f1463 (c152 hS) (s152 hS) rfl rfl, show FL1461 153 = FL 153 from gf_row f1464 (c153 hS) (s153 hS) rfl rfl]; exact rl1393
                    have rl1469 : rl_h 32 (FI1460 130) (FL1461 131) (FI1460 134) := by rw [show FI1460 130 = FIj1382 130 from gf_row f1463 (c130 hS) (s130 hS) rfl rfl, show FL1461 131 = FL 131 from gf_row f1464 (c131 hS) (s131 hS) rfl rfl, show FI1460 134 = FIj1382 134 from gf_row f1463 (c134 hS) (s134 hS) rfl rfl]; exact rl1394
                    have rl1470 : rl_wm (FI1460 121 90) (FI1460 165) (FI1460 166) := by rw [show FI1460 165 = FIj1382 165 from gf_row f1463 (c165 hS) (s165 hS) rfl rfl, show FI1460 166 = FIj1382 166 from gf_row f1463 (c166 hS) (s166 hS) rfl rfl, show FI1460 121 90 = FIj1382 121 90 from gf_at f1463 (c121 hS) (s121 hS) rfl rfl]; exact rl1395
                    obtain ⟨x1471, h1472⟩ : ∃ y, FI1460 121 101 = y := ⟨_, rfl⟩
                    have h1472l := congrArg Int32.toInt h1472
                    have b1473 := gI_121_101 hI1462; rw [h1472] at b1473
                    show hw zk base _ _ _ _ _ [] _ _
                    refine xw_goto (tgt := 314) (aX12_meansOperand 138 rfl) (by decide) ?_
                    exact hw_L (j1154 (x1471) (x874) FI1460 FL1461 (gf_tr ex_rf fr1383 f1463 rfl rfl rfl) hI1462 (show FI1460 121 101 = x1471 from h1472) (by show 0 ≤ (x1471).toInt ∧ (x1471).toInt ≤ 512; omega) (show FI1460 121 90 = x1 from (gf_at f1463 (c121 hS) (s121 hS) rfl (kp1386))) (show FI1460 121 92 = x874 from (gf_at f1463 (c121 hS) (s121 hS) rfl (kp1387))) (by have := (e875 : (x874).toInt = ((x4).toInt) + (1)); show 1 ≤ (x874).toInt ∧ (x874).toInt ≤ 1001; omega) (show FI1460 152 (x4).toNatClampNeg = x10 from (gf_at f1463 (c152 hS) (s152 hS) rfl (kp1388))) (gf_tr ex_rf gf_rf f1464 rfl rfl rfl) (show FL1461 153 (x4).toNatClampNeg = x12 from (gf_at f1464 (c153 hS) (s153 hS) rfl (h13))) (show FI1460 166 = FI 166 from (gf_row f1463 (c166 hS) (s166 hS) rfl (rw1389))) (show FI1460 152 = FI 152 from (gf_row f1463 (c152 hS) (s152 hS) rfl (rw1390))) (show rl_b (FI1460 139) (FI1460 140) (FI1460 141) from rl1466) (show rl_h 2 (FI1460 136) (FL1461 137) (FI1460 138) from rl1467) (show rl_t (FI1460 152) (FL1461 153) from rl1468) (show rl_h 32 (FI1460 130) (FL1461 131) (FI1460 134) from rl1469) (show rl_wm (FI1460 121 90) (FI1460 165) (FI1460 166) from rl1470) (show ∀ q b m, au_st (kf (FI 152)) (wf (FL 153)) (FI 121 92).toInt.toNat true (sk (FI 166) (FI 121 90).toInt.toNat) q b m → q = ((x874).toInt).toNat ∧ b = false ∧ m = au_fin (sk (FI 166) (FI 121 90).toInt.toNat) from (by { intro q b m h; obtain ⟨e1, e2, e3⟩ := au_st_v h hnu (by rw [hk1]; omega); exact ⟨by have := congrArg Int32.toInt (show FI1460 121 92 = x874 from (gf_at f1463 (c121 hS) (s121 hS) rfl (kp1387))); have := (e875 : (x874).toInt = ((x4).toInt) + (1)); omega, e2, e3⟩ })) (by show (x1471).toInt = (FI 121 101).toInt + 1; omega)) ⟨rfl, trivial⟩
                  refine hw_icne (tgt := 236) (aX12_meansOperand 126 rfl) (by decide) rfl (by decide : ((-1) : Int32).toInt = (-1)) (fun cd1474 => ?_) (fun cd1474 => ?_)
                  · refine hw_aloadn (aX12_meansOperand 129 rfl) rfl ?_
                    refine hw_get (v := .ref (base + 122)) (aX12_meansOperand 130 rfl) wf_RX12_7 (c121 hS) (s121 hS) (by decide) (congrArg (fun r => va_rf (h_rf base r)) (r121_1 hF)) ?_
                    refine hw_aloadn (aX12_meansOperand 131 rfl) rfl ?_
                    refine hw_get (v := .int (x1426)) (aX12_meansOperand 132 rfl) wf_RX12_27 (c121 hS) (s121 hS) (by decide) (congrArg Value.int (show FIj1382 121 6 = x1426 from h1427)) ?_
                    obtain ⟨x1475, h1476⟩ : ∃ y, FL 122 (x1426).toNatClampNeg = y := ⟨_, rfl⟩
                    have h1476l := congrArg Int64.toInt h1476
                    have := l_rng x1475
                    refine hw_lald (v := x1475) (aX12_meansOperand 133 rfl) (c122 hS) (s122 hS) (h_in rfl (by omega) (by omega)) (show FL 122 (x1426).toNatClampNeg = x1475 from h1476) ?_
                    refine hw_aloadn (aX12_meansOperand 134 rfl) rfl ?_
                    obtain ⟨x1477, h1478⟩ : ∃ y, FL 121 7 = y := ⟨_, rfl⟩
                    have h1478l := congrArg Int64.toInt h1478
                    have := l_rng x1477
                    refine hw_get (v := .long (x1477)) (aX12_meansOperand 135 rfl) wf_RX12_201 (c121 hS) (s121 hS) (by decide) (congrArg Value.long (show FL 121 7 = x1477 from h1478)) ?_
                    refine xw_ladd (aX12_meansOperand 136 rfl) ?_
                    refine hw_tl (fun x1479 => ?_)
                    have b1480 := l_rng x1479
                    exact hw_L (j1455 (x1479)) ⟨rfl, trivial⟩
                  · refine hw_lc (v := (0 : Int64)) (aX12_meansOperand 127 rfl) (by decide) ?_
                    refine xw_goto (tgt := 250) (aX12_meansOperand 128 rfl) (by decide) ?_
                    exact hw_L (j1455 ((0 : Int64))) ⟨rfl, trivial⟩
                refine hw_ifeq (tgt := 223) (aX12_meansOperand 114 rfl) (by decide) rfl (fun cd1481 => ?_) (fun cd1481 => ?_)
                · exact hw_L (j1425 FI876 (gf_f gf_rf u877 (by decide)) hI883 (show FI876 121 101 = x7 from (up_k u877 (by decide) (h8))) (show FI876 121 90 = x1 from (up_k u877 (by decide) (h2))) (show FI876 121 92 = x874 from up_eq u877) (show FI876 152 (x4).toNatClampNeg = x10 from (up_c u877 (by decide) (h11))) (show FI876 166 = FI 166 from (up_row u877 (by decide) (rfl))) (show FI876 152 = FI 152 from (up_row u877 (by decide) (rfl))) (show rl_b (FI876 139) (FI876 140) (FI876 141) from rl878) (show rl_h 2 (FI876 136) (FL 137) (FI876 138) from rl879) (show rl_t (FI876 152) (FL 153) from rl880) (show rl_h 32 (FI876 130) (FL 131) (FI876 134) from rl881) (show rl_wm (FI876 121 90) (FI876 165) (FI876 166) from rl882)) ⟨rfl, trivial⟩
                · refine hw_aloadn (aX12_meansOperand 115 rfl) rfl ?_
                  obtain ⟨x1482, h1483⟩ : ∃ y, FI876 121 6 = y := ⟨_, rfl⟩
                  have h1483l := congrArg Int32.toInt h1483
                  have b1484 := gI_121_6 hI883; rw [h1483] at b1484
                  refine hw_get (v := .int (x1482)) (aX12_meansOperand 116 rfl) wf_RX12_27 (c121 hS) (s121 hS) (by decide) (congrArg Value.int (show FI876 121 6 = x1482 from h1483)) ?_
                  refine hw_ic (v := ((-1) : Int32)) (aX12_meansOperand 117 rfl) (by decide) ?_
                  refine hw_icne (tgt := 223) (aX12_meansOperand 118 rfl) (by decide) rfl (by decide : ((-1) : Int32).toInt = (-1)) (fun cd1485 => ?_) (fun cd1485 => ?_)
                  · exact hw_L (j1425 FI876 (gf_f gf_rf u877 (by decide)) hI883 (show FI876 121 101 = x7 from (up_k u877 (by decide) (h8))) (show FI876 121 90 = x1 from (up_k u877 (by decide) (h2))) (show FI876 121 92 = x874 from up_eq u877) (show FI876 152 (x4).toNatClampNeg = x10 from (up_c u877 (by decide) (h11))) (show FI876 166 = FI 166 from (up_row u877 (by decide) (rfl))) (show FI876 152 = FI 152 from (up_row u877 (by decide) (rfl))) (show rl_b (FI876 139) (FI876 140) (FI876 141) from rl878) (show rl_h 2 (FI876 136) (FL 137) (FI876 138) from rl879) (show rl_t (FI876 152) (FL 153) from rl880) (show rl_h 32 (FI876 130) (FL 131) (FI876 134) from rl881) (show rl_wm (FI876 121 90) (FI876 165) (FI876 166) from rl882)) ⟨rfl, trivial⟩
                  · refine hw_aloadn (aX12_meansOperand 119 rfl) rfl ?_
                    refine hw_bp (v := (11 : Int32)) (aX12_meansOperand 120 rfl) (by decide) ?_
                    refine hv_puti (aX12_meansOperand 121 rfl) wf_RX12_653 (c121 hS) (s121 hS) (by decide) rfl rfl (fun FI1486 u1487 => ?_)
                    have rl1488 : rl_b (FI1486 139) (FI1486 140) (FI1486 141) := by rw [show FI1486 139 = FI876 139 from up_row u1487 (by decide) rfl, show FI1486 140 = FI876 140 from up_row u1487 (by decide) rfl, show FI1486 141 = FI876 141 from up_row u1487 (by decide) rfl]; exact rl878
                    have rl1489 : rl_h 2 (FI1486 136) (FL 137) (FI1486 138) := by rw [show FI1486 136 = FI876 136 from up_row u1487 (by decide) rfl, show FI1486 138 = FI876 138 from up_row u1487 (by decide) rfl]; exact rl879
                    have rl1490 : rl_t (FI1486 152) (FL 153) := by rw [show FI1486 152 = FI876 152 from up_row u1487 (by decide) rfl]; exact rl880
                    have rl1491 : rl_h 32 (FI1486 130) (FL 131) (FI1486 134) := by rw [show FI1486 130 = FI876 130 from up_row u1487 (by decide) rfl, show FI1486 134 = FI876 134 from up_row u1487 (by decide) rfl]; exact rl881
                    have rl1492 : rl_wm (FI1486 121 90) (FI1486 165) (FI1486 166) := by rw [show FI1486 165 = FI876 165 from up_row u1487 (by decide) rfl, show FI1486 166 = FI876 166 from up_row u1487 (by decide) rfl, show FI1486 121 90 = FI876 121 90 from up_k u1487 (by decide) rfl]; exact rl882
                    have hI1493 : g_I FI1486 := gU_F hI883 u1487 rfl
                    exact hw_L (j1425 FI1486 (gf_f (gf_f gf_rf u877 (by decide)) u1487 (by decide)) hI1493 (show FI1486 121 101 = x7 from (up_k u1487 (by decide) ((up_k u877 (by decide) (h8))))) (show FI1486 121 90 = x1 from (up_k u1487 (by decide) ((up_k u877 (by decide) (h2))))) (show FI1486 121 92 = x874 from (up_k u1487 (by decide) (up_eq u877))) (show FI1486 152 (x4).toNatClampNeg = x10 from (up_c u1487 (by decide) ((up_c u877 (by decide) (h11))))) (show FI1486 166 = FI 166 from (up_row u1487 (by decide) ((up_row u877 (by decide) (rfl))))) (show FI1486 152 = FI 152 from (up_row u1487 (by decide) ((up_row u877 (by decide) (rfl))))) (show rl_b (FI1486 139) (FI1486 140) (FI1486 141) from rl1488) (show rl_h 2 (FI1486 136) (FL 137) (FI1486 138) from rl1489) (show rl_t (FI1486 152) (FL 153) from rl1490) (show rl_h 32 (FI1486 130) (FL 131) (FI1486 134) from rl1491) (show rl_wm (FI1486 121 90) (FI1486 165) (FI1486 166) from rl1492)) ⟨rfl, trivial⟩
            · refine hw_aloadn (aX12_meansOperand 90 rfl) rfl ?_
              refine hw_aloadn (aX12_meansOperand 91 rfl) rfl ?_
              refine hw_get (v := .ref (base + 122)) (aX12_meansOperand 92 rfl) wf_RX12_7 (c121 hS) (s121 hS) (by decide) (congrArg (fun r => va_rf (h_rf base r)) (r121_1 hF)) ?_
              refine hw_aloadn (aX12_meansOperand 93 rfl) rfl ?_
              refine hw_get (v := .ref (base + 153)) (aX12_meansOperand 94 rfl) wf_RX12_117 (c121 hS) (s121 hS) (by decide) (congrArg (fun r => va_rf (h_rf base r)) (r121_66 hF)) ?_
              refine hw_aloadn (aX12_meansOperand 95 rfl) rfl ?_
              refine hw_get (v := .int (x874)) (aX12_meansOperand 96 rfl) wf_RX12_656 (c121 hS) (s121 hS) (by decide) (congrArg Value.int (show FI876 121 92 = x874 from up_eq u877)) ?_
              obtain ⟨x1494, h1495⟩ : ∃ y, FL 153 (x874).toNatClampNeg = y := ⟨_, rfl⟩
              have h1495l := congrArg Int64.toInt h1495
              have := l_rng x1494
              refine hw_lald (v := x1494) (aX12_meansOperand 97 rfl) (c153 hS) (s153 hS) (h_in e875 (by omega) (by omega)) (show FL 153 (x874).toNatClampNeg = x1494 from h1495) ?_
              have hrg := au_st_rg hst0 hnu (by rw [hk1]; omega) (by rw [hw1]; omega)
              have e92 : (FI 121 92).toInt.toNat + 1 = (x874).toNatClampNeg := by rw [i_cl (x := x874) rfl]; omega
              have hr3 := (rl880 (x874).toNatClampNeg).1 (by rw [show FI876 152 = FI 152 from (up_row u877 (by decide) (rfl)), ← e92]; exact hrg.1)
              have hr4 : (FL 153 (x874).toNatClampNeg).toInt ≤ 31 := by rw [← e92]; exact hrg.2.1
              rw [show FL 153 (x874).toNatClampNeg = x1494 from h1495] at hr3 hr4
              refine xw_l2i (aX12_meansOperand 98 rfl) ?_
              refine hw_tie (A := (x1494).toInt) (l_2i rfl (by omega) (by omega)) (fun x1496 e1497 => ?_)
              obtain ⟨x1498, h1499⟩ : ∃ y, FL 122 (x1496).toNatClampNeg = y := ⟨_, rfl⟩
              have h1499l := congrArg Int64.toInt h1499
              have := l_rng x1498
              refine hw_lald (v := x1498) (aX12_meansOperand 99 rfl) (c122 hS) (s122 hS) (h_in e1497 (by omega) (by omega)) (show FL 122 (x1496).toNatClampNeg = x1498 from h1499) ?_
              refine hw_callV (Bs := [.long (x1498)]) (rest := []) (aX12_meansOperand 100 rfl) wc_RX12_699 (by decide) rfl wi_yX12_value wv_yX12_value (c121 hS) (s121 hS) rfl rfl rfl (Nat.le_of_ble_eq_true rfl) (Nat.le_of_ble_eq_true rfl) (n_value (d := d + 5) hS hF hI883 (x1498) (by have := congrArg Int32.toInt (show FI876 121 101 = x7 from (up_k u877 (by decide) (h8))); omega)) (fun v1500 sv1501 p1502 => ?_)
              have := congrArg Int32.toInt (show FI876 121 101 = x7 from (up_k u877 (by decide) (h8)))
              obtain ⟨rfl, FI1504, FL1505, rfl, hI1506, f1507, f1508, t1509⟩ := p1502
              have rl1510 : rl_b (FI1504 139) (FI1504 140) (FI1504 141) := by rw [show FI1504 139 = FI876 139 from gf_row f1507 (c139 hS) (s139 hS) rfl rfl, show FI1504 140 = FI876 140 from gf_row f1507 (c140 hS) (s140 hS) rfl rfl, show FI1504 141 = FI876 141 from gf_row f1507 (c141 hS) (s141 hS) rfl rfl]; exact rl878
              have rl1511 : rl_h 2 (FI1504 136) (FL1505 137) (FI1504 138) := by rw [show FI1504 136 = FI876 136 from gf_row f1507 (c136 hS) (s136 hS) rfl rfl, show FL1505 137 = FL 137 from gf_row f1508 (c137 hS) (s137 hS) rfl rfl, show FI1504 138 = FI876 138 from gf_row f1507 (c138 hS) (s138 hS) rfl rfl]; exact rl879
              have rl1512 : rl_t (FI1504 152) (FL1505 153) := by rw [show FI1504 152 = FI876 152 from gf_row f1507 (c152 hS) (s152 hS) rfl rfl, show FL1505 153 = FL 153 from gf_row f1508 (c153 hS) (s153 hS) rfl rfl]; exact rl880
              have rl1513 : rl_h 32 (FI1504 130) (FL1505 131) (FI1504 134) := by rw [show FI1504 130 = FI876 130 from gf_row f1507 (c130 hS) (s130 hS) rfl rfl, show FL1505 131 = FL 131 from gf_row f1508 (c131 hS) (s131 hS) rfl rfl, show FI1504 134 = FI876 134 from gf_row f1507 (c134 hS) (s134 hS) rfl rfl]; exact rl881
              have rl1514 : rl_wm (FI1504 121 90) (FI1504 165) (FI1504 166) := by rw [show FI1504 165 = FI876 165 from gf_row f1507 (c165 hS) (s165 hS) rfl rfl, show FI1504 166 = FI876 166 from gf_row f1507 (c166 hS) (s166 hS) rfl rfl, show FI1504 121 90 = FI876 121 90 from gf_at f1507 (c121 hS) (s121 hS) rfl rfl]; exact rl882
              obtain ⟨x1515, h1516⟩ : ∃ y, FI1504 121 101 = y := ⟨_, rfl⟩
              have h1516l := congrArg Int32.toInt h1516
              have b1517 := gI_121_101 hI1506; rw [h1516] at b1517
              show hw zk base _ _ _ _ _ [] _ _
              refine hw_aloadn (aX12_meansOperand 101 rfl) rfl ?_
              refine hw_aloadn (aX12_meansOperand 102 rfl) rfl ?_
              refine hw_get (v := .int (x874)) (aX12_meansOperand 103 rfl) wf_RX12_656 (c121 hS) (s121 hS) (by decide) (congrArg Value.int (show FI1504 121 92 = x874 from (gf_at f1507 (c121 hS) (s121 hS) rfl (up_eq u877)))) ?_
              refine hw_ic (v := (1 : Int32)) (aX12_meansOperand 104 rfl) (by decide) ?_
              refine xw_iadd (aX12_meansOperand 105 rfl) ?_
              refine hw_tie (A := (((x4).toInt) + (1)) + (1)) (i_add e875 (by decide : (1 : Int32).toInt = 1) (by omega) (by omega)) (fun x1518 e1519 => ?_)
              refine hv_puti (aX12_meansOperand 106 rfl) wf_RX12_656 (c121 hS) (s121 hS) (by decide) rfl rfl (fun FI1520 u1521 => ?_)
              have rl1522 : rl_b (FI1520 139) (FI1520 140) (FI1520 141) := by rw [show FI1520 139 = FI1504 139 from up_row u1521 (by decide) rfl, show FI1520 140 = FI1504 140 from up_row u1521 (by decide) rfl, show FI1520 141 = FI1504 141 from up_row u1521 (by decide) rfl]; exact rl1510
              have rl1523 : rl_h 2 (FI1520 136) (FL1505 137) (FI1520 138) := by rw [show FI1520 136 = FI1504 136 from up_row u1521 (by decide) rfl, show FI1520 138 = FI1504 138 from up_row u1521 (by decide) rfl]; exact rl1511
              have rl1524 : rl_t (FI1520 152) (FL1505 153) := by rw [show FI1520 152 = FI1504 152 from up_row u1521 (by decide) rfl]; exact rl1512
              have rl1525 : rl_h 32 (FI1520 130) (FL1505 131) (FI1520 134) := by rw [show FI1520 130 = FI1504 130 from up_row u1521 (by decide) rfl, show FI1520 134 = FI1504 134 from up_row u1521 (by decide) rfl]; exact rl1513
              have rl1526 : rl_wm (FI1520 121 90) (FI1520 165) (FI1520 166) := by rw [show FI1520 165 = FI1504 165 from up_row u1521 (by decide) rfl, show FI1520 166 = FI1504 166 from up_row u1521 (by decide) rfl, show FI1520 121 90 = FI1504 121 90 from up_k u1521 (by decide) rfl]; exact rl1514
              have hI1527 : g_I FI1520 := gU_121_92 hI1506 u1521 (by have := (e1519 : (x1518).toInt = (((x4).toInt) + (1)) + (1)); omega) (by have := (e1519 : (x1518).toInt = (((x4).toInt) + (1)) + (1)); omega)
              refine xw_goto (tgt := 314) (aX12_meansOperand 107 rfl) (by decide) ?_
              exact hw_L (j1154 (x1515) (x1518) FI1520 FL1505 (gf_f (gf_tr ex_rf (gf_f gf_rf u877 (by decide)) f1507 rfl rfl rfl) u1521 (by decide)) hI1527 (show FI1520 121 101 = x1515 from (up_k u1521 (by decide) (h1516))) (by show 0 ≤ (x1515).toInt ∧ (x1515).toInt ≤ 512; omega) (show FI1520 121 90 = x1 from (up_k u1521 (by decide) ((gf_at f1507 (c121 hS) (s121 hS) rfl ((up_k u877 (by decide) (h2))))))) (show FI1520 121 92 = x1518 from up_eq u1521) (by have := (e1519 : (x1518).toInt = (((x4).toInt) + (1)) + (1)); show 1 ≤ (x1518).toInt ∧ (x1518).toInt ≤ 1001; omega) (show FI1520 152 (x4).toNatClampNeg = x10 from (up_c u1521 (by decide) ((gf_at f1507 (c152 hS) (s152 hS) rfl ((up_c u877 (by decide) (h11))))))) (gf_tr ex_rf gf_rf f1508 rfl rfl rfl) (show FL1505 153 (x4).toNatClampNeg = x12 from (gf_at f1508 (c153 hS) (s153 hS) rfl (h13))) (show FI1520 166 = FI 166 from (up_row u1521 (by decide) ((gf_row f1507 (c166 hS) (s166 hS) rfl ((up_row u877 (by decide) (rfl))))))) (show FI1520 152 = FI 152 from (up_row u1521 (by decide) ((gf_row f1507 (c152 hS) (s152 hS) rfl ((up_row u877 (by decide) (rfl))))))) (show rl_b (FI1520 139) (FI1520 140) (FI1520 141) from rl1522) (show rl_h 2 (FI1520 136) (FL1505 137) (FI1520 138) from rl1523) (show rl_t (FI1520 152) (FL1505 153) from rl1524) (show rl_h 32 (FI1520 130) (FL1505 131) (FI1520 134) from rl1525) (show rl_wm (FI1520 121 90) (FI1520 165) (FI1520 166) from rl1526) (show ∀ q b m, au_st (kf (FI 152)) (wf (FL 153)) (FI 121 92).toInt.toNat true (sk (FI 166) (FI 121 90).toInt.toNat) q b m → q = ((x1518).toInt).toNat ∧ b = false ∧ m = au_fin (sk (FI 166) (FI 121 90).toInt.toNat) from (by { intro q b m h; obtain ⟨-, -, e1, e2, e3⟩ := au_st_rg h hnu (by rw [hk1]; omega) (by rw [hw1]; omega); exact ⟨by have := congrArg Int32.toInt (show FI1520 121 92 = x1518 from up_eq u1521); have := (e1519 : (x1518).toInt = (((x4).toInt) + (1)) + (1)); omega, e2, e3⟩ })) (by show (x1515).toInt = (FI 121 101).toInt + 1; omega)) ⟨rfl, trivial⟩
          · refine hw_aloadn (aX12_meansOperand 83 rfl) rfl ?_
            refine xw_lloadn (aX12_meansOperand 84 rfl) rfl ?_
            refine hw_callV (Bs := [.long (x12)]) (rest := []) (aX12_meansOperand 85 rfl) wc_RX12_699 (by decide) rfl wi_yX12_value wv_yX12_value (c121 hS) (s121 hS) rfl rfl rfl (Nat.le_of_ble_eq_true rfl) (Nat.le_of_ble_eq_true rfl) (n_value (d := d + 5) hS hF hI883 (x12) (by have := congrArg Int32.toInt (show FI876 121 101 = x7 from (up_k u877 (by decide) (h8))); omega)) (fun v1528 sv1529 p1530 => ?_)
            have := congrArg Int32.toInt (show FI876 121 101 = x7 from (up_k u877 (by decide) (h8)))
            obtain ⟨rfl, FI1532, FL1533, rfl, hI1534, f1535, f1536, t1537⟩ := p1530
            have rl1538 : rl_b (FI1532 139) (FI1532 140) (FI1532 141) := by rw [show FI1532 139 = FI876 139 from gf_row f1535 (c139 hS) (s139 hS) rfl rfl, show FI1532 140 = FI876 140 from gf_row f1535 (c140 hS) (s140 hS) rfl rfl, show FI1532 141 = FI876 141 from gf_row f1535 (c141 hS) (s141 hS) rfl rfl]; exact rl878
            have rl1539 : rl_h 2 (FI1532 136) (FL1533 137) (FI1532 138) := by rw [show FI1532 136 = FI876 136 from gf_row f1535 (c136 hS) (s136 hS) rfl rfl, show FL1533 137 = FL 137 from gf_row f1536 (c137 hS) (s137 hS) rfl rfl, show FI1532 138 = FI876 138 from gf_row f1535 (c138 hS) (s138 hS) rfl rfl]; exact rl879
            have rl1540 : rl_t (FI1532 152) (FL1533 153) := by rw [show FI1532 152 = FI876 152 from gf_row f1535 (c152 hS) (s152 hS) rfl rfl, show FL1533 153 = FL 153 from gf_row f1536 (c153 hS) (s153 hS) rfl rfl]; exact rl880
            have rl1541 : rl_h 32 (FI1532 130) (FL1533 131) (FI1532 134) := by rw [show FI1532 130 = FI876 130 from gf_row f1535 (c130 hS) (s130 hS) rfl rfl, show FL1533 131 = FL 131 from gf_row f1536 (c131 hS) (s131 hS) rfl rfl, show FI1532 134 = FI876 134 from gf_row f1535 (c134 hS) (s134 hS) rfl rfl]; exact rl881
            have rl1542 : rl_wm (FI1532 121 90) (FI1532 165) (FI1532 166) := by rw [show FI1532 165 = FI876 165 from gf_row f1535 (c165 hS) (s165 hS) rfl rfl, show FI1532 166 = FI876 166 from gf_row f1535 (c166 hS) (s166 hS) rfl rfl, show FI1532 121 90 = FI876 121 90 from gf_at f1535 (c121 hS) (s121 hS) rfl rfl]; exact rl882
            obtain ⟨x1543, h1544⟩ : ∃ y, FI1532 121 101 = y := ⟨_, rfl⟩
            have h1544l := congrArg Int32.toInt h1544
            have b1545 := gI_121_101 hI1534; rw [h1544] at b1545
            show hw zk base _ _ _ _ _ [] _ _
            refine xw_goto (tgt := 314) (aX12_meansOperand 86 rfl) (by decide) ?_
            exact hw_L (j1154 (x1543) (x874) FI1532 FL1533 (gf_tr ex_rf (gf_f gf_rf u877 (by decide)) f1535 rfl rfl rfl) hI1534 (show FI1532 121 101 = x1543 from h1544) (by show 0 ≤ (x1543).toInt ∧ (x1543).toInt ≤ 512; omega) (show FI1532 121 90 = x1 from (gf_at f1535 (c121 hS) (s121 hS) rfl ((up_k u877 (by decide) (h2))))) (show FI1532 121 92 = x874 from (gf_at f1535 (c121 hS) (s121 hS) rfl (up_eq u877))) (by have := (e875 : (x874).toInt = ((x4).toInt) + (1)); show 1 ≤ (x874).toInt ∧ (x874).toInt ≤ 1001; omega) (show FI1532 152 (x4).toNatClampNeg = x10 from (gf_at f1535 (c152 hS) (s152 hS) rfl ((up_c u877 (by decide) (h11))))) (gf_tr ex_rf gf_rf f1536 rfl rfl rfl) (show FL1533 153 (x4).toNatClampNeg = x12 from (gf_at f1536 (c153 hS) (s153 hS) rfl (h13))) (show FI1532 166 = FI 166 from (gf_row f1535 (c166 hS) (s166 hS) rfl ((up_row u877 (by decide) (rfl))))) (show FI1532 152 = FI 152 from (gf_row f1535 (c152 hS) (s152 hS) rfl ((up_row u877 (by decide) (rfl))))) (show rl_b (FI1532 139) (FI1532 140) (FI1532 141) from rl1538) (show rl_h 2 (FI1532 136) (FL1533 137) (FI1532 138) from rl1539) (show rl_t (FI1532 152) (FL1533 153) from rl1540) (show rl_h 32 (FI1532 130) (FL1533 131) (FI1532 134) from rl1541) (show rl_wm (FI1532 121 90) (FI1532 165) (FI1532 166) from rl1542) (show ∀ q b m, au_st (kf (FI 152)) (wf (FL 153)) (FI 121 92).toInt.toNat true (sk (FI 166) (FI 121 90).toInt.toNat) q b m → q = ((x874).toInt).toNat ∧ b = false ∧ m = au_fin (sk (FI 166) (FI 121 90).toInt.toNat) from (by { intro q b m h; obtain ⟨e1, e2, e3⟩ := au_st_v h hnu (by rw [hk1]; omega); exact ⟨by have := congrArg Int32.toInt (show FI1532 121 92 = x874 from (gf_at f1535 (c121 hS) (s121 hS) rfl (up_eq u877))); have := (e875 : (x874).toInt = ((x4).toInt) + (1)); omega, e2, e3⟩ })) (by show (x1543).toInt = (FI 121 101).toInt + 1; omega)) ⟨rfl, trivial⟩
        · refine xw_lloadn (aX12_meansOperand 70 rfl) rfl ?_
          refine xw_ldc2 (aX12_meansOperand 71 rfl) wk_RX12_697 ?_
          refine hw_lcne (tgt := 144) (aX12_meansOperand 72 rfl) (aX12_meansOperand 73 rfl) (by decide) rfl (by decide : (40 : Int64).toInt = 40) (fun cd1546 => ?_) (fun cd1546 => ?_)
          · refine xw_iloadn (aX12_meansOperand 80 rfl) rfl ?_
            refine hw_ic (v := (3 : Int32)) (aX12_meansOperand 81 rfl) (by decide) ?_
            refine hw_icne (tgt := 157) (aX12_meansOperand 82 rfl) (by decide) rfl (by decide : (3 : Int32).toInt = 3) (fun cd1604 => ?_) (fun cd1604 => ?_)
            · refine xw_iloadn (aX12_meansOperand 87 rfl) rfl ?_
              refine hw_ic (v := (5 : Int32)) (aX12_meansOperand 88 rfl) (by decide) ?_
              refine hw_icne (tgt := 194) (aX12_meansOperand 89 rfl) (by decide) rfl (by decide : (5 : Int32).toInt = 5) (fun cd1605 => ?_) (fun cd1605 => ?_)
              · omega
              · refine hw_aloadn (aX12_meansOperand 90 rfl) rfl ?_
                refine hw_aloadn (aX12_meansOperand 91 rfl) rfl ?_
                refine hw_get (v := .ref (base + 122)) (aX12_meansOperand 92 rfl) wf_RX12_7 (c121 hS) (s121 hS) (by decide) (congrArg (fun r => va_rf (h_rf base r)) (r121_1 hF)) ?_
                refine hw_aloadn (aX12_meansOperand 93 rfl) rfl ?_
                refine hw_get (v := .ref (base + 153)) (aX12_meansOperand 94 rfl) wf_RX12_117 (c121 hS) (s121 hS) (by decide) (congrArg (fun r => va_rf (h_rf base r)) (r121_66 hF)) ?_
                refine hw_aloadn (aX12_meansOperand 95 rfl) rfl ?_
                refine hw_get (v := .int (x874)) (aX12_meansOperand 96 rfl) wf_RX12_656 (c121 hS) (s121 hS) (by decide) (congrArg Value.int (show FI876 121 92 = x874 from up_eq u877)) ?_
                obtain ⟨x1606, h1607⟩ : ∃ y, FL 153 (x874).toNatClampNeg = y := ⟨_, rfl⟩
                have h1607l := congrArg Int64.toInt h1607
                have := l_rng x1606
                refine hw_lald (v := x1606) (aX12_meansOperand 97 rfl) (c153 hS) (s153 hS) (h_in e875 (by omega) (by omega)) (show FL 153 (x874).toNatClampNeg = x1606 from h1607) ?_
                have hrg := au_st_rg hst0 hnu (by rw [hk1]; omega) (by rw [hw1]; omega)
                have e92 : (FI 121 92).toInt.toNat + 1 = (x874).toNatClampNeg := by rw [i_cl (x := x874) rfl]; omega
                have hr3 := (rl880 (x874).toNatClampNeg).1 (by rw [show FI876 152 = FI 152 from (up_row u877 (by decide) (rfl)), ← e92]; exact hrg.1)
                have hr4 : (FL 153 (x874).toNatClampNeg).toInt ≤ 31 := by rw [← e92]; exact hrg.2.1
                rw [show FL 153 (x874).toNatClampNeg = x1606 from h1607] at hr3 hr4
                refine xw_l2i (aX12_meansOperand 98 rfl) ?_
                refine hw_tie (A := (x1606).toInt) (l_2i rfl (by omega) (by omega)) (fun x1608 e1609 => ?_)
                obtain ⟨x1610, h1611⟩ : ∃ y, FL 122 (x1608).toNatClampNeg = y := ⟨_, rfl⟩
                have h1611l := congrArg Int64.toInt h1611
                have := l_rng x1610
                refine hw_lald (v := x1610) (aX12_meansOperand 99 rfl) (c122 hS) (s122 hS) (h_in e1609 (by omega) (by omega)) (show FL 122 (x1608).toNatClampNeg = x1610 from h1611) ?_
                refine hw_callV (Bs := [.long (x1610)]) (rest := []) (aX12_meansOperand 100 rfl) wc_RX12_699 (by decide) rfl wi_yX12_value wv_yX12_value (c121 hS) (s121 hS) rfl rfl rfl (Nat.le_of_ble_eq_true rfl) (Nat.le_of_ble_eq_true rfl) (n_value (d := d + 5) hS hF hI883 (x1610) (by have := congrArg Int32.toInt (show FI876 121 101 = x7 from (up_k u877 (by decide) (h8))); omega)) (fun v1612 sv1613 p1614 => ?_)
                have := congrArg Int32.toInt (show FI876 121 101 = x7 from (up_k u877 (by decide) (h8)))
                obtain ⟨rfl, FI1616, FL1617, rfl, hI1618, f1619, f1620, t1621⟩ := p1614
                have rl1622 : rl_b (FI1616 139) (FI1616 140) (FI1616 141) := by rw [show FI1616 139 = FI876 139 from gf_row f1619 (c139 hS) (s139 hS) rfl rfl, show FI1616 140 = FI876 140 from gf_row f1619 (c140 hS) (s140 hS) rfl rfl, show FI1616 141 = FI876 141 from gf_row f1619 (c141 hS) (s141 hS) rfl rfl]; exact rl878
                have rl1623 : rl_h 2 (FI1616 136) (FL1617 137) (FI1616 138) := by rw [show FI1616 136 = FI876 136 from gf_row f1619 (c136 hS) (s136 hS) rfl rfl, show FL1617 137 = FL 137 from gf_row f1620 (c137 hS) (s137 hS) rfl rfl, show FI1616 138 = FI876 138 from gf_row f1619 (c138 hS) (s138 hS) rfl rfl]; exact rl879
                have rl1624 : rl_t (FI1616 152) (FL1617 153) := by rw [show FI1616 152 = FI876 152 from gf_row f1619 (c152 hS) (s152 hS) rfl rfl, show FL1617 153 = FL 153 from gf_row f1620 (c153 hS) (s153 hS) rfl rfl]; exact rl880
                have rl1625 : rl_h 32 (FI1616 130) (FL1617 131) (FI1616 134) := by rw [show FI1616 130 = FI876 130 from gf_row f1619 (c130 hS) (s130 hS) rfl rfl, show FL1617 131 = FL 131 from gf_row f1620 (c131 hS) (s131 hS) rfl rfl, show FI1616 134 = FI876 134 from gf_row f1619 (c134 hS) (s134 hS) rfl rfl]; exact rl881
                have rl1626 : rl_wm (FI1616 121 90) (FI1616 165) (FI1616 166) := by rw [show FI1616 165 = FI876 165 from gf_row f1619 (c165 hS) (s165 hS) rfl rfl, show FI1616 166 = FI876 166 from gf_row f1619 (c166 hS) (s166 hS) rfl rfl, show FI1616 121 90 = FI876 121 90 from gf_at f1619 (c121 hS) (s121 hS) rfl rfl]; exact rl882
                obtain ⟨x1627, h1628⟩ : ∃ y, FI1616 121 101 = y := ⟨_, rfl⟩
                have h1628l := congrArg Int32.toInt h1628
                have b1629 := gI_121_101 hI1618; rw [h1628] at b1629
                show hw zk base _ _ _ _ _ [] _ _
                refine hw_aloadn (aX12_meansOperand 101 rfl) rfl ?_
                refine hw_aloadn (aX12_meansOperand 102 rfl) rfl ?_
                refine hw_get (v := .int (x874)) (aX12_meansOperand 103 rfl) wf_RX12_656 (c121 hS) (s121 hS) (by decide) (congrArg Value.int (show FI1616 121 92 = x874 from (gf_at f1619 (c121 hS) (s121 hS) rfl (up_eq u877)))) ?_
                refine hw_ic (v := (1 : Int32)) (aX12_meansOperand 104 rfl) (by decide) ?_
                refine xw_iadd (aX12_meansOperand 105 rfl) ?_
                refine hw_tie (A := (((x4).toInt) + (1)) + (1)) (i_add e875 (by decide : (1 : Int32).toInt = 1) (by omega) (by omega)) (fun x1630 e1631 => ?_)
                refine hv_puti (aX12_meansOperand 106 rfl) wf_RX12_656 (c121 hS) (s121 hS) (by decide) rfl rfl (fun FI1632 u1633 => ?_)
                have rl1634 : rl_b (FI1632 139) (FI1632 140) (FI1632 141) := by rw [show FI1632 139 = FI1616 139 from up_row u1633 (by decide) rfl, show FI1632 140 = FI1616 140 from up_row u1633 (by decide) rfl, show FI1632 141 = FI1616 141 from up_row u1633 (by decide) rfl]; exact rl1622
                have rl1635 : rl_h 2 (FI1632 136) (FL1617 137) (FI1632 138) := by rw [show FI1632 136 = FI1616 136 from up_row u1633 (by decide) rfl, show FI1632 138 = FI1616 138 from up_row u1633 (by decide) rfl]; exact rl1623
                have rl1636 : rl_t (FI1632 152) (FL1617 153) := by rw [show FI1632 152 = FI1616 152 from up_row u1633 (by decide) rfl]; exact rl1624
                have rl1637 : rl_h 32 (FI1632 130) (FL1617 131) (FI1632 134) := by rw [show FI1632 130 = FI1616 130 from up_row u1633 (by decide) rfl, show FI1632 134 = FI1616 134 from up_row u1633 (by decide) rfl]; exact rl1625
                have rl1638 : rl_wm (FI1632 121 90) (FI1632 165) (FI1632 166) := by rw [show FI1632 165 = FI1616 165 from up_row u1633 (by decide) rfl, show FI1632 166 = FI1616 166 from up_row u1633 (by decide) rfl, show FI1632 121 90 = FI1616 121 90 from up_k u1633 (by decide) rfl]; exact rl1626
                have hI1639 : g_I FI1632 := gU_121_92 hI1618 u1633 (by have := (e1631 : (x1630).toInt = (((x4).toInt) + (1)) + (1)); omega) (by have := (e1631 : (x1630).toInt = (((x4).toInt) + (1)) + (1)); omega)
                refine xw_goto (tgt := 314) (aX12_meansOperand 107 rfl) (by decide) ?_
                refine hw_aloadn (aX12_meansOperand 166 rfl) rfl ?_
                have fc314_0 : ∀ q b m, au_st (kf (FI 152)) (wf (FL 153)) (FI 121 92).toInt.toNat true (sk (FI 166) (FI 121 90).toInt.toNat) q b m → q = ((x1630).toInt).toNat ∧ b = false ∧ m = au_fin (sk (FI 166) (FI 121 90).toInt.toNat) := (by { intro q b m h; obtain ⟨-, -, e1, e2, e3⟩ := au_st_rg h hnu (by rw [hk1]; omega) (by rw [hw1]; omega); exact ⟨by have := congrArg Int32.toInt (show FI1632 121 92 = x1630 from up_eq u1633); have := (e1631 : (x1630).toInt = (((x4).toInt) + (1)) + (1)); omega, e2, e3⟩ })
                refine hw_callV (Bs := []) (rest := []) (aX12_meansOperand 167 rfl) wc_RX12_712 (by decide) rfl wi_yX12_meansFinished wv_yX12_meansFinished (c121 hS) (s121 hS) rfl rfl rfl (Nat.le_of_ble_eq_true rfl) (Nat.le_of_ble_eq_true rfl) (n_meansFinished (d := d + 4) hS hF hI1639 (by have := congrArg Int32.toInt (show FI1632 121 101 = x1627 from (up_k u1633 (by decide) (h1628))); omega) (show rl_wm (FI1632 121 90) (FI1632 165) (FI1632 166) from rl1638)) (fun v1640 sv1641 p1642 => ?_)
                have := congrArg Int32.toInt (show FI1632 121 90 = x1 from (up_k u1633 (by decide) ((gf_at f1619 (c121 hS) (s121 hS) rfl ((up_k u877 (by decide) (h2)))))))
                have := congrArg Int32.toInt (show FI1632 121 101 = x1627 from (up_k u1633 (by decide) (h1628)))
                obtain ⟨rfl, FI1644, FL1645, rfl, hI1646, f1647, f1648, t1649, t1650, u1651, rl1652⟩ := p1642
                have rl1653 : rl_b (FI1644 139) (FI1644 140) (FI1644 141) := by rw [show FI1644 139 = FI1632 139 from gf_row f1647 (c139 hS) (s139 hS) rfl rfl, show FI1644 140 = FI1632 140 from gf_row f1647 (c140 hS) (s140 hS) rfl rfl, show FI1644 141 = FI1632 141 from gf_row f1647 (c141 hS) (s141 hS) rfl rfl]; exact rl1634
                have rl1654 : rl_h 2 (FI1644 136) (FL1645 137) (FI1644 138) := by rw [show FI1644 136 = FI1632 136 from gf_row f1647 (c136 hS) (s136 hS) rfl rfl, show FL1645 137 = FL1617 137 from gf_row f1648 (c137 hS) (s137 hS) rfl rfl, show FI1644 138 = FI1632 138 from gf_row f1647 (c138 hS) (s138 hS) rfl rfl]; exact rl1635
                have rl1655 : rl_t (FI1644 152) (FL1645 153) := by rw [show FI1644 152 = FI1632 152 from gf_row f1647 (c152 hS) (s152 hS) rfl rfl, show FL1645 153 = FL1617 153 from gf_row f1648 (c153 hS) (s153 hS) rfl rfl]; exact rl1636
                have rl1656 : rl_h 32 (FI1644 130) (FL1645 131) (FI1644 134) := by rw [show FI1644 130 = FI1632 130 from gf_row f1647 (c130 hS) (s130 hS) rfl rfl, show FL1645 131 = FL1617 131 from gf_row f1648 (c131 hS) (s131 hS) rfl rfl, show FI1644 134 = FI1632 134 from gf_row f1647 (c134 hS) (s134 hS) rfl rfl]; exact rl1637
                obtain ⟨x1657, h1658⟩ : ∃ y, FI1644 121 90 = y := ⟨_, rfl⟩
                have h1658l := congrArg Int32.toInt h1658
                have b1659 := gI_121_90 hI1646; rw [h1658] at b1659
                have := congrArg Int32.toInt (show FI1644 121 101 = x1627 from (gf_at f1647 (c121 hS) (s121 hS) rfl ((up_k u1633 (by decide) (h1628)))))
                show hw zk base _ _ _ _ _ [] _ _
                refine hw_ic (v := (1 : Int32)) (aX12_meansOperand 168 rfl) (by decide) ?_
                refine xw_iret (aX12_meansOperand 169 rfl) rfl (by decide) ?_
                have e1660 : ((1 : Int32)).toInt = 1 := (by decide : (1 : Int32).toInt = 1)
                exact ⟨(1 : Int32), rfl, FI1644, FL1645, rfl, hI1646, (gf_tr ex_rf (gf_f (gf_tr ex_rf (gf_f gf_rf u877 (by decide)) f1619 rfl rfl rfl) u1633 (by decide)) f1647 rfl rfl rfl), (gf_tr ex_rf (gf_tr ex_rf gf_rf f1620 rfl rfl rfl) f1648 rfl rfl rfl), (by have : ((1 : Int32)).toInt = 1 := (by decide); omega), (by have := congrArg Int32.toInt (show FI1644 121 92 = x1630 from (gf_at f1647 (c121 hS) (s121 hS) rfl (up_eq u1633))); have := (e1631 : (x1630).toInt = (((x4).toInt) + (1)) + (1)); have := congrArg Int32.toInt (show FI1644 121 101 = x1627 from (gf_at f1647 (c121 hS) (s121 hS) rfl ((up_k u1633 (by decide) (h1628))))); have hz : (((1 : Int32))).toInt = 1 := (by decide : (1 : Int32).toInt = 1); intro q b m hst; have hm : (sk (FI1644 166) (FI1644 121 90).toInt.toNat) = au_fin (sk (FI 166) (FI 121 90).toInt.toNat) := (by rw [show FI1644 166 = FI1632 166 from (gf_row f1647 (c166 hS) (s166 hS) rfl (rfl)), show FI1644 121 90 = FI1644 121 90 from (h1658).trans (h1658).symm, u1651, show FI1632 166 = FI 166 from (up_row u1633 (by decide) ((gf_row f1619 (c166 hS) (s166 hS) rfl ((up_row u877 (by decide) (rfl)))))), show FI1632 121 90 = FI 121 90 from ((up_k u1633 (by decide) ((gf_at f1619 (c121 hS) (s121 hS) rfl ((up_k u877 (by decide) (h2))))))).trans (h2).symm]); obtain ⟨e1, e2, e3⟩ := fc314_0 q b m hst; subst e2; refine ⟨by simp <;> omega, by omega, by rw [e3]; exact hm, ?_⟩; rw [e3, au_vc_fin, if_neg (by decide)]; omega), (show rl_wm (FI1644 121 90) (FI1644 165) (FI1644 166) from rl1652), (show rl_h 2 (FI1644 136) (FL1645 137) (FI1644 138) from rl1654), (show rl_h 32 (FI1644 130) (FL1645 131) (FI1644 134) from rl1656), (show rl_b (FI1644 139) (FI1644 140) (FI1644 141) from rl1653)⟩
            · omega
          · refine hw_aloadn (aX12_meansOperand 74 rfl) rfl ?_
            refine hw_ic (v := (0 : Int32)) (aX12_meansOperand 75 rfl) (by decide) ?_
            refine hw_ic (v := ((-1) : Int32)) (aX12_meansOperand 76 rfl) (by decide) ?_
            refine hw_callV (Bs := [.int ((0 : Int32)), .int (((-1) : Int32))]) (rest := []) (aX12_meansOperand 77 rfl) wc_RX12_580 (by decide) rfl wi_yX12_later wv_yX12_later (c121 hS) (s121 hS) rfl rfl rfl (Nat.le_of_ble_eq_true rfl) (Nat.le_of_ble_eq_true rfl) (n_laterm (d := d + 5) hS hF hI883 ((0 : Int32)) (((-1) : Int32)) (by have := congrArg Int32.toInt (show FI876 121 90 = x1 from (up_k u877 (by decide) (h2))); omega) (by have := ((by decide : ((-1) : Int32).toInt = (-1)) : (((-1) : Int32)).toInt = (-1)); have := ((by decide : (0 : Int32).toInt = 0) : ((0 : Int32)).toInt = 0); have := ((by decide : (0 : Int32).toInt = 0) : ((0 : Int32)).toInt = 0); have := ((by decide : (0 : Int32).toInt = 0) : ((0 : Int32)).toInt = 0); have := ((by decide : (0 : Int32).toInt = 0) : ((0 : Int32)).toInt = 0); have := ((by decide : (0 : Int32).toInt = 0) : ((0 : Int32)).toInt = 0); omega) (show rl_wm (FI876 121 90) (FI876 165) (FI876 166) from rl882)) (fun v1661 sv1662 p1663 => ?_)
            have := congrArg Int32.toInt (show FI876 121 90 = x1 from (up_k u877 (by decide) (h2)))
            obtain ⟨rfl, FI1665, rfl, hI1666, f1667, t1668, u1669, u1670, rl1671⟩ := p1663
            have rl1672 : rl_b (FI1665 139) (FI1665 140) (FI1665 141) := by rw [show FI1665 139 = FI876 139 from gf_row f1667 (c139 hS) (s139 hS) rfl rfl, show FI1665 140 = FI876 140 from gf_row f1667 (c140 hS) (s140 hS) rfl rfl, show FI1665 141 = FI876 141 from gf_row f1667 (c141 hS) (s141 hS) rfl rfl]; exact rl878
            have rl1673 : rl_h 2 (FI1665 136) (FL 137) (FI1665 138) := by rw [show FI1665 136 = FI876 136 from gf_row f1667 (c136 hS) (s136 hS) rfl rfl, show FI1665 138 = FI876 138 from gf_row f1667 (c138 hS) (s138 hS) rfl rfl]; exact rl879
            have rl1674 : rl_t (FI1665 152) (FL 153) := by rw [show FI1665 152 = FI876 152 from gf_row f1667 (c152 hS) (s152 hS) rfl rfl]; exact rl880
            have rl1675 : rl_h 32 (FI1665 130) (FL 131) (FI1665 134) := by rw [show FI1665 130 = FI876 130 from gf_row f1667 (c130 hS) (s130 hS) rfl rfl, show FI1665 134 = FI876 134 from gf_row f1667 (c134 hS) (s134 hS) rfl rfl]; exact rl881
            obtain ⟨x1676, h1677⟩ : ∃ y, FI1665 121 90 = y := ⟨_, rfl⟩
            have h1677l := congrArg Int32.toInt h1677
            have b1678 := gI_121_90 hI1666; rw [h1677] at b1678
            show hw zk base _ _ _ _ _ [] _ _
            refine hw_ic (v := (0 : Int32)) (aX12_meansOperand 78 rfl) (by decide) ?_
            refine xw_iret (aX12_meansOperand 79 rfl) rfl (by decide) ?_
            have e1679 : ((0 : Int32)).toInt = 0 := (by decide : (0 : Int32).toInt = 0)
            exact ⟨(0 : Int32), rfl, FI1665, FL, rfl, hI1666, (gf_tr ex_rf (gf_f gf_rf u877 (by decide)) f1667 rfl rfl rfl), gf_rf, (by have : ((0 : Int32)).toInt = 0 := (by decide); omega), (by have := congrArg Int32.toInt (show FI1665 121 92 = x874 from (gf_at f1667 (c121 hS) (s121 hS) rfl (up_eq u877))); have := (e875 : (x874).toInt = ((x4).toInt) + (1)); have := congrArg Int32.toInt (show FI1665 121 101 = x7 from (gf_at f1667 (c121 hS) (s121 hS) rfl ((up_k u877 (by decide) (h8))))); have hz : (((0 : Int32))).toInt = 0 := (by decide : (0 : Int32).toInt = 0); intro q b m hst; have hm : (sk (FI1665 166) (FI1665 121 90).toInt.toNat) = -1 :: (sk (FI 166) (FI 121 90).toInt.toNat) := (by rw [show FI1665 166 = FI1665 166 from rfl, show FI1665 121 90 = FI1665 121 90 from (h1677).trans (h1677).symm, u1670, show FI876 166 = FI 166 from (up_row u877 (by decide) (rfl)), show FI876 121 90 = FI 121 90 from ((up_k u877 (by decide) (h2))).trans (h2).symm, show ((-1 : Int32)).toInt = (-1 : Int) from by decide]); obtain ⟨e1, e2, e3⟩ := au_st_lp hst (by rw [hk1]; omega) (by rw [hw1]; omega); subst e2; refine ⟨by simp <;> omega, by omega, by rw [e3]; exact hm, ?_⟩; rw [e3, show au_vc (-1 :: (sk (FI 166) (FI 121 90).toInt.toNat)) = au_vc (sk (FI 166) (FI 121 90).toInt.toNat) from (by simp [au_vc])]; simp only [if_true]; omega), (show rl_wm (FI1665 121 90) (FI1665 165) (FI1665 166) from rl1671), (show rl_h 2 (FI1665 136) (FL 137) (FI1665 138) from rl1673), (show rl_h 32 (FI1665 130) (FL 131) (FI1665 134) from rl1675), (show rl_b (FI1665 139) (FI1665 140) (FI1665 141) from rl1672)⟩
      · exact hw_L (j420 (show au_un (kf (FI 152) (FI 121 92).toInt.toNat) (wf (FL 153) (FI 121 92).toInt.toNat) from (by { have hw7 := (hid_e u872).mp (by omega); rw [show ((7 : Int32)).toInt = (7 : Int) from by decide] at hw7; exact Or.inr (Or.inr hw7) }))) ⟨rfl, rfl, rfl, trivial⟩
    refine hw_icne (tgt := 46) (aX12_meansOperand 17 rfl) (by decide) rfl (by decide : (5 : Int32).toInt = 5) (fun cd1680 => ?_) (fun cd1680 => ?_)
    · exact hw_L (j865 (by show (x10).toInt ≠ 4 ∧ ¬ ((x10).toInt = 5 ∧ ((x12).toInt = 45 ∨ (x12).toInt = 126)); omega)) ⟨rfl, rfl, rfl, trivial⟩
    · refine xw_lloadn (aX12_meansOperand 18 rfl) rfl ?_
      refine xw_ldc2 (aX12_meansOperand 19 rfl) wk_RX12_651 ?_
      refine hw_lceq (tgt := 55) (aX12_meansOperand 20 rfl) (aX12_meansOperand 21 rfl) (by decide) rfl (by decide : (45 : Int64).toInt = 45) (fun cd1681 => ?_) (fun cd1681 => ?_)
      · exact hw_L (j420 (show au_un (kf (FI 152) (FI 121 92).toInt.toNat) (wf (FL 153) (FI 121 92).toInt.toNat) from (by { unfold au_un; rw [hk1, hw1]; omega }))) ⟨rfl, rfl, rfl, trivial⟩
      · refine xw_lloadn (aX12_meansOperand 22 rfl) rfl ?_
        refine xw_ldc2 (aX12_meansOperand 23 rfl) wk_RX12_692 ?_
        refine hw_lceq (tgt := 55) (aX12_meansOperand 24 rfl) (aX12_meansOperand 25 rfl) (by decide) rfl (by decide : (126 : Int64).toInt = 126) (fun cd1682 => ?_) (fun cd1682 => ?_)
        · exact hw_L (j420 (show au_un (kf (FI 152) (FI 121 92).toInt.toNat) (wf (FL 153) (FI 121 92).toInt.toNat) from (by { unfold au_un; rw [hk1, hw1]; omega }))) ⟨rfl, rfl, rfl, trivial⟩
        · exact hw_L (j865 (by show (x10).toInt ≠ 4 ∧ ¬ ((x10).toInt = 5 ∧ ((x12).toInt = 45 ∨ (x12).toInt = 126)); omega)) ⟨rfl, rfl, rfl, trivial⟩
end
section
/-! The walk, as choice follows it; places, as meantPlace and meantLocation do. -/
def mc_inv (K W : Nat → Int) (q n p : Nat) (a : Int) (l : List Int) (v : Int) : Prop :=
  ∃ m, au_rch K W n p (decide (a = 1)) l q false m ∧ (au_bn (K q) (W q) = 0 ∧ ¬ (K q = 5 ∧ W q = 63) ∧ au_all m = []) ∧ au_ok l ∧ (a ≠ 1 → ∀ y r, l = y :: r → y ≠ 9) ∧ v = (au_vc l : Int) + (if a = 1 then 0 else 1) ∧ l.length < 250
def mc_at (K W : Nat → Int) (q p : Nat) (a c : Int) (l : List Int) (v : Int) : Prop :=
  (c = 0 ∧ p = q) ∨ (c = 1 ∧ p ≤ q ∧ ∃ n, mc_inv K W q n p a l v)
section MC
variable {K W : Nat → Int} {q p : Nat} {l : List Int} {v : Int}
theorem mc_0 (h : au_acc K W p q) : mc_at K W q p 1 1 [] 0 := by
  obtain ⟨n, m, h1, h2⟩ := h
  exact Or.inr ⟨rfl, au_rch_le _ _ _ _ _ _ _ h1, n, m, h1, h2, trivial, fun h => absurd rfl h, rfl, by decide⟩
theorem mc_go {n p1 : Nat} {a : Bool} {a1 : Bool} {l1 m : List Int} (h1 : au_st K W p a l p1 a1 l1) (h2 : l1.length < 250) (h3 : au_rch K W n p1 a1 l1 q false m) (he : au_bn (K q) (W q) = 0 ∧ ¬ (K q = 5 ∧ W q = 63) ∧ au_all m = []) (ho : au_ok l) (h9 : a = false → ∀ y r, l = y :: r → y ≠ 9) :
    mc_at K W q p1 (if a1 then 1 else 0) 1 l1 ((au_vc l1 : Int) + (if a1 then 0 else 1)) := by
  have hk := au_st_ok h1 ho h9
  refine Or.inr ⟨rfl, au_rch_le _ _ _ _ _ _ _ h3, n, m, ?_, he, hk.1, ?_, ?_, h2⟩
  · cases a1
    · exact h3
    · exact h3
  · cases a1
    · exact fun _ => hk.2 rfl
    · exact fun h => absurd rfl h
  · cases a1
    · rfl
    · rfl
theorem mc_d (h : mc_at K W q p 1 1 l v) : v = (au_vc l : Int) ∧ l.length < 250 ∧ ∃ p1 a1 l1, au_st K W p true l p1 a1 l1 ∧ p1 ≤ q ∧ mc_at K W q p1 (if a1 then 1 else 0) 1 l1 ((au_vc l1 : Int) + (if a1 then 0 else 1)) := by
  rcases h with ⟨h, -⟩ | ⟨-, -, n, m, h1, h2, h3, h4, h5, h6⟩
  · omega
  · refine ⟨by simpa using h5, h6, ?_⟩
    cases n with
    | zero => obtain ⟨-, h, -⟩ := h1; cases h
    | succ n =>
      obtain ⟨p1, a1, l1, g1, g2, g3⟩ := h1
      exact ⟨p1, a1, l1, g1, au_rch_le _ _ _ _ _ _ _ g3, mc_go g1 g2 g3 h2 h3 (fun h => by cases h)⟩
theorem mc_r (h : mc_at K W q p 0 1 l v) : au_ok l ∧ (∀ y r, l = y :: r → y ≠ 9) ∧ v = (au_vc l : Int) + 1 ∧ l.length < 250 ∧ p ≤ q ∧ ((co_end K W p l ∧ p = q) ∨ ∃ p1 a1 l1, au_st K W p false l p1 a1 l1 ∧ p1 ≤ q ∧ mc_at K W q p1 (if a1 then 1 else 0) 1 l1 ((au_vc l1 : Int) + (if a1 then 0 else 1))) := by
  rcases h with ⟨h, -⟩ | ⟨-, h0, n, m, h1, h2, h3, h4, h5, h6⟩
  · omega
  · refine ⟨h3, h4 (by decide), by simpa using h5, h6, h0, ?_⟩
    cases n with
    | zero => obtain ⟨rfl, -, rfl⟩ := h1; exact Or.inl ⟨h2, rfl⟩
    | succ n =>
      obtain ⟨p1, a1, l1, g1, g2, g3⟩ := h1
      exact Or.inr ⟨p1, a1, l1, g1, au_rch_le _ _ _ _ _ _ _ g3, mc_go g1 g2 g3 h2 h3 (fun _ => h4 (by decide))⟩
theorem mc_e {a : Int} (h : mc_at K W q p a 0 l v) : p = q := by
  rcases h with ⟨-, h⟩ | ⟨h, -⟩
  · exact h
  · omega
end MC
/-! what was meant: kinds and values -/
def rl_m (k : Nat → Int32) (v : Nat → Int64) : Prop := ∀ i : Nat, ((k i).toInt = 2 → 0 ≤ (v i).toInt ∧ (v i).toInt ≤ 31) ∧ ((k i).toInt = 4 → 0 ≤ (v i).toInt ∧ (v i).toInt ≤ 64)
theorem rl_m_up {k : Nat → Int32} {v : Nat → Int64} {i : Nat} {x : Int32} {y : Int64} (h : rl_m k v) (h2 : x.toInt = 2 → 0 ≤ y.toInt ∧ y.toInt ≤ 31) (h4 : x.toInt = 4 → 0 ≤ y.toInt ∧ y.toInt ≤ 64) : rl_m (va_up k i x) (va_up v i y) := by
  intro q
  by_cases e : q = i
  · subst e; simp only [va_up, if_pos]; exact ⟨h2, h4⟩
  · simp only [va_up, if_neg e]; exact h q
/-! a list of parts, at the n-th: c = 1 while there is one more -/
def gr_at (K W : Nat → Int) (q p : Nat) (n c : Int) : Prop :=
  (c = 0 ∧ p = q ∧ 1 ≤ n ∧ n ≤ 8) ∨ (c = 1 ∧ 0 ≤ n ∧ ∃ k : Nat, n + k ≤ 8 ∧ gr_pts K W k p q)
section GA
variable {K W : Nat → Int} {q p : Nat} {n : Int}
theorem gr_at_0 {k : Nat} (h : gr_pts K W k p q) (hk : k ≤ 8) : gr_at K W q p 0 1 := Or.inr ⟨rfl, by omega, k, by omega, h⟩
theorem gr_at_s (h : gr_at K W q p n 1) : 0 ≤ n ∧ n ≤ 7 ∧ ∃ e, gr_pl K W p e ∧ e + 3 ≤ q ∧ ∀ c : Int, ((c = 0 ∨ c = 1) ∧ (c = 1 ↔ gr_cm K W (e + 2))) → gr_at K W q (e + 3) (n + 1) c := by
  rcases h with ⟨h, -⟩ | ⟨-, h0, k, h1, h2⟩
  · omega
  · cases k with
    | zero => exact h2.elim
    | succ k =>
      obtain ⟨e, g1, g2⟩ := h2
      refine ⟨h0, by omega, e, g1, ?_, fun c hc => ?_⟩
      · rcases g2 with ⟨-, -, h⟩ | ⟨-, -, h⟩
        · omega
        · have := gr_pts_lt h; omega
      · rcases g2 with ⟨rfl, h3, h4⟩ | ⟨-, h3, h4⟩
        · refine Or.inl ⟨?_, h4.symm, by omega, by omega⟩
          rcases hc.1 with h | h
          · exact h
          · exact absurd (hc.2.mp h) h3
        · exact Or.inr ⟨hc.2.mpr h3, by omega, k, by omega, h4⟩
theorem gr_at_e (h : gr_at K W q p n 0) : p = q ∧ 1 ≤ n ∧ n ≤ 8 := by
  rcases h with ⟨-, h⟩ | ⟨h, -⟩
  · exact h
  · omega
end GA
/-! the kept variables -/
def rl_v (v : Int32) (k : Nat → Int32) (w : Nat → Int64) (r s : Nat → Int32) : Prop := ∀ i : Nat, (i : Int) < v.toInt → 0 ≤ (r i).toInt ∧ gr_var (kf k) (wf w) (r i).toInt.toNat (s i).toInt.toNat 1001
end
section
def nX12_choice : Nat := 0xad2f03b200b42ad1ffa73d030400a70407009a4102b42a3eb102b62a4102b5032aebffa73d030400a70407009aae02b62a1300991c3100991d3e043d04a802b51b2aab02b5032a2c02b5032a
theorem bX12_choice : cX12_choice.data.toList.map UInt8.toNat = x_un nX12_choice 76 := by decide +kernel
def iX12_choice : List (Nat × Jvm.ClassFile.Instr × Nat) := [(0, .aload_n 0, 1), (1, .iconst 0, 1), (2, .putfield 556, 3), (5, .aload_n 0, 1), (6, .iconst 0, 1), (7, .putfield 683, 3), (10, .aload_n 0, 1), (11, .iload_n 1, 1), (12, .putfield 680, 3), (15, .iconst 1, 1), (16, .istore_n 2, 1), (17, .iconst 1, 1), (18, .istore_n 3, 1), (19, .iload_n 3, 1), (20, .ifCond .eq 49, 3), (23, .iload_n 2, 1), (24, .ifCond .eq 19, 3), (27, .aload_n 0, 1), (28, .invokevirtual 686, 3), (31, .ifCond .ne 7, 3), (34, .iconst 1, 1), (35, .goto 4, 3), (38, .iconst 0, 1), (39, .istore_n 2, 1), (40, .goto (-21), 3), (43, .aload_n 0, 1), (44, .iconst 0, 1), (45, .putfield 577, 3), (48, .aload_n 0, 1), (49, .invokevirtual 689, 3), (52, .istore_n 3, 1), (53, .aload_n 0, 1), (54, .getfield 577, 3), (57, .ifCond .ne 7, 3), (60, .iconst 1, 1), (61, .goto 4, 3), (64, .iconst 0, 1), (65, .istore_n 2, 1), (66, .goto (-47), 3), (69, .aload_n 0, 1), (70, .getfield 178, 3), (73, .iconst 0, 1), (74, .laload, 1), (75, .lreturn, 1)]
theorem dX12_choice : x_il nX12_choice 76 iX12_choice = true := by decide +kernel
theorem aX12_choice (k : Nat) {pc : Nat} {i : Jvm.ClassFile.Instr} {len : Nat} (hk : iX12_choice[k]? = some (pc, i, len)) : x_at xMM 260 pc i len yX12_choice 4 (some .long) := ⟨cX12_choice, rfl, x_il_ok bX12_choice dX12_choice k hk⟩
set_option maxHeartbeats 4000000 in
set_option maxRecDepth 100000 in
theorem n_choice {zk : xK} {base d n sl : Nat} {SH : Nat → Nat × Nat} {FI : Nat → Nat → Int32} {FL : Nat → Nat → Int64} {FR : Nat → Nat → Option Nat} (hS : h_S n SH) (hF : h_FR FR) (hI : g_I FI) (a1 : Int32) (q : Nat) (g0 : 0 ≤ (a1).toInt ∧ (a1).toInt ≤ 1) (gg0 : au_acc (kf (FI 152)) (wf (FL 153)) (FI 121 92).toInt.toNat q) (gg1 : q ≤ 1000) (rel_kept : rl_t (FI 152) (FL 153)) (rel_hold : rl_h 2 (FI 136) (FL 137) (FI 138)) (rel_piece : rl_h 32 (FI 130) (FL 131) (FI 134)) (rel_back : rl_b (FI 139) (FI 140) (FI 141)) : hw zk base (d + 7) none 260 0 [(0, .ref (base + 121)), (1, .int (a1))] [] (n, sl, SH, FI, FL, FR) (h_J (fun r s => ∃ FI' FL', s = (n, sl, SH, FI', FL', FR) ∧ g_I FI' ∧ g_fr n SH [(121, 29), (121, 30), (121, 31), (121, 32), (121, 33), (121, 34), (121, 37), (121, 38), (121, 90), (121, 91), (121, 92), (121, 93), (121, 101), (121, 104)] [128, 129, 130, 132, 133, 134, 135, 136, 138, 139, 140, 141, 142, 165, 166, 174, 175] [] FI FI' ∧ g_fr n SH [(121, 35), (121, 36), (121, 39)] [127, 131, 137, 173] [] FL FL' ∧ ((FI' 121 92).toInt.toNat = q) ∧ (rl_h 2 (FI' 136) (FL' 137) (FI' 138)) ∧ (rl_h 32 (FI' 130) (FL' 131) (FI' 134)) ∧ (rl_b (FI' 139) (FI' 140) (FI' 141)))) := by
  have rg_a1 := i_rng a1
  obtain ⟨x1, h2⟩ : ∃ y, FI 121 92 = y := ⟨_, rfl⟩
  have h2l := congrArg Int32.toInt h2
  have b3 := gI_121_92 hI; rw [h2] at b3
  have hpq0 := au_acc_le gg0
  have e4 : 0 ≤ (x1).toInt ∧ (x1).toInt ≤ 1000 := by omega
  refine hw_aloadn (aX12_choice 0 rfl) rfl ?_
  refine hw_ic (v := (0 : Int32)) (aX12_choice 1 rfl) (by decide) ?_
  refine hv_puti (aX12_choice 2 rfl) wf_RX12_556 (c121 hS) (s121 hS) (by decide) rfl rfl (fun FI5 u6 => ?_)
  have rl7 : rl_t (FI5 152) (FL 153) := by rw [show FI5 152 = FI 152 from up_row u6 (by decide) rfl]; exact rel_kept
  have rl8 : rl_h 2 (FI5 136) (FL 137) (FI5 138) := by rw [show FI5 136 = FI 136 from up_row u6 (by decide) rfl, show FI5 138 = FI 138 from up_row u6 (by decide) rfl]; exact rel_hold
  have rl9 : rl_h 32 (FI5 130) (FL 131) (FI5 134) := by rw [show FI5 130 = FI 130 from up_row u6 (by decide) rfl, show FI5 134 = FI 134 from up_row u6 (by decide) rfl]; exact rel_piece
  have rl10 : rl_b (FI5 139) (FI5 140) (FI5 141) := by rw [show FI5 139 = FI 139 from up_row u6 (by decide) rfl, show FI5 140 = FI 140 from up_row u6 (by decide) rfl, show FI5 141 = FI 141 from up_row u6 (by decide) rfl]; exact rel_back
  have hI11 : g_I FI5 := gU_121_90 hI u6 (by have := ((by decide : (0 : Int32).toInt = 0) : ((0 : Int32)).toInt = 0); omega) (by have := ((by decide : (0 : Int32).toInt = 0) : ((0 : Int32)).toInt = 0); omega)
  refine hw_aloadn (aX12_choice 3 rfl) rfl ?_
  refine hw_ic (v := (0 : Int32)) (aX12_choice 4 rfl) (by decide) ?_
  refine hv_puti (aX12_choice 5 rfl) wf_RX12_683 (c121 hS) (s121 hS) (by decide) rfl rfl (fun FI12 u13 => ?_)
  have rl14 : rl_t (FI12 152) (FL 153) := by rw [show FI12 152 = FI5 152 from up_row u13 (by decide) rfl]; exact rl7
  have rl15 : rl_h 2 (FI12 136) (FL 137) (FI12 138) := by rw [show FI12 136 = FI5 136 from up_row u13 (by decide) rfl, show FI12 138 = FI5 138 from up_row u13 (by decide) rfl]; exact rl8
  have rl16 : rl_h 32 (FI12 130) (FL 131) (FI12 134) := by rw [show FI12 130 = FI5 130 from up_row u13 (by decide) rfl, show FI12 134 = FI5 134 from up_row u13 (by decide) rfl]; exact rl9
  have rl17 : rl_b (FI12 139) (FI12 140) (FI12 141) := by rw [show FI12 139 = FI5 139 from up_row u13 (by decide) rfl, show FI12 140 = FI5 140 from up_row u13 (by decide) rfl, show FI12 141 = FI5 141 from up_row u13 (by decide) rfl]; exact rl10
  have hI18 : g_I FI12 := gU_121_101 hI11 u13 (by have := ((by decide : (0 : Int32).toInt = 0) : ((0 : Int32)).toInt = 0); omega) (by have := ((by decide : (0 : Int32).toInt = 0) : ((0 : Int32)).toInt = 0); omega)
  refine hw_aloadn (aX12_choice 6 rfl) rfl ?_
  refine xw_iloadn (aX12_choice 7 rfl) rfl ?_
  refine hv_putz (aX12_choice 8 rfl) wf_RX12_680 (c121 hS) (s121 hS) (by decide) rfl rfl (i_01 rfl (by omega) (by omega)) (fun FI19 u20 => ?_)
  have rl21 : rl_t (FI19 152) (FL 153) := by rw [show FI19 152 = FI12 152 from up_row u20 (by decide) rfl]; exact rl14
  have rl22 : rl_h 2 (FI19 136) (FL 137) (FI19 138) := by rw [show FI19 136 = FI12 136 from up_row u20 (by decide) rfl, show FI19 138 = FI12 138 from up_row u20 (by decide) rfl]; exact rl15
  have rl23 : rl_h 32 (FI19 130) (FL 131) (FI19 134) := by rw [show FI19 130 = FI12 130 from up_row u20 (by decide) rfl, show FI19 134 = FI12 134 from up_row u20 (by decide) rfl]; exact rl16
  have rl24 : rl_b (FI19 139) (FI19 140) (FI19 141) := by rw [show FI19 139 = FI12 139 from up_row u20 (by decide) rfl, show FI19 140 = FI12 140 from up_row u20 (by decide) rfl, show FI19 141 = FI12 141 from up_row u20 (by decide) rfl]; exact rl17
  have hI25 : g_I FI19 := gU_121_104 hI18 u20 (by omega) (by omega)
  have rl26 : rl_wm (FI19 121 90) (FI19 165) (FI19 166) := rl_wm_0 (by have := congrArg Int32.toInt (show FI19 121 90 = (0 : Int32) from (up_k u20 (by decide) ((up_k u13 (by decide) (up_eq u6))))); have := ((by decide : (0 : Int32).toInt = 0) : ((0 : Int32)).toInt = 0); omega)
  refine hw_ic (v := (1 : Int32)) (aX12_choice 9 rfl) (by decide) ?_
  refine xw_istoren (L2 := [(2, .int ((1 : Int32))), (0, .ref (base + 121)), (1, .int (a1))]) (aX12_choice 10 rfl) (by decide) rfl ?_
  refine hw_ic (v := (1 : Int32)) (aX12_choice 11 rfl) (by decide) ?_
  refine xw_istoren (L2 := [(3, .int ((1 : Int32))), (2, .int ((1 : Int32))), (0, .ref (base + 121)), (1, .int (a1))]) (aX12_choice 12 rfl) (by decide) rfl ?_
  have lp42 : ∀ (m : Nat) (y3 : Int32) (y2 : Int32) (FIv27 : Nat → Nat → Int32) (FLv28 : Nat → Nat → Int64), (g_fr n SH [(121, 29), (121, 30), (121, 31), (121, 32), (121, 33), (121, 34), (121, 37), (121, 38), (121, 90), (121, 91), (121, 92), (121, 93), (121, 101), (121, 104)] [128, 129, 130, 132, 133, 134, 135, 136, 138, 139, 140, 141, 142, 165, 166, 174, 175] [] FI FIv27) → (g_fr n SH [(121, 35), (121, 36), (121, 39)] [127, 131, 137, 173] [] FL FLv28) → (g_I FIv27) → (rl_t (FIv27 152) (FLv28 153)) → (rl_h 2 (FIv27 136) (FLv28 137) (FIv27 138)) → (rl_h 32 (FIv27 130) (FLv28 131) (FIv27 134)) → (rl_b (FIv27 139) (FIv27 140) (FIv27 141)) → (rl_wm (FIv27 121 90) (FIv27 165) (FIv27 166)) → (0 ≤ (y2).toInt ∧ (y2).toInt ≤ 1) → (0 ≤ (y3).toInt ∧ (y3).toInt ≤ 1) → (0 ≤ (FIv27 121 92).toInt ∧ (FIv27 121 92).toInt ≤ 1000) → (mc_at (kf (FI 152)) (wf (FL 153)) q ((FIv27 121 92).toInt).toNat (y2).toInt (y3).toInt (sk (FIv27 166) ((FIv27 121 90).toInt).toNat) (FIv27 121 101).toInt) → (FIv27 152 = FI 152) → (FLv28 153 = FL 153) → 2 * (1001 - (FIv27 121 92).toInt) + (y3).toInt < m → hw zk base (d + 7) none 260 19 [(3, .int (y3)), (2, .int (y2)), (0, .ref (base + 121))] [] (n, sl, SH, FIv27, FLv28, FR) (h_J (fun r s => ∃ FI' FL', s = (n, sl, SH, FI', FL', FR) ∧ g_I FI' ∧ g_fr n SH [(121, 29), (121, 30), (121, 31), (121, 32), (121, 33), (121, 34), (121, 37), (121, 38), (121, 90), (121, 91), (121, 92), (121, 93), (121, 101), (121, 104)] [128, 129, 130, 132, 133, 134, 135, 136, 138, 139, 140, 141, 142, 165, 166, 174, 175] [] FI FI' ∧ g_fr n SH [(121, 35), (121, 36), (121, 39)] [127, 131, 137, 173] [] FL FL' ∧ ((FI' 121 92).toInt.toNat = q) ∧ (rl_h 2 (FI' 136) (FL' 137) (FI' 138)) ∧ (rl_h 32 (FI' 130) (FL' 131) (FI' 134)) ∧ (rl_b (FI' 139) (FI' 140) (FI' 141)))) := by
    intro m
    induction m with
    | zero => intro y3 y2 FIv27 FLv28 fr29 fr30 hI31 rl32 rl33 rl34 rl35 rl36 iv37 iv38 iv39 xi19_0 rw40 rw41 hm; omega
    | succ m ih =>
      intro y3 y2 FIv27 FLv28 fr29 fr30 hI31 rl32 rl33 rl34 rl35 rl36 iv37 iv38 iv39 xi19_0 rw40 rw41 hm
      have rg_y3 := i_rng y3
      have rg_y2 := i_rng y2
      obtain ⟨x43, h44⟩ : ∃ y, FIv27 121 92 = y := ⟨_, rfl⟩
      have h44l := congrArg Int32.toInt h44
      have b45 := gI_121_92 hI31; rw [h44] at b45
      refine xw_iloadn (aX12_choice 13 rfl) rfl ?_
      refine hw_ifeq (tgt := 69) (aX12_choice 14 rfl) (by decide) rfl (fun cd46 => ?_) (fun cd46 => ?_)
      · refine hw_aloadn (aX12_choice 39 rfl) rfl ?_
        refine hw_get (v := .ref (base + 173)) (aX12_choice 40 rfl) wf_RX12_178 (c121 hS) (s121 hS) (by decide) (congrArg (fun r => va_rf (h_rf base r)) (r121_100 hF)) ?_
        refine hw_ic (v := (0 : Int32)) (aX12_choice 41 rfl) (by decide) ?_
        obtain ⟨x47, h48⟩ : ∃ y, FLv28 173 0 = y := ⟨_, rfl⟩
        have h48l := congrArg Int64.toInt h48
        have := l_rng x47
        refine hw_lald (v := x47) (aX12_choice 42 rfl) (c173 hS) (s173 hS) (h_in (by decide : (0 : Int32).toInt = 0) (by omega) (by omega)) (show FLv28 173 ((0 : Int32)).toNatClampNeg = x47 from h48) ?_
        refine xw_lret (aX12_choice 43 rfl) rfl ?_
        exact ⟨x47, rfl, FIv27, FLv28, rfl, hI31, fr29, fr30, (by have hx := xi19_0; rw [show (y3).toInt = 0 by omega] at hx; have := mc_e hx; have := congrArg Int32.toInt (show FIv27 121 92 = x43 from h44); omega), (show rl_h 2 (FIv27 136) (FLv28 137) (FIv27 138) from rl33), (show rl_h 32 (FIv27 130) (FLv28 131) (FIv27 134) from rl34), (show rl_b (FIv27 139) (FIv27 140) (FIv27 141) from rl35)⟩
      · refine xw_iloadn (aX12_choice 15 rfl) rfl ?_
        refine hw_ifeq (tgt := 43) (aX12_choice 16 rfl) (by decide) rfl (fun cd49 => ?_) (fun cd49 => ?_)
        · refine hw_aloadn (aX12_choice 25 rfl) rfl ?_
          refine hw_ic (v := (0 : Int32)) (aX12_choice 26 rfl) (by decide) ?_
          refine hv_putz (aX12_choice 27 rfl) wf_RX12_577 (c121 hS) (s121 hS) (by decide) rfl rfl (by decide) (fun FI50 u51 => ?_)
          have rl52 : rl_t (FI50 152) (FLv28 153) := by rw [show FI50 152 = FIv27 152 from up_row u51 (by decide) rfl]; exact rl32
          have rl53 : rl_h 2 (FI50 136) (FLv28 137) (FI50 138) := by rw [show FI50 136 = FIv27 136 from up_row u51 (by decide) rfl, show FI50 138 = FIv27 138 from up_row u51 (by decide) rfl]; exact rl33
          have rl54 : rl_h 32 (FI50 130) (FLv28 131) (FI50 134) := by rw [show FI50 130 = FIv27 130 from up_row u51 (by decide) rfl, show FI50 134 = FIv27 134 from up_row u51 (by decide) rfl]; exact rl34
          have rl55 : rl_b (FI50 139) (FI50 140) (FI50 141) := by rw [show FI50 139 = FIv27 139 from up_row u51 (by decide) rfl, show FI50 140 = FIv27 140 from up_row u51 (by decide) rfl, show FI50 141 = FIv27 141 from up_row u51 (by decide) rfl]; exact rl35
          have rl56 : rl_wm (FI50 121 90) (FI50 165) (FI50 166) := by rw [show FI50 165 = FIv27 165 from up_row u51 (by decide) rfl, show FI50 166 = FIv27 166 from up_row u51 (by decide) rfl, show FI50 121 90 = FIv27 121 90 from up_k u51 (by decide) rfl]; exact rl36
          have hI57 : g_I FI50 := gU_121_91 hI31 u51 (by have := ((by decide : (0 : Int32).toInt = 0) : ((0 : Int32)).toInt = 0); omega) (by have := ((by decide : (0 : Int32).toInt = 0) : ((0 : Int32)).toInt = 0); omega)
          have hx := xi19_0; rw [show (y2).toInt = 0 by omega, show (y3).toInt = 1 by omega] at hx; have hr := mc_r hx
          have hr0 := hr; rw [show FIv27 166 = FI50 166 from (up_row u51 (by decide) rfl).symm, show FIv27 121 90 = FI50 121 90 from (up_k u51 (by decide) rfl).symm, show FIv27 121 92 = FI50 121 92 from (up_k u51 (by decide) rfl).symm, show FIv27 121 101 = FI50 121 101 from (up_k u51 (by decide) rfl).symm] at hr0
          have hl := hr0.2.2.2.1; rw [sk_len] at hl
          have := congrArg Int32.toInt (show FI50 121 92 = x43 from (up_k u51 (by decide) (h44)))
          obtain ⟨x58, h59⟩ : ∃ y, FI50 121 90 = y := ⟨_, rfl⟩
          have h59l := congrArg Int32.toInt h59
          have b60 := gI_121_90 hI57; rw [h59] at b60
          have := congrArg Int32.toInt (show FI50 121 90 = x58 from h59)
          obtain ⟨x61, h62⟩ : ∃ y, FI50 121 101 = y := ⟨_, rfl⟩
          have h62l := congrArg Int32.toInt h62
          have b63 := gI_121_101 hI57; rw [h62] at b63
          have := congrArg Int32.toInt (show FI50 121 101 = x61 from h62)
          have hpq := hr0.2.2.2.2.1
          refine hw_aloadn (aX12_choice 28 rfl) rfl ?_
          refine hw_callV (Bs := []) (rest := []) (aX12_choice 29 rfl) wc_RX12_689 (by decide) rfl wi_yX12_meansOperator wv_yX12_meansOperator (c121 hS) (s121 hS) rfl rfl rfl (Nat.le_of_ble_eq_true rfl) (Nat.le_of_ble_eq_true rfl) (n_meansOperator (d := d + 1) hS hF hI57 (by have := congrArg Int32.toInt (show FI50 121 90 = x58 from h59); omega) (by have := congrArg Int32.toInt (show FI50 121 92 = x43 from (up_k u51 (by decide) (h44))); omega) (by have := congrArg Int32.toInt (show FI50 121 91 = (0 : Int32) from up_eq u51); have := ((by decide : (0 : Int32).toInt = 0) : ((0 : Int32)).toInt = 0); omega) (hr0.1) (hr0.2.1) (hr0.2.2.1) (show rl_wm (FI50 121 90) (FI50 165) (FI50 166) from rl56)) (fun v64 sv65 p66 => ?_)
          obtain ⟨r67, rfl, FI68, FL69, rfl, hI70, f71, f72, t73, u74, u75, rl76⟩ := p66
          have rl77 : rl_t (FI68 152) (FL69 153) := by rw [show FI68 152 = FI50 152 from gf_row f71 (c152 hS) (s152 hS) rfl rfl, show FL69 153 = FLv28 153 from gf_row f72 (c153 hS) (s153 hS) rfl rfl]; exact rl52
          have rl78 : rl_h 2 (FI68 136) (FL69 137) (FI68 138) := by rw [show FI68 136 = FI50 136 from gf_row f71 (c136 hS) (s136 hS) rfl rfl, show FL69 137 = FLv28 137 from gf_row f72 (c137 hS) (s137 hS) rfl rfl, show FI68 138 = FI50 138 from gf_row f71 (c138 hS) (s138 hS) rfl rfl]; exact rl53
          have rl79 : rl_h 32 (FI68 130) (FL69 131) (FI68 134) := by rw [show FI68 130 = FI50 130 from gf_row f71 (c130 hS) (s130 hS) rfl rfl, show FL69 131 = FLv28 131 from gf_row f72 (c131 hS) (s131 hS) rfl rfl, show FI68 134 = FI50 134 from gf_row f71 (c134 hS) (s134 hS) rfl rfl]; exact rl54
          have rl80 : rl_b (FI68 139) (FI68 140) (FI68 141) := by rw [show FI68 139 = FI50 139 from gf_row f71 (c139 hS) (s139 hS) rfl rfl, show FI68 140 = FI50 140 from gf_row f71 (c140 hS) (s140 hS) rfl rfl, show FI68 141 = FI50 141 from gf_row f71 (c141 hS) (s141 hS) rfl rfl]; exact rl55
          show hw zk base _ _ _ _ _ [.int (r67)] _ _
          have hma := u74; rw [show FI50 152 = FI 152 from (up_row u51 (by decide) (rw40)), show FLv28 153 = FL 153 from rw41, show FI50 166 = FIv27 166 from (up_row u51 (by decide) rfl), show FI50 121 90 = FIv27 121 90 from (up_k u51 (by decide) rfl), show FI50 121 92 = FIv27 121 92 from (up_k u51 (by decide) rfl)] at hma; have hmb := u75; rw [show FI50 152 = FI 152 from (up_row u51 (by decide) (rw40)), show FLv28 153 = FL 153 from rw41, show FI50 166 = FIv27 166 from (up_row u51 (by decide) rfl), show FI50 121 90 = FIv27 121 90 from (up_k u51 (by decide) rfl), show FI50 121 92 = FIv27 121 92 from (up_k u51 (by decide) rfl)] at hmb
          obtain ⟨x81, h82⟩ : ∃ y, FI68 121 92 = y := ⟨_, rfl⟩
          have h82l := congrArg Int32.toInt h82
          have b83 := gI_121_92 hI70; rw [h82] at b83
          have := congrArg Int32.toInt (show FI68 121 92 = x81 from h82)
          obtain ⟨x84, h85⟩ : ∃ y, FI68 121 91 = y := ⟨_, rfl⟩
          have h85l := congrArg Int32.toInt h85
          have b86 := gI_121_91 hI70; rw [h85] at b86
          have := congrArg Int32.toInt (show FI68 121 91 = x84 from h85)
          have hmi : ((r67).toInt = 0 ∧ (FI68 121 92).toInt.toNat = (FIv27 121 92).toInt.toNat) ∨ ((r67).toInt = 1 ∧ (FIv27 121 92).toInt.toNat < (FI68 121 92).toInt.toNat ∧ (FI68 121 92).toInt.toNat ≤ q) := by rcases hr.2.2.2.2.2 with ⟨hc, hp⟩ | ⟨p1, b1, l1, hst, hp1, hnx⟩; { have ho := hmb hc; exact Or.inl ho }; { have hd := hma p1 b1 l1 hst; have := au_st_lt hst; exact Or.inr ⟨hd.1, by omega, by omega⟩ }
          replace hr := hid_i hr; clear hr0
          refine xw_istoren (L2 := [(3, .int (r67)), (2, .int (y2)), (0, .ref (base + 121))]) (aX12_choice 30 rfl) (by decide) rfl ?_
          refine hw_aloadn (aX12_choice 31 rfl) rfl ?_
          refine hw_get (v := .int (x84)) (aX12_choice 32 rfl) wf_RX12_577 (c121 hS) (s121 hS) (by decide) (congrArg Value.int (show FI68 121 91 = x84 from h85)) ?_
          refine hw_ifne (tgt := 64) (aX12_choice 33 rfl) (by decide) rfl (fun cd87 => ?_) (fun cd87 => ?_)
          · refine hw_ic (v := (0 : Int32)) (aX12_choice 36 rfl) (by decide) ?_
            refine xw_istoren (L2 := [(2, .int ((0 : Int32))), (3, .int (r67)), (0, .ref (base + 121))]) (aX12_choice 37 rfl) (by decide) rfl ?_
            refine xw_goto (tgt := 19) (aX12_choice 38 rfl) (by decide) ?_
            obtain ⟨x88, h89⟩ : ∃ y, FI68 121 101 = y := ⟨_, rfl⟩
            have h89l := congrArg Int32.toInt h89
            have b90 := gI_121_101 hI70; rw [h89] at b90
            obtain ⟨x91, h92⟩ : ∃ y, FI68 121 90 = y := ⟨_, rfl⟩
            have h92l := congrArg Int32.toInt h92
            have b93 := gI_121_90 hI70; rw [h92] at b93
            exact hw_L (ih (r67) ((0 : Int32)) FI68 FL69 (gf_tr ex_rf (gf_f fr29 u51 (by decide)) f71 rfl rfl rfl) (gf_tr ex_rf fr30 f72 rfl rfl rfl) hI70 (show rl_t (FI68 152) (FL69 153) from rl77) (show rl_h 2 (FI68 136) (FL69 137) (FI68 138) from rl78) (show rl_h 32 (FI68 130) (FL69 131) (FI68 134) from rl79) (show rl_b (FI68 139) (FI68 140) (FI68 141) from rl80) (show rl_wm (FI68 121 90) (FI68 165) (FI68 166) from rl76) (by have := ((by decide : (0 : Int32).toInt = 0) : ((0 : Int32)).toInt = 0); omega) (by have := ((by decide : (0 : Int32).toInt = 0) : ((0 : Int32)).toInt = 0); omega) (by have := ((by decide : (0 : Int32).toInt = 0) : ((0 : Int32)).toInt = 0); have := congrArg Int32.toInt (show FI68 121 92 = x81 from h82); omega) (show mc_at (kf (FI 152)) (wf (FL 153)) q ((FI68 121 92).toInt).toNat 0 (r67).toInt (sk (FI68 166) ((FI68 121 90).toInt).toNat) (FI68 121 101).toInt from (by have := ((by decide : (0 : Int32).toInt = 0) : ((0 : Int32)).toInt = 0); have := congrArg Int32.toInt (show FI68 121 101 = x88 from h89); have := congrArg Int32.toInt (show FI68 121 90 = x91 from h92); have := congrArg Int32.toInt (show FI68 121 92 = x81 from h82); exact (by rcases (hid_e hr).2.2.2.2.2 with ⟨hc, hp⟩ | ⟨p1, b1, l1, hst, hp1, hnx⟩; { have ho := hmb hc; exact Or.inl ⟨by omega, by rw [← hp]; exact ho.2⟩ }; { have hd := hma p1 b1 l1 hst; have e2 : (if b1 = true then (1 : Int) else 0) = 0 := (by have hq := hd.2.2.2.2; cases b1 <;> simp at hq ⊢ <;> omega); have h9 := hnx; rw [e2] at h9; rw [hd.2.1, hd.2.2.1, hd.2.2.2.1, show ((r67).toInt : Int) = 1 from hd.1]; exact h9 }))) (show FI68 152 = FI 152 from (gf_row f71 (c152 hS) (s152 hS) rfl ((up_row u51 (by decide) (rw40))))) (show FL69 153 = FL 153 from (gf_row f72 (c153 hS) (s153 hS) rfl (rw41))) (by have := ((by decide : (0 : Int32).toInt = 0) : ((0 : Int32)).toInt = 0); have := congrArg Int32.toInt (show FI68 121 92 = x81 from h82); omega)) ⟨rfl, rfl, rfl, trivial⟩
          · refine hw_ic (v := (1 : Int32)) (aX12_choice 34 rfl) (by decide) ?_
            refine xw_goto (tgt := 65) (aX12_choice 35 rfl) (by decide) ?_
            refine xw_istoren (L2 := [(2, .int ((1 : Int32))), (3, .int (r67)), (0, .ref (base + 121))]) (aX12_choice 37 rfl) (by decide) rfl ?_
            refine xw_goto (tgt := 19) (aX12_choice 38 rfl) (by decide) ?_
            obtain ⟨x94, h95⟩ : ∃ y, FI68 121 101 = y := ⟨_, rfl⟩
            have h95l := congrArg Int32.toInt h95
            have b96 := gI_121_101 hI70; rw [h95] at b96
            obtain ⟨x97, h98⟩ : ∃ y, FI68 121 90 = y := ⟨_, rfl⟩
            have h98l := congrArg Int32.toInt h98
            have b99 := gI_121_90 hI70; rw [h98] at b99
            exact hw_L (ih (r67) ((1 : Int32)) FI68 FL69 (gf_tr ex_rf (gf_f fr29 u51 (by decide)) f71 rfl rfl rfl) (gf_tr ex_rf fr30 f72 rfl rfl rfl) hI70 (show rl_t (FI68 152) (FL69 153) from rl77) (show rl_h 2 (FI68 136) (FL69 137) (FI68 138) from rl78) (show rl_h 32 (FI68 130) (FL69 131) (FI68 134) from rl79) (show rl_b (FI68 139) (FI68 140) (FI68 141) from rl80) (show rl_wm (FI68 121 90) (FI68 165) (FI68 166) from rl76) (by have := ((by decide : (1 : Int32).toInt = 1) : ((1 : Int32)).toInt = 1); omega) (by have := ((by decide : (1 : Int32).toInt = 1) : ((1 : Int32)).toInt = 1); omega) (by have := ((by decide : (1 : Int32).toInt = 1) : ((1 : Int32)).toInt = 1); have := congrArg Int32.toInt (show FI68 121 92 = x81 from h82); omega) (show mc_at (kf (FI 152)) (wf (FL 153)) q ((FI68 121 92).toInt).toNat 1 (r67).toInt (sk (FI68 166) ((FI68 121 90).toInt).toNat) (FI68 121 101).toInt from (by have := ((by decide : (1 : Int32).toInt = 1) : ((1 : Int32)).toInt = 1); have := congrArg Int32.toInt (show FI68 121 101 = x94 from h95); have := congrArg Int32.toInt (show FI68 121 90 = x97 from h98); have := congrArg Int32.toInt (show FI68 121 92 = x81 from h82); exact (by rcases (hid_e hr).2.2.2.2.2 with ⟨hc, hp⟩ | ⟨p1, b1, l1, hst, hp1, hnx⟩; { have ho := hmb hc; exact Or.inl ⟨by omega, by rw [← hp]; exact ho.2⟩ }; { have hd := hma p1 b1 l1 hst; have e2 : (if b1 = true then (1 : Int) else 0) = 1 := (by have hq := hd.2.2.2.2; cases b1 <;> simp at hq ⊢ <;> omega); have h9 := hnx; rw [e2] at h9; rw [hd.2.1, hd.2.2.1, hd.2.2.2.1, show ((r67).toInt : Int) = 1 from hd.1]; exact h9 }))) (show FI68 152 = FI 152 from (gf_row f71 (c152 hS) (s152 hS) rfl ((up_row u51 (by decide) (rw40))))) (show FL69 153 = FL 153 from (gf_row f72 (c153 hS) (s153 hS) rfl (rw41))) (by have := ((by decide : (1 : Int32).toInt = 1) : ((1 : Int32)).toInt = 1); have := congrArg Int32.toInt (show FI68 121 92 = x81 from h82); omega)) ⟨rfl, rfl, rfl, trivial⟩
        · have hx := xi19_0; rw [show (y2).toInt = 1 by omega, show (y3).toInt = 1 by omega] at hx; obtain ⟨hv, hl, p1, b1, l1, hst, hp1, hnx⟩ := mc_d hx; rw [sk_len] at hl; have hltp := au_st_lt hst
          have := congrArg Int32.toInt (show FIv27 121 92 = x43 from h44)
          obtain ⟨x100, h101⟩ : ∃ y, FIv27 121 90 = y := ⟨_, rfl⟩
          have h101l := congrArg Int32.toInt h101
          have b102 := gI_121_90 hI31; rw [h101] at b102
          have := congrArg Int32.toInt (show FIv27 121 90 = x100 from h101)
          obtain ⟨x103, h104⟩ : ∃ y, FIv27 121 101 = y := ⟨_, rfl⟩
          have h104l := congrArg Int32.toInt h104
          have b105 := gI_121_101 hI31; rw [h104] at b105
          have := congrArg Int32.toInt (show FIv27 121 101 = x103 from h104)
          refine hw_aloadn (aX12_choice 17 rfl) rfl ?_
          refine hw_callV (Bs := []) (rest := []) (aX12_choice 18 rfl) wc_RX12_686 (by decide) rfl wi_yX12_meansOperand wv_yX12_meansOperand (c121 hS) (s121 hS) rfl rfl rfl (Nat.le_of_ble_eq_true rfl) (Nat.le_of_ble_eq_true rfl) (n_meansOperand (d := d) hS hF hI31 (by have := congrArg Int32.toInt (show FIv27 121 90 = x100 from h101); omega) (by rw [show FIv27 152 = FI 152 from rw40, show FLv28 153 = FL 153 from rw41]; exact ⟨p1, b1, l1, hst, by omega⟩) (hv) (show rl_wm (FIv27 121 90) (FIv27 165) (FIv27 166) from rl36) (show rl_t (FIv27 152) (FLv28 153) from rl32) (show rl_h 2 (FIv27 136) (FLv28 137) (FIv27 138) from rl33) (show rl_h 32 (FIv27 130) (FLv28 131) (FIv27 134) from rl34) (show rl_b (FIv27 139) (FIv27 140) (FIv27 141) from rl35)) (fun v106 sv107 p108 => ?_)
          obtain ⟨r109, rfl, FI110, FL111, rfl, hI112, f113, f114, t115, u116, rl117, rl118, rl119, rl120⟩ := p108
          have rl121 : rl_t (FI110 152) (FL111 153) := by rw [show FI110 152 = FIv27 152 from gf_row f113 (c152 hS) (s152 hS) rfl rfl, show FL111 153 = FLv28 153 from gf_row f114 (c153 hS) (s153 hS) rfl rfl]; exact rl32
          show hw zk base _ _ _ _ _ [.int (r109)] _ _
          have hd := u116 p1 b1 l1 (by rw [show FIv27 152 = FI 152 from rw40, show FLv28 153 = FL 153 from rw41]; exact hst)
          obtain ⟨x122, h123⟩ : ∃ y, FI110 121 92 = y := ⟨_, rfl⟩
          have h123l := congrArg Int32.toInt h123
          have b124 := gI_121_92 hI112; rw [h123] at b124
          have := congrArg Int32.toInt (show FI110 121 92 = x122 from h123); have hd2 := hd.2.1; have hd1 : 0 ≤ (r109).toInt ∧ (r109).toInt ≤ 1 := (by have hq := hd.1; cases b1 <;> simp at hq <;> omega)
          refine hw_ifne (tgt := 38) (aX12_choice 19 rfl) (by decide) rfl (fun cd125 => ?_) (fun cd125 => ?_)
          · refine hw_ic (v := (0 : Int32)) (aX12_choice 22 rfl) (by decide) ?_
            refine xw_istoren (L2 := [(2, .int ((0 : Int32))), (3, .int (y3)), (0, .ref (base + 121))]) (aX12_choice 23 rfl) (by decide) rfl ?_
            refine xw_goto (tgt := 19) (aX12_choice 24 rfl) (by decide) ?_
            obtain ⟨x126, h127⟩ : ∃ y, FI110 121 101 = y := ⟨_, rfl⟩
            have h127l := congrArg Int32.toInt h127
            have b128 := gI_121_101 hI112; rw [h127] at b128
            obtain ⟨x129, h130⟩ : ∃ y, FI110 121 90 = y := ⟨_, rfl⟩
            have h130l := congrArg Int32.toInt h130
            have b131 := gI_121_90 hI112; rw [h130] at b131
            exact hw_L (ih (y3) ((0 : Int32)) FI110 FL111 (gf_tr ex_rf fr29 f113 rfl rfl rfl) (gf_tr ex_rf fr30 f114 rfl rfl rfl) hI112 (show rl_t (FI110 152) (FL111 153) from rl121) (show rl_h 2 (FI110 136) (FL111 137) (FI110 138) from rl118) (show rl_h 32 (FI110 130) (FL111 131) (FI110 134) from rl119) (show rl_b (FI110 139) (FI110 140) (FI110 141) from rl120) (show rl_wm (FI110 121 90) (FI110 165) (FI110 166) from rl117) (by have := ((by decide : (0 : Int32).toInt = 0) : ((0 : Int32)).toInt = 0); omega) (by have := ((by decide : (0 : Int32).toInt = 0) : ((0 : Int32)).toInt = 0); omega) (by have := ((by decide : (0 : Int32).toInt = 0) : ((0 : Int32)).toInt = 0); have := congrArg Int32.toInt (show FI110 121 92 = x122 from h123); omega) (show mc_at (kf (FI 152)) (wf (FL 153)) q ((FI110 121 92).toInt).toNat 0 (y3).toInt (sk (FI110 166) ((FI110 121 90).toInt).toNat) (FI110 121 101).toInt from (by have := ((by decide : (0 : Int32).toInt = 0) : ((0 : Int32)).toInt = 0); have := congrArg Int32.toInt (show FI110 121 101 = x126 from h127); have := congrArg Int32.toInt (show FI110 121 90 = x129 from h130); have := congrArg Int32.toInt (show FI110 121 92 = x122 from h123); exact (by have e2 : (if b1 = true then (1 : Int) else 0) = 0 := (by have hq := hd.1; cases b1 <;> simp at hq ⊢ <;> omega); have h9 := hnx; rw [e2] at h9; rw [hd.2.1, hd.2.2.1, hd.2.2.2, show ((y3).toInt : Int) = 1 by omega]; exact h9))) (show FI110 152 = FI 152 from (gf_row f113 (c152 hS) (s152 hS) rfl (rw40))) (show FL111 153 = FL 153 from (gf_row f114 (c153 hS) (s153 hS) rfl (rw41))) (by have := ((by decide : (0 : Int32).toInt = 0) : ((0 : Int32)).toInt = 0); have := congrArg Int32.toInt (show FI110 121 92 = x122 from h123); omega)) ⟨rfl, rfl, rfl, trivial⟩
          · refine hw_ic (v := (1 : Int32)) (aX12_choice 20 rfl) (by decide) ?_
            refine xw_goto (tgt := 39) (aX12_choice 21 rfl) (by decide) ?_
            refine xw_istoren (L2 := [(2, .int ((1 : Int32))), (3, .int (y3)), (0, .ref (base + 121))]) (aX12_choice 23 rfl) (by decide) rfl ?_
            refine xw_goto (tgt := 19) (aX12_choice 24 rfl) (by decide) ?_
            obtain ⟨x132, h133⟩ : ∃ y, FI110 121 101 = y := ⟨_, rfl⟩
            have h133l := congrArg Int32.toInt h133
            have b134 := gI_121_101 hI112; rw [h133] at b134
            obtain ⟨x135, h136⟩ : ∃ y, FI110 121 90 = y := ⟨_, rfl⟩
            have h136l := congrArg Int32.toInt h136
            have b137 := gI_121_90 hI112; rw [h136] at b137
            exact hw_L (ih (y3) ((1 : Int32)) FI110 FL111 (gf_tr ex_rf fr29 f113 rfl rfl rfl) (gf_tr ex_rf fr30 f114 rfl rfl rfl) hI112 (show rl_t (FI110 152) (FL111 153) from rl121) (show rl_h 2 (FI110 136) (FL111 137) (FI110 138) from rl118) (show rl_h 32 (FI110 130) (FL111 131) (FI110 134) from rl119) (show rl_b (FI110 139) (FI110 140) (FI110 141) from rl120) (show rl_wm (FI110 121 90) (FI110 165) (FI110 166) from rl117) (by have := ((by decide : (1 : Int32).toInt = 1) : ((1 : Int32)).toInt = 1); omega) (by have := ((by decide : (1 : Int32).toInt = 1) : ((1 : Int32)).toInt = 1); omega) (by have := ((by decide : (1 : Int32).toInt = 1) : ((1 : Int32)).toInt = 1); have := congrArg Int32.toInt (show FI110 121 92 = x122 from h123); omega) (show mc_at (kf (FI 152)) (wf (FL 153)) q ((FI110 121 92).toInt).toNat 1 (y3).toInt (sk (FI110 166) ((FI110 121 90).toInt).toNat) (FI110 121 101).toInt from (by have := ((by decide : (1 : Int32).toInt = 1) : ((1 : Int32)).toInt = 1); have := congrArg Int32.toInt (show FI110 121 101 = x132 from h133); have := congrArg Int32.toInt (show FI110 121 90 = x135 from h136); have := congrArg Int32.toInt (show FI110 121 92 = x122 from h123); exact (by have e2 : (if b1 = true then (1 : Int) else 0) = 1 := (by have hq := hd.1; cases b1 <;> simp at hq ⊢ <;> omega); have h9 := hnx; rw [e2] at h9; rw [hd.2.1, hd.2.2.1, hd.2.2.2, show ((y3).toInt : Int) = 1 by omega]; exact h9))) (show FI110 152 = FI 152 from (gf_row f113 (c152 hS) (s152 hS) rfl (rw40))) (show FL111 153 = FL 153 from (gf_row f114 (c153 hS) (s153 hS) rfl (rw41))) (by have := ((by decide : (1 : Int32).toInt = 1) : ((1 : Int32)).toInt = 1); have := congrArg Int32.toInt (show FI110 121 92 = x122 from h123); omega)) ⟨rfl, rfl, rfl, trivial⟩
  exact hw_L (lp42 ((2 * (1001 - (x1).toInt) + 1 : Int).toNat + 1) ((1 : Int32)) ((1 : Int32)) FI19 FL (gf_f (gf_f (gf_f gf_rf u6 (by decide)) u13 (by decide)) u20 (by decide)) gf_rf hI25 (show rl_t (FI19 152) (FL 153) from rl21) (show rl_h 2 (FI19 136) (FL 137) (FI19 138) from rl22) (show rl_h 32 (FI19 130) (FL 131) (FI19 134) from rl23) (show rl_b (FI19 139) (FI19 140) (FI19 141) from rl24) (show rl_wm (FI19 121 90) (FI19 165) (FI19 166) from rl26) (by have := ((by decide : (1 : Int32).toInt = 1) : ((1 : Int32)).toInt = 1); have := ((by decide : (1 : Int32).toInt = 1) : ((1 : Int32)).toInt = 1); omega) (by have := ((by decide : (1 : Int32).toInt = 1) : ((1 : Int32)).toInt = 1); have := ((by decide : (1 : Int32).toInt = 1) : ((1 : Int32)).toInt = 1); omega) (by have := ((by decide : (1 : Int32).toInt = 1) : ((1 : Int32)).toInt = 1); have := ((by decide : (1 : Int32).toInt = 1) : ((1 : Int32)).toInt = 1); have := congrArg Int32.toInt (show FI19 121 92 = x1 from (up_k u20 (by decide) ((up_k u13 (by decide) ((up_k u6 (by decide) (h2))))))); omega) (show mc_at (kf (FI 152)) (wf (FL 153)) q ((FI19 121 92).toInt).toNat 1 1 (sk (FI19 166) ((FI19 121 90).toInt).toNat) (FI19 121 101).toInt from (by have := ((by decide : (1 : Int32).toInt = 1) : ((1 : Int32)).toInt = 1); have := ((by decide : (1 : Int32).toInt = 1) : ((1 : Int32)).toInt = 1); have := congrArg Int32.toInt (show FI19 121 101 = (0 : Int32) from (up_k u20 (by decide) (up_eq u13))); have := ((by decide : (0 : Int32).toInt = 0) : ((0 : Int32)).toInt = 0); have := congrArg Int32.toInt (show FI19 121 90 = (0 : Int32) from (up_k u20 (by decide) ((up_k u13 (by decide) (up_eq u6))))); have := ((by decide : (0 : Int32).toInt = 0) : ((0 : Int32)).toInt = 0); have := congrArg Int32.toInt (show FI19 121 92 = x1 from (up_k u20 (by decide) ((up_k u13 (by decide) ((up_k u6 (by decide) (h2))))))); exact (by rw [show ((FI19 121 92).toInt).toNat = (FI 121 92).toInt.toNat by omega, show ((FI19 121 90).toInt).toNat = 0 by omega, show (1 : Int) = 1 by omega, show (1 : Int) = 1 by omega, show ((FI19 121 101).toInt : Int) = 0 by omega]; exact mc_0 gg0))) (show FI19 152 = FI 152 from (up_row u20 (by decide) ((up_row u13 (by decide) ((up_row u6 (by decide) (rfl))))))) (show FL 153 = FL 153 from rfl) (by have := ((by decide : (1 : Int32).toInt = 1) : ((1 : Int32)).toInt = 1); have := ((by decide : (1 : Int32).toInt = 1) : ((1 : Int32)).toInt = 1); have := congrArg Int32.toInt (show FI19 121 92 = x1 from (up_k u20 (by decide) ((up_k u13 (by decide) ((up_k u6 (by decide) (h2))))))); omega)) ⟨rfl, rfl, rfl, trivial⟩
end
