def nX12_operand : Nat := 0xac045402b62aac03e701b6042a0a00a7de01b56004de01b42a2af001b69700110600a79c00110900991702b6082a2a2500991702b606102a0c009a1702b6082a3d00a75102b64d02b61b2a2ade01b56004de01b42a2af001b69100112a3c6004de01b42a2700991702b6072a6900a74a02b62a0a0099e401b625102a7900a7de01b56004de01b42a2a4702b62fde01b42a6c00b42a2a1d00a0062ede01b42a6900b42aac034402b602032a1a02b62a0f0099e401b628102aac034402b609101c2a1a02b62a3d20100500a71f100800a02d101b1000a7601b0001111800a706100800a008101b1600a0072ede01b42a6900b42a3000a79b00110900991702b607102a3c882fde01b42a6c00b42a5800991702b607102a0c009f072ede01b42a6900b42a19009ae401b67e102a22009ae401b62d102a
theorem bX12_operand : cX12_operand.data.toList.map UInt8.toNat = x_un nX12_operand 309 := by decide +kernel
def iX12_operand : List (Nat × Jvm.ClassFile.Instr × Nat) := [(0, .aload_n 0, 1), (1, .bipush 45, 2), (3, .invokevirtual 484, 3), (6, .ifCond .ne 34, 3), (9, .aload_n 0, 1), (10, .bipush 126, 2), (12, .invokevirtual 484, 3), (15, .ifCond .ne 25, 3), (18, .aload_n 0, 1), (19, .getfield 105, 3), (22, .aload_n 0, 1), (23, .getfield 478, 3), (26, .iaload, 1), (27, .iconst 4, 1), (28, .if_icmp .eq 12, 3), (31, .aload_n 0, 1), (32, .bipush 7, 2), (34, .invokevirtual 535, 3), (37, .ifCond .eq 88, 3), (40, .aload_n 0, 1), (41, .getfield 108, 3), (44, .aload_n 0, 1), (45, .getfield 478, 3), (48, .laload, 1), (49, .l2i, 1), (50, .istore_n 1, 1), (51, .aload_n 0, 1), (52, .bipush 7, 2), (54, .invokevirtual 535, 3), (57, .ifCond .eq 9, 3), (60, .sipush 155, 3), (63, .goto 48, 3), (66, .aload_n 0, 1), (67, .getfield 105, 3), (70, .aload_n 0, 1), (71, .getfield 478, 3), (74, .iaload, 1), (75, .iconst 4, 1), (76, .if_icmp .ne 22, 3), (79, .iload_n 1, 1), (80, .bipush 8, 2), (82, .if_icmp .ne 8, 3), (85, .bipush 6, 2), (87, .goto 24, 3), (90, .sipush 256, 3), (93, .iload_n 1, 1), (94, .iadd, 1), (95, .goto 16, 3), (98, .iload_n 1, 1), (99, .bipush 45, 2), (101, .if_icmp .ne 8, 3), (104, .bipush 31, 2), (106, .goto 5, 3), (109, .bipush 32, 2), (111, .istore_n 2, 1), (112, .aload_n 0, 1), (113, .invokevirtual 538, 3), (116, .aload_n 0, 1), (117, .iload_n 2, 1), (118, .bipush 9, 2), (120, .invokevirtual 580, 3), (123, .iconst 0, 1), (124, .ireturn, 1), (125, .aload_n 0, 1), (126, .bipush 40, 2), (128, .invokevirtual 484, 3), (131, .ifCond .eq 15, 3), (134, .aload_n 0, 1), (135, .invokevirtual 538, 3), (138, .aload_n 0, 1), (139, .iconst 0, 1), (140, .iconst (-1), 1), (141, .invokevirtual 580, 3), (144, .iconst 0, 1), (145, .ireturn, 1), (146, .aload_n 0, 1), (147, .getfield 105, 3), (150, .aload_n 0, 1), (151, .getfield 478, 3), (154, .iaload, 1), (155, .iconst 3, 1), (156, .if_icmp .ne 29, 3), (159, .aload_n 0, 1), (160, .aload_n 0, 1), (161, .getfield 108, 3), (164, .aload_n 0, 1), (165, .getfield 478, 3), (168, .laload, 1), (169, .invokevirtual 583, 3), (172, .aload_n 0, 1), (173, .aload_n 0, 1), (174, .getfield 478, 3), (177, .iconst 1, 1), (178, .iadd, 1), (179, .putfield 478, 3), (182, .goto 121, 3), (185, .aload_n 0, 1), (186, .bipush 37, 2), (188, .invokevirtual 484, 3), (191, .ifCond .eq 10, 3), (194, .aload_n 0, 1), (195, .invokevirtual 586, 3), (198, .goto 105, 3), (201, .aload_n 0, 1), (202, .iconst 4, 1), (203, .invokevirtual 535, 3), (206, .ifCond .eq 39, 3), (209, .aload_n 0, 1), (210, .getfield 478, 3), (213, .iconst 1, 1), (214, .iadd, 1), (215, .istore_n 1, 1), (216, .aload_n 0, 1), (217, .sipush 145, 3), (220, .invokevirtual 496, 3), (223, .aload_n 0, 1), (224, .aload_n 0, 1), (225, .getfield 478, 3), (228, .iconst 1, 1), (229, .iadd, 1), (230, .putfield 478, 3), (233, .aload_n 0, 1), (234, .aload_n 0, 1), (235, .iload_n 1, 1), (236, .invokevirtual 589, 3), (239, .invokevirtual 593, 3), (242, .goto 61, 3), (245, .aload_n 0, 1), (246, .iconst 5, 1), (247, .invokevirtual 535, 3), (250, .ifCond .ne 12, 3), (253, .aload_n 0, 1), (254, .bipush 6, 2), (256, .invokevirtual 535, 3), (259, .ifCond .eq 37, 3), (262, .aload_n 0, 1), (263, .aload_n 0, 1), (264, .iconst 5, 1), (265, .invokevirtual 535, 3), (268, .ifCond .eq 9, 3), (271, .sipush 156, 3), (274, .goto 6, 3), (277, .sipush 151, 3), (280, .invokevirtual 496, 3), (283, .aload_n 0, 1), (284, .aload_n 0, 1), (285, .getfield 478, 3), (288, .iconst 1, 1), (289, .iadd, 1), (290, .putfield 478, 3), (293, .goto 10, 3), (296, .aload_n 0, 1), (297, .iconst 1, 1), (298, .invokevirtual 487, 3), (301, .iconst 0, 1), (302, .ireturn, 1), (303, .aload_n 0, 1), (304, .invokevirtual 596, 3), (307, .iconst 1, 1), (308, .ireturn, 1)]
theorem dX12_operand : x_il nX12_operand 309 iX12_operand = true := by decide +kernel
theorem aX12_operand (k : Nat) {pc : Nat} {i : Jvm.ClassFile.Instr} {len : Nat} (hk : iX12_operand[k]? = some (pc, i, len)) : x_at xMM 239 pc i len yX12_operand 3 (some .boolean) := ⟨cX12_operand, rfl, x_il_ok bX12_operand dX12_operand k hk⟩
set_option maxHeartbeats 4000000 in
set_option maxRecDepth 100000 in
theorem n_operand {base d n sl : Nat} {SH : Nat → Nat × Nat} {FI : Nat → Nat → Int32} {FL : Nat → Nat → Int64} {FR : Nat → Nat → Option Nat} (hS : h_S n SH) (hF : h_FR FR) (hI : g_I FI) (g0 : (FI 121 68).toInt ≤ (FI 121 67).toInt - 1) (g1 : (FI 121 69).toInt = 0) (g2 : (FI 121 73).toInt + 4 * (FI 121 90).toInt ≤ 27000) (g3 : (FI 121 90).toInt ≤ 200) (g4 : 0 ≤ (FI 121 71).toInt ∧ (FI 121 71).toInt ≤ 12) (rel_tend : rl_e (FI 149) (FI 121 67)) (rel_tok : rl_t (FI 149) (FL 150)) (rel_pm : rl_pm (FI 121 90) (FI 121 73) (FI 166) (FI 167) (FI 168)) : hw base (d + 4) none 239 0 [(0, .ref (base + 121))] [] (n, sl, SH, FI, FL, FR) (h_I (fun r s => ∃ FI', s = (n, sl, SH, FI', FL, FR) ∧ g_I FI' ∧ g_fr n SH [(121, 68), (121, 69), (121, 70), (121, 71), (121, 73), (121, 90)] [154, 165, 166] [] FI FI' ∧ ((FI' 121 68).toInt ≤ (FI' 121 67).toInt - 1) ∧ ((FI 121 68).toInt ≤ (FI' 121 68).toInt) ∧ ((FI' 121 73).toInt + 4 * (FI' 121 90).toInt ≤ (FI 121 73).toInt + 4 * (FI 121 90).toInt + 20 * ((FI' 121 68).toInt - (FI 121 68).toInt)) ∧ ((FI 121 73).toInt ≤ (FI' 121 73).toInt) ∧ ((FI' 121 69).toInt = 0 → (FI 121 68).toInt < (FI' 121 68).toInt ∧ (FI' 121 71).toInt ≤ 12) ∧ ((FI' 121 90).toInt ≤ (FI 121 90).toInt + 1) ∧ ((FI 121 71).toInt - 600 ≤ (FI' 121 71).toInt ∧ (FI' 121 71).toInt ≤ (FI 121 71).toInt + 1) ∧ (0 ≤ r.toInt ∧ r.toInt ≤ 1) ∧ ((FI' 121 69).toInt = 0 → co_opd (kf (FI 149)) (wf (FL 150)) (FI 121 68).toInt.toNat (sk (FI 166) (FI 121 90).toInt.toNat) (FI' 121 68).toInt.toNat r.toInt (sk (FI' 166) (FI' 121 90).toInt.toNat)) ∧ ((FI' 121 69).toInt = 0 → (FI' 121 71).toInt - (au_op (sk (FI' 166) (FI' 121 90).toInt.toNat) : Int) = (FI 121 71).toInt - (au_op (sk (FI 166) (FI 121 90).toInt.toNat) : Int)) ∧ (rl_pm (FI' 121 90) (FI' 121 73) (FI' 166) (FI' 167) (FI' 168)))) := by
  obtain ⟨x1, h2⟩ : ∃ y, FI 121 68 = y := ⟨_, rfl⟩
  have h2l := congrArg Int32.toInt h2
  have b3 := gI_121_68 hI; rw [h2] at b3
  obtain ⟨x4, h5⟩ : ∃ y, FI 121 67 = y := ⟨_, rfl⟩
  have h5l := congrArg Int32.toInt h5
  have b6 := gI_121_67 hI; rw [h5] at b6
  obtain ⟨x7, h8⟩ : ∃ y, FI 121 69 = y := ⟨_, rfl⟩
  have h8l := congrArg Int32.toInt h8
  have := i_rng x7
  obtain ⟨x9, h10⟩ : ∃ y, FI 121 73 = y := ⟨_, rfl⟩
  have h10l := congrArg Int32.toInt h10
  have b11 := gI_121_73 hI; rw [h10] at b11
  obtain ⟨x12, h13⟩ : ∃ y, FI 121 90 = y := ⟨_, rfl⟩
  have h13l := congrArg Int32.toInt h13
  have b14 := gI_121_90 hI; rw [h13] at b14
  obtain ⟨x15, h16⟩ : ∃ y, FI 121 71 = y := ⟨_, rfl⟩
  have h16l := congrArg Int32.toInt h16
  have := i_rng x15
  have e17 : 0 ≤ (x15).toInt ∧ (x15).toInt ≤ 12 := by omega
  refine hw_aloadn (aX12_operand 0 rfl) rfl ?_
  refine hw_bp (v := (45 : Int32)) (aX12_operand 1 rfl) (by decide) ?_
  refine hw_callV (Bs := [.int ((45 : Int32))]) (rest := []) (aX12_operand 2 rfl) wc_RX12_484 (by decide) rfl wi_yX12_isSign wv_yX12_isSign (c121 hS) (s121 hS) rfl rfl rfl (Nat.le_of_ble_eq_true rfl) (Nat.le_of_ble_eq_true rfl) (n_isSign (d := d + 3) hS hF hI ((45 : Int32)) (by have := congrArg Int32.toInt (show FI 121 68 = x1 from h2); have := congrArg Int32.toInt (show FI 121 67 = x4 from h5); omega) (show rl_e (FI 149) (FI 121 67) from rel_tend)) (fun v18 sv19 p20 => ?_)
  have := congrArg Int32.toInt (show FI 121 68 = x1 from h2)
  have := congrArg Int32.toInt (show FI 121 67 = x4 from h5)
  obtain ⟨r21, rfl, rfl, t23, t24, u25⟩ := p20
  show hw base _ _ _ _ _ [.int (r21)] _ _
  have j480 : (au_un (kf (FI 149) (FI 121 68).toInt.toNat) (wf (FL 150) (FI 121 68).toInt.toNat)) → ((x1).toInt < (x4).toInt - 1) → hw base (d + 4) none 239 40 [(0, .ref (base + 121))] [] (n, sl, SH, FI, FL, FR) (h_I (fun r s => ∃ FI', s = (n, sl, SH, FI', FL, FR) ∧ g_I FI' ∧ g_fr n SH [(121, 68), (121, 69), (121, 70), (121, 71), (121, 73), (121, 90)] [154, 165, 166] [] FI FI' ∧ ((FI' 121 68).toInt ≤ (FI' 121 67).toInt - 1) ∧ ((FI 121 68).toInt ≤ (FI' 121 68).toInt) ∧ ((FI' 121 73).toInt + 4 * (FI' 121 90).toInt ≤ (FI 121 73).toInt + 4 * (FI 121 90).toInt + 20 * ((FI' 121 68).toInt - (FI 121 68).toInt)) ∧ ((FI 121 73).toInt ≤ (FI' 121 73).toInt) ∧ ((FI' 121 69).toInt = 0 → (FI 121 68).toInt < (FI' 121 68).toInt ∧ (FI' 121 71).toInt ≤ 12) ∧ ((FI' 121 90).toInt ≤ (FI 121 90).toInt + 1) ∧ ((FI 121 71).toInt - 600 ≤ (FI' 121 71).toInt ∧ (FI' 121 71).toInt ≤ (FI 121 71).toInt + 1) ∧ (0 ≤ r.toInt ∧ r.toInt ≤ 1) ∧ ((FI' 121 69).toInt = 0 → co_opd (kf (FI 149)) (wf (FL 150)) (FI 121 68).toInt.toNat (sk (FI 166) (FI 121 90).toInt.toNat) (FI' 121 68).toInt.toNat r.toInt (sk (FI' 166) (FI' 121 90).toInt.toNat)) ∧ ((FI' 121 69).toInt = 0 → (FI' 121 71).toInt - (au_op (sk (FI' 166) (FI' 121 90).toInt.toNat) : Int) = (FI 121 71).toInt - (au_op (sk (FI 166) (FI 121 90).toInt.toNat) : Int)) ∧ (rl_pm (FI' 121 90) (FI' 121 73) (FI' 166) (FI' 167) (FI' 168)))) := by
    intro fc40_0 fc40_1
    refine hw_aloadn (aX12_operand 19 rfl) rfl ?_
    refine hw_get (v := .ref (base + 150)) (aX12_operand 20 rfl) wf_RX12_108 (c121 hS) (s121 hS) (by decide) (congrArg (fun r => va_rf (h_rf base r)) (r121_63 hF)) ?_
    refine hw_aloadn (aX12_operand 21 rfl) rfl ?_
    refine hw_get (v := .int (x1)) (aX12_operand 22 rfl) wf_RX12_478 (c121 hS) (s121 hS) (by decide) (congrArg Value.int (show FI 121 68 = x1 from h2)) ?_
    obtain ⟨x481, h482⟩ : ∃ y, FL 150 (x1).toNatClampNeg = y := ⟨_, rfl⟩
    have h482l := congrArg Int64.toInt h482
    have := l_rng x481
    refine hw_lald (v := x481) (aX12_operand 23 rfl) (c150 hS) (s150 hS) (h_in rfl (by omega) (by omega)) (show FL 150 (x1).toNatClampNeg = x481 from h482) ?_
    refine xw_l2i (aX12_operand 24 rfl) ?_
    refine hw_ti (fun x483 => ?_)
    have b484 := i_rng x483
    refine xw_istoren (L2 := [(1, .int (x483)), (0, .ref (base + 121))]) (aX12_operand 25 rfl) (by decide) rfl ?_
    refine hw_aloadn (aX12_operand 26 rfl) rfl ?_
    refine hw_bp (v := (7 : Int32)) (aX12_operand 27 rfl) (by decide) ?_
    refine hw_callV (Bs := [.int ((7 : Int32))]) (rest := []) (aX12_operand 28 rfl) wc_RX12_535 (by decide) rfl wi_yX12_isWord wv_yX12_isWord (c121 hS) (s121 hS) rfl rfl rfl (Nat.le_of_ble_eq_true rfl) (Nat.le_of_ble_eq_true rfl) (n_isWord (d := d + 3) hS hF hI ((7 : Int32)) (by have := congrArg Int32.toInt (show FI 121 68 = x1 from h2); have := congrArg Int32.toInt (show FI 121 67 = x4 from h5); omega) (show rl_e (FI 149) (FI 121 67) from rel_tend)) (fun v485 sv486 p487 => ?_)
    have := congrArg Int32.toInt (show FI 121 68 = x1 from h2)
    have := congrArg Int32.toInt (show FI 121 67 = x4 from h5)
    obtain ⟨r488, rfl, rfl, t490, t491, u492⟩ := p487
    show hw base _ _ _ _ _ [.int (r488)] _ _
    have j539 : ∀ (g501 : Int32), hw base (d + 4) none 239 111 [(0, .ref (base + 121))] [.int (g501)] (n, sl, SH, FI, FL, FR) (h_I (fun r s => ∃ FI', s = (n, sl, SH, FI', FL, FR) ∧ g_I FI' ∧ g_fr n SH [(121, 68), (121, 69), (121, 70), (121, 71), (121, 73), (121, 90)] [154, 165, 166] [] FI FI' ∧ ((FI' 121 68).toInt ≤ (FI' 121 67).toInt - 1) ∧ ((FI 121 68).toInt ≤ (FI' 121 68).toInt) ∧ ((FI' 121 73).toInt + 4 * (FI' 121 90).toInt ≤ (FI 121 73).toInt + 4 * (FI 121 90).toInt + 20 * ((FI' 121 68).toInt - (FI 121 68).toInt)) ∧ ((FI 121 73).toInt ≤ (FI' 121 73).toInt) ∧ ((FI' 121 69).toInt = 0 → (FI 121 68).toInt < (FI' 121 68).toInt ∧ (FI' 121 71).toInt ≤ 12) ∧ ((FI' 121 90).toInt ≤ (FI 121 90).toInt + 1) ∧ ((FI 121 71).toInt - 600 ≤ (FI' 121 71).toInt ∧ (FI' 121 71).toInt ≤ (FI 121 71).toInt + 1) ∧ (0 ≤ r.toInt ∧ r.toInt ≤ 1) ∧ ((FI' 121 69).toInt = 0 → co_opd (kf (FI 149)) (wf (FL 150)) (FI 121 68).toInt.toNat (sk (FI 166) (FI 121 90).toInt.toNat) (FI' 121 68).toInt.toNat r.toInt (sk (FI' 166) (FI' 121 90).toInt.toNat)) ∧ ((FI' 121 69).toInt = 0 → (FI' 121 71).toInt - (au_op (sk (FI' 166) (FI' 121 90).toInt.toNat) : Int) = (FI 121 71).toInt - (au_op (sk (FI 166) (FI 121 90).toInt.toNat) : Int)) ∧ (rl_pm (FI' 121 90) (FI' 121 73) (FI' 166) (FI' 167) (FI' 168)))) := by
      intro g501
      have rg_g501 := i_rng g501
      refine xw_istoren (L2 := [(2, .int (g501)), (0, .ref (base + 121))]) (aX12_operand 54 rfl) (by decide) rfl ?_
      refine hw_aloadn (aX12_operand 55 rfl) rfl ?_
      refine hw_callV (Bs := []) (rest := []) (aX12_operand 56 rfl) wc_RX12_538 (by decide) rfl wi_yX12_opens wv_yX12_opens (c121 hS) (s121 hS) rfl rfl rfl (Nat.le_of_ble_eq_true rfl) (Nat.le_of_ble_eq_true rfl) (n_opens (d := d + 2) hS hF hI (by have := congrArg Int32.toInt (show FI 121 68 = x1 from h2); have := congrArg Int32.toInt (show FI 121 67 = x4 from h5); omega) (by have := congrArg Int32.toInt (show FI 121 71 = x15 from h16); have := congrArg Int32.toInt (show FI 121 71 = x15 from h16); omega)) (fun v540 sv541 p542 => ?_)
      have := congrArg Int32.toInt (show FI 121 68 = x1 from h2)
      have := congrArg Int32.toInt (show FI 121 71 = x15 from h16)
      have := congrArg Int32.toInt (show FI 121 71 = x15 from h16)
      have := congrArg Int32.toInt (show FI 121 69 = x7 from h8)
      obtain ⟨rfl, FI544, rfl, hI545, f546, t547, t548, t549⟩ := p542
      have rl550 : rl_pm (FI544 121 90) (FI544 121 73) (FI544 166) (FI544 167) (FI544 168) := by rw [show FI544 166 = FI 166 from gf_row f546 (c166 hS) (s166 hS) rfl rfl, show FI544 167 = FI 167 from gf_row f546 (c167 hS) (s167 hS) rfl rfl, show FI544 168 = FI 168 from gf_row f546 (c168 hS) (s168 hS) rfl rfl, show FI544 121 90 = FI 121 90 from gf_at f546 (c121 hS) (s121 hS) rfl rfl, show FI544 121 73 = FI 121 73 from gf_at f546 (c121 hS) (s121 hS) rfl rfl]; exact rel_pm
      have rl551 : rl_e (FI544 149) (FI544 121 67) := by rw [show FI544 149 = FI 149 from gf_row f546 (c149 hS) (s149 hS) rfl rfl, show FI544 121 67 = FI 121 67 from gf_at f546 (c121 hS) (s121 hS) rfl rfl]; exact rel_tend
      have rl552 : rl_t (FI544 149) (FL 150) := by rw [show FI544 149 = FI 149 from gf_row f546 (c149 hS) (s149 hS) rfl rfl]; exact rel_tok
      obtain ⟨x553, h554⟩ : ∃ y, FI544 121 68 = y := ⟨_, rfl⟩
      have h554l := congrArg Int32.toInt h554
      have b555 := gI_121_68 hI545; rw [h554] at b555
      obtain ⟨x556, h557⟩ : ∃ y, FI544 121 71 = y := ⟨_, rfl⟩
      have h557l := congrArg Int32.toInt h557
      have := i_rng x556
      obtain ⟨x558, h559⟩ : ∃ y, FI544 121 69 = y := ⟨_, rfl⟩
      have h559l := congrArg Int32.toInt h559
      have := i_rng x558
      show hw base _ _ _ _ _ [] _ _
      refine hw_aloadn (aX12_operand 57 rfl) rfl ?_
      refine xw_iloadn (aX12_operand 58 rfl) rfl ?_
      refine hw_bp (v := (9 : Int32)) (aX12_operand 59 rfl) (by decide) ?_
      refine hw_callV (Bs := [.int (g501), .int ((9 : Int32))]) (rest := []) (aX12_operand 60 rfl) wc_RX12_580 (by decide) rfl wi_yX12_later wv_yX12_later (c121 hS) (s121 hS) rfl rfl rfl (Nat.le_of_ble_eq_true rfl) (Nat.le_of_ble_eq_true rfl) (n_later (d := d + 3) hS hF hI545 (g501) ((9 : Int32)) (by have := congrArg Int32.toInt (show FI544 121 90 = x12 from (gf_at f546 (c121 hS) (s121 hS) rfl (h13))); omega) (by have := ((by decide : (9 : Int32).toInt = 9) : ((9 : Int32)).toInt = 9); have := ((by decide : (9 : Int32).toInt = 9) : ((9 : Int32)).toInt = 9); omega) (show rl_pm (FI544 121 90) (FI544 121 73) (FI544 166) (FI544 167) (FI544 168) from rl550)) (fun v560 sv561 p562 => ?_)
      have := congrArg Int32.toInt (show FI544 121 90 = x12 from (gf_at f546 (c121 hS) (s121 hS) rfl (h13)))
      obtain ⟨rfl, FI564, rfl, hI565, f566, t567, u568, u569, rl570⟩ := p562
      have rl571 : rl_e (FI564 149) (FI564 121 67) := by rw [show FI564 149 = FI544 149 from gf_row f566 (c149 hS) (s149 hS) rfl rfl, show FI564 121 67 = FI544 121 67 from gf_at f566 (c121 hS) (s121 hS) rfl rfl]; exact rl551
      have rl572 : rl_t (FI564 149) (FL 150) := by rw [show FI564 149 = FI544 149 from gf_row f566 (c149 hS) (s149 hS) rfl rfl]; exact rl552
      obtain ⟨x573, h574⟩ : ∃ y, FI564 121 90 = y := ⟨_, rfl⟩
      have h574l := congrArg Int32.toInt h574
      have b575 := gI_121_90 hI565; rw [h574] at b575
      show hw base _ _ _ _ _ [] _ _
      refine hw_ic (v := (0 : Int32)) (aX12_operand 61 rfl) (by decide) ?_
      refine xw_iret (aX12_operand 62 rfl) rfl (by decide) ?_
      have e576 : ((0 : Int32)).toInt = 0 := (by decide : (0 : Int32).toInt = 0)
      exact ⟨(0 : Int32), rfl, FI564, rfl, hI565, (gf_tr ex_rf (gf_tr ex_rf gf_rf f546 rfl rfl rfl) f566 rfl rfl rfl), (by have : ((0 : Int32)).toInt = 0 := (by decide); have := congrArg Int32.toInt (show FI564 121 67 = x4 from (gf_at f566 (c121 hS) (s121 hS) rfl ((gf_at f546 (c121 hS) (s121 hS) rfl (h5))))); have := congrArg Int32.toInt (show FI564 121 68 = x553 from (gf_at f566 (c121 hS) (s121 hS) rfl (h554))); omega), (by have : ((0 : Int32)).toInt = 0 := (by decide); have := congrArg Int32.toInt (show FI564 121 68 = x553 from (gf_at f566 (c121 hS) (s121 hS) rfl (h554))); omega), (by have : ((0 : Int32)).toInt = 0 := (by decide); have := congrArg Int32.toInt (show FI564 121 68 = x553 from (gf_at f566 (c121 hS) (s121 hS) rfl (h554))); have := congrArg Int32.toInt (show FI564 121 73 = x9 from (gf_at f566 (c121 hS) (s121 hS) rfl ((gf_at f546 (c121 hS) (s121 hS) rfl (h10))))); have := congrArg Int32.toInt (show FI564 121 90 = x573 from h574); omega), (by have : ((0 : Int32)).toInt = 0 := (by decide); have := congrArg Int32.toInt (show FI564 121 73 = x9 from (gf_at f566 (c121 hS) (s121 hS) rfl ((gf_at f546 (c121 hS) (s121 hS) rfl (h10))))); omega), (by have : ((0 : Int32)).toInt = 0 := (by decide); have := congrArg Int32.toInt (show FI564 121 68 = x553 from (gf_at f566 (c121 hS) (s121 hS) rfl (h554))); have := congrArg Int32.toInt (show FI564 121 69 = x558 from (gf_at f566 (c121 hS) (s121 hS) rfl (h559))); have := congrArg Int32.toInt (show FI564 121 71 = x556 from (gf_at f566 (c121 hS) (s121 hS) rfl (h557))); omega), (by have : ((0 : Int32)).toInt = 0 := (by decide); have := congrArg Int32.toInt (show FI564 121 90 = x573 from h574); omega), (by have : ((0 : Int32)).toInt = 0 := (by decide); have := congrArg Int32.toInt (show FI564 121 71 = x556 from (gf_at f566 (c121 hS) (s121 hS) rfl (h557))); omega), (by have : ((0 : Int32)).toInt = 0 := (by decide); omega), (by have := congrArg Int32.toInt (show FI564 121 68 = x553 from (gf_at f566 (c121 hS) (s121 hS) rfl (h554))); have := congrArg Int32.toInt (show FI564 121 69 = x558 from (gf_at f566 (c121 hS) (s121 hS) rfl (h559))); have hm : (sk (FI564 166) (FI564 121 90).toInt.toNat) = 9 :: (sk (FI 166) (FI 121 90).toInt.toNat) := (by rw [u569, show FI544 166 = FI 166 from (gf_row f546 (c166 hS) (s166 hS) rfl (rfl)), show FI544 121 90 = FI 121 90 from ((gf_at f546 (c121 hS) (s121 hS) rfl (h13))).trans (h13).symm, show ((9 : Int32)).toInt = (9 : Int) from by decide]); exact fun _ => Or.inl ⟨by decide, Or.inl ⟨rfl, fc40_0, by omega, rfl, hm⟩⟩), (by have := congrArg Int32.toInt (show FI564 121 69 = x558 from (gf_at f566 (c121 hS) (s121 hS) rfl (h559))); have := congrArg Int32.toInt (show FI564 121 71 = x556 from (gf_at f566 (c121 hS) (s121 hS) rfl (h557))); have hm : (sk (FI564 166) (FI564 121 90).toInt.toNat) = 9 :: (sk (FI 166) (FI 121 90).toInt.toNat) := (by rw [u569, show FI544 166 = FI 166 from (gf_row f546 (c166 hS) (s166 hS) rfl (rfl)), show FI544 121 90 = FI 121 90 from ((gf_at f546 (c121 hS) (s121 hS) rfl (h13))).trans (h13).symm, show ((9 : Int32)).toInt = (9 : Int) from by decide]); rw [hm]; intro _; simp only [au_op]; rw [if_neg (by decide)]; omega), (show rl_pm (FI564 121 90) (FI564 121 73) (FI564 166) (FI564 167) (FI564 168) from rl570)⟩
    refine hw_ifeq (tgt := 66) (aX12_operand 29 rfl) (by decide) rfl (fun cd577 => ?_) (fun cd577 => ?_)
    · clear t490
      refine hw_aloadn (aX12_operand 32 rfl) rfl ?_
      refine hw_get (v := .ref (base + 149)) (aX12_operand 33 rfl) wf_RX12_105 (c121 hS) (s121 hS) (by decide) (congrArg (fun r => va_rf (h_rf base r)) (r121_62 hF)) ?_
      refine hw_aloadn (aX12_operand 34 rfl) rfl ?_
      refine hw_get (v := .int (x1)) (aX12_operand 35 rfl) wf_RX12_478 (c121 hS) (s121 hS) (by decide) (congrArg Value.int (show FI 121 68 = x1 from h2)) ?_
      obtain ⟨x578, h579⟩ : ∃ y, FI 149 (x1).toNatClampNeg = y := ⟨_, rfl⟩
      have h579l := congrArg Int32.toInt h579
      have := i_rng x578
      refine hw_iald (v := x578) (aX12_operand 36 rfl) (c149 hS) (s149 hS) (h_in rfl (by omega) (by omega)) (show FI 149 (x1).toNatClampNeg = x578 from h579) ?_
      refine hw_ic (v := (4 : Int32)) (aX12_operand 37 rfl) (by decide) ?_
      refine hw_icne (tgt := 98) (aX12_operand 38 rfl) (by decide) rfl (by decide : (4 : Int32).toInt = 4) (fun cd580 => ?_) (fun cd580 => ?_)
      · refine xw_iloadn (aX12_operand 48 rfl) rfl ?_
        refine hw_bp (v := (45 : Int32)) (aX12_operand 49 rfl) (by decide) ?_
        refine hw_icne (tgt := 109) (aX12_operand 50 rfl) (by decide) rfl (by decide : (45 : Int32).toInt = 45) (fun cd581 => ?_) (fun cd581 => ?_)
        · refine hw_bp (v := (32 : Int32)) (aX12_operand 53 rfl) (by decide) ?_
          exact hw_L (j539 ((32 : Int32))) ⟨rfl, trivial⟩
        · refine hw_bp (v := (31 : Int32)) (aX12_operand 51 rfl) (by decide) ?_
          refine xw_goto (tgt := 111) (aX12_operand 52 rfl) (by decide) ?_
          exact hw_L (j539 ((31 : Int32))) ⟨rfl, trivial⟩
      · refine xw_iloadn (aX12_operand 39 rfl) rfl ?_
        refine hw_bp (v := (8 : Int32)) (aX12_operand 40 rfl) (by decide) ?_
        refine hw_icne (tgt := 90) (aX12_operand 41 rfl) (by decide) rfl (by decide : (8 : Int32).toInt = 8) (fun cd582 => ?_) (fun cd582 => ?_)
        · refine hw_sp (v := (256 : Int32)) (aX12_operand 44 rfl) (by decide) ?_
          refine xw_iloadn (aX12_operand 45 rfl) rfl ?_
          refine xw_iadd (aX12_operand 46 rfl) ?_
          refine hw_ti (fun x583 => ?_)
          have b584 := i_rng x583
          refine xw_goto (tgt := 111) (aX12_operand 47 rfl) (by decide) ?_
          exact hw_L (j539 (x583)) ⟨rfl, trivial⟩
        · refine hw_bp (v := (6 : Int32)) (aX12_operand 42 rfl) (by decide) ?_
          refine xw_goto (tgt := 111) (aX12_operand 43 rfl) (by decide) ?_
          exact hw_L (j539 ((6 : Int32))) ⟨rfl, trivial⟩
    · replace t490 := t490 (by omega)
      refine hw_sp (v := (155 : Int32)) (aX12_operand 30 rfl) (by decide) ?_
      refine xw_goto (tgt := 111) (aX12_operand 31 rfl) (by decide) ?_
      exact hw_L (j539 ((155 : Int32))) ⟨rfl, trivial⟩
  refine hw_ifne (tgt := 40) (aX12_operand 3 rfl) (by decide) rfl (fun cd585 => ?_) (fun cd585 => ?_)
  · replace t23 := t23 (by omega)
    exact hw_L (j480 (show au_un (kf (FI 149) (FI 121 68).toInt.toNat) (wf (FL 150) (FI 121 68).toInt.toNat) from (by { have h := u25.mp (by omega); have hc : ((45 : Int32)).toInt = 45 := (by decide); rw [hc] at h; exact Or.inr (Or.inl ⟨h.1, Or.inl h.2⟩) })) (by show (x1).toInt < (x4).toInt - 1; omega)) ⟨rfl, trivial⟩
  · clear t23
    refine hw_aloadn (aX12_operand 4 rfl) rfl ?_
    refine hw_bp (v := (126 : Int32)) (aX12_operand 5 rfl) (by decide) ?_
    refine hw_callV (Bs := [.int ((126 : Int32))]) (rest := []) (aX12_operand 6 rfl) wc_RX12_484 (by decide) rfl wi_yX12_isSign wv_yX12_isSign (c121 hS) (s121 hS) rfl rfl rfl (Nat.le_of_ble_eq_true rfl) (Nat.le_of_ble_eq_true rfl) (n_isSign (d := d + 3) hS hF hI ((126 : Int32)) (by have := congrArg Int32.toInt (show FI 121 68 = x1 from h2); have := congrArg Int32.toInt (show FI 121 67 = x4 from h5); omega) (show rl_e (FI 149) (FI 121 67) from rel_tend)) (fun v586 sv587 p588 => ?_)
    have := congrArg Int32.toInt (show FI 121 68 = x1 from h2)
    have := congrArg Int32.toInt (show FI 121 67 = x4 from h5)
    obtain ⟨r589, rfl, rfl, t591, t592, u593⟩ := p588
    show hw base _ _ _ _ _ [.int (r589)] _ _
    refine hw_ifne (tgt := 40) (aX12_operand 7 rfl) (by decide) rfl (fun cd594 => ?_) (fun cd594 => ?_)
    · replace t591 := t591 (by omega)
      exact hw_L (j480 (show au_un (kf (FI 149) (FI 121 68).toInt.toNat) (wf (FL 150) (FI 121 68).toInt.toNat) from (by { have h := u593.mp (by omega); have hc : ((126 : Int32)).toInt = 126 := (by decide); rw [hc] at h; exact Or.inr (Or.inl ⟨h.1, Or.inr h.2⟩) })) (by show (x1).toInt < (x4).toInt - 1; omega)) ⟨rfl, trivial⟩
    · clear t591
      refine hw_aloadn (aX12_operand 8 rfl) rfl ?_
      refine hw_get (v := .ref (base + 149)) (aX12_operand 9 rfl) wf_RX12_105 (c121 hS) (s121 hS) (by decide) (congrArg (fun r => va_rf (h_rf base r)) (r121_62 hF)) ?_
      refine hw_aloadn (aX12_operand 10 rfl) rfl ?_
      refine hw_get (v := .int (x1)) (aX12_operand 11 rfl) wf_RX12_478 (c121 hS) (s121 hS) (by decide) (congrArg Value.int (show FI 121 68 = x1 from h2)) ?_
      obtain ⟨x595, h596⟩ : ∃ y, FI 149 (x1).toNatClampNeg = y := ⟨_, rfl⟩
      have h596l := congrArg Int32.toInt h596
      have := i_rng x595
      refine hw_iald (v := x595) (aX12_operand 12 rfl) (c149 hS) (s149 hS) (h_in rfl (by omega) (by omega)) (show FI 149 (x1).toNatClampNeg = x595 from h596) ?_
      have hn27 := fun h => rl_e_ne rel_tend (t := x1) h
      refine hw_ic (v := (4 : Int32)) (aX12_operand 13 rfl) (by decide) ?_
      refine hw_iceq (tgt := 40) (aX12_operand 14 rfl) (by decide) rfl (by decide : (4 : Int32).toInt = 4) (fun cd597 => ?_) (fun cd597 => ?_)
      · exact hw_L (j480 (show au_un (kf (FI 149) (FI 121 68).toInt.toNat) (wf (FL 150) (FI 121 68).toInt.toNat) from (Or.inl (by { have e : (FI 121 68).toInt.toNat = (x1).toNatClampNeg := by { rw [i_cl (x := x1) rfl]; try omega }; show (FI 149 ((FI 121 68).toInt.toNat)).toInt = 4; rw [e, show FI 149 (x1).toNatClampNeg = x595 from h596]; try omega }))) (by show (x1).toInt < (x4).toInt - 1; omega)) ⟨rfl, trivial⟩
      · refine hw_aloadn (aX12_operand 15 rfl) rfl ?_
        refine hw_bp (v := (7 : Int32)) (aX12_operand 16 rfl) (by decide) ?_
        refine hw_callV (Bs := [.int ((7 : Int32))]) (rest := []) (aX12_operand 17 rfl) wc_RX12_535 (by decide) rfl wi_yX12_isWord wv_yX12_isWord (c121 hS) (s121 hS) rfl rfl rfl (Nat.le_of_ble_eq_true rfl) (Nat.le_of_ble_eq_true rfl) (n_isWord (d := d + 3) hS hF hI ((7 : Int32)) (by have := congrArg Int32.toInt (show FI 121 68 = x1 from h2); have := congrArg Int32.toInt (show FI 121 67 = x4 from h5); omega) (show rl_e (FI 149) (FI 121 67) from rel_tend)) (fun v598 sv599 p600 => ?_)
        have := congrArg Int32.toInt (show FI 121 68 = x1 from h2)
        have := congrArg Int32.toInt (show FI 121 67 = x4 from h5)
        obtain ⟨r601, rfl, rfl, t603, t604, u605⟩ := p600
        show hw base _ _ _ _ _ [.int (r601)] _ _
        refine hw_ifeq (tgt := 125) (aX12_operand 18 rfl) (by decide) rfl (fun cd606 => ?_) (fun cd606 => ?_)
        · clear t603
          refine hw_aloadn (aX12_operand 63 rfl) rfl ?_
          refine hw_bp (v := (40 : Int32)) (aX12_operand 64 rfl) (by decide) ?_
          refine hw_callV (Bs := [.int ((40 : Int32))]) (rest := []) (aX12_operand 65 rfl) wc_RX12_484 (by decide) rfl wi_yX12_isSign wv_yX12_isSign (c121 hS) (s121 hS) rfl rfl rfl (Nat.le_of_ble_eq_true rfl) (Nat.le_of_ble_eq_true rfl) (n_isSign (d := d + 3) hS hF hI ((40 : Int32)) (by have := congrArg Int32.toInt (show FI 121 68 = x1 from h2); have := congrArg Int32.toInt (show FI 121 67 = x4 from h5); omega) (show rl_e (FI 149) (FI 121 67) from rel_tend)) (fun v607 sv608 p609 => ?_)
          have := congrArg Int32.toInt (show FI 121 68 = x1 from h2)
          have := congrArg Int32.toInt (show FI 121 67 = x4 from h5)
          obtain ⟨r610, rfl, rfl, t612, t613, u614⟩ := p609
          show hw base _ _ _ _ _ [.int (r610)] _ _
          refine hw_ifeq (tgt := 146) (aX12_operand 66 rfl) (by decide) rfl (fun cd615 => ?_) (fun cd615 => ?_)
          · clear t612
            refine hw_aloadn (aX12_operand 75 rfl) rfl ?_
            refine hw_get (v := .ref (base + 149)) (aX12_operand 76 rfl) wf_RX12_105 (c121 hS) (s121 hS) (by decide) (congrArg (fun r => va_rf (h_rf base r)) (r121_62 hF)) ?_
            refine hw_aloadn (aX12_operand 77 rfl) rfl ?_
            refine hw_get (v := .int (x1)) (aX12_operand 78 rfl) wf_RX12_478 (c121 hS) (s121 hS) (by decide) (congrArg Value.int (show FI 121 68 = x1 from h2)) ?_
            refine hw_iald (v := x595) (aX12_operand 79 rfl) (c149 hS) (s149 hS) (h_in rfl (by omega) (by omega)) (show FI 149 (x1).toNatClampNeg = x595 from h596) ?_
            refine hw_ic (v := (3 : Int32)) (aX12_operand 80 rfl) (by decide) ?_
            refine hw_icne (tgt := 185) (aX12_operand 81 rfl) (by decide) rfl (by decide : (3 : Int32).toInt = 3) (fun cd616 => ?_) (fun cd616 => ?_)
            · refine hw_aloadn (aX12_operand 96 rfl) rfl ?_
              refine hw_bp (v := (37 : Int32)) (aX12_operand 97 rfl) (by decide) ?_
              refine hw_callV (Bs := [.int ((37 : Int32))]) (rest := []) (aX12_operand 98 rfl) wc_RX12_484 (by decide) rfl wi_yX12_isSign wv_yX12_isSign (c121 hS) (s121 hS) rfl rfl rfl (Nat.le_of_ble_eq_true rfl) (Nat.le_of_ble_eq_true rfl) (n_isSign (d := d + 3) hS hF hI ((37 : Int32)) (by have := congrArg Int32.toInt (show FI 121 68 = x1 from h2); have := congrArg Int32.toInt (show FI 121 67 = x4 from h5); omega) (show rl_e (FI 149) (FI 121 67) from rel_tend)) (fun v617 sv618 p619 => ?_)
              have := congrArg Int32.toInt (show FI 121 68 = x1 from h2)
              have := congrArg Int32.toInt (show FI 121 67 = x4 from h5)
              obtain ⟨r620, rfl, rfl, t622, t623, u624⟩ := p619
              show hw base _ _ _ _ _ [.int (r620)] _ _
              refine hw_ifeq (tgt := 201) (aX12_operand 99 rfl) (by decide) rfl (fun cd625 => ?_) (fun cd625 => ?_)
              · clear t622
                refine hw_aloadn (aX12_operand 103 rfl) rfl ?_
                refine hw_ic (v := (4 : Int32)) (aX12_operand 104 rfl) (by decide) ?_
                refine hw_callV (Bs := [.int ((4 : Int32))]) (rest := []) (aX12_operand 105 rfl) wc_RX12_535 (by decide) rfl wi_yX12_isWord wv_yX12_isWord (c121 hS) (s121 hS) rfl rfl rfl (Nat.le_of_ble_eq_true rfl) (Nat.le_of_ble_eq_true rfl) (n_isWord (d := d + 3) hS hF hI ((4 : Int32)) (by have := congrArg Int32.toInt (show FI 121 68 = x1 from h2); have := congrArg Int32.toInt (show FI 121 67 = x4 from h5); omega) (show rl_e (FI 149) (FI 121 67) from rel_tend)) (fun v626 sv627 p628 => ?_)
                have := congrArg Int32.toInt (show FI 121 68 = x1 from h2)
                have := congrArg Int32.toInt (show FI 121 67 = x4 from h5)
                obtain ⟨r629, rfl, rfl, t631, t632, u633⟩ := p628
                show hw base _ _ _ _ _ [.int (r629)] _ _
                refine hw_ifeq (tgt := 245) (aX12_operand 106 rfl) (by decide) rfl (fun cd634 => ?_) (fun cd634 => ?_)
                · clear t631
                  refine hw_aloadn (aX12_operand 127 rfl) rfl ?_
                  refine hw_ic (v := (5 : Int32)) (aX12_operand 128 rfl) (by decide) ?_
                  refine hw_callV (Bs := [.int ((5 : Int32))]) (rest := []) (aX12_operand 129 rfl) wc_RX12_535 (by decide) rfl wi_yX12_isWord wv_yX12_isWord (c121 hS) (s121 hS) rfl rfl rfl (Nat.le_of_ble_eq_true rfl) (Nat.le_of_ble_eq_true rfl) (n_isWord (d := d + 3) hS hF hI ((5 : Int32)) (by have := congrArg Int32.toInt (show FI 121 68 = x1 from h2); have := congrArg Int32.toInt (show FI 121 67 = x4 from h5); omega) (show rl_e (FI 149) (FI 121 67) from rel_tend)) (fun v635 sv636 p637 => ?_)
                  have := congrArg Int32.toInt (show FI 121 68 = x1 from h2)
                  have := congrArg Int32.toInt (show FI 121 67 = x4 from h5)
                  obtain ⟨r638, rfl, rfl, t640, t641, u642⟩ := p637
                  show hw base _ _ _ _ _ [.int (r638)] _ _
                  have j768 : (kf (FI 149) (FI 121 68).toInt.toNat = 2 ∧ (wf (FL 150) (FI 121 68).toInt.toNat = 4 ∨ wf (FL 150) (FI 121 68).toInt.toNat = 5 ∨ wf (FL 150) (FI 121 68).toInt.toNat = 6)) → ((x1).toInt < (x4).toInt - 1) → hw base (d + 4) none 239 262 [(0, .ref (base + 121))] [] (n, sl, SH, FI, FL, FR) (h_I (fun r s => ∃ FI', s = (n, sl, SH, FI', FL, FR) ∧ g_I FI' ∧ g_fr n SH [(121, 68), (121, 69), (121, 70), (121, 71), (121, 73), (121, 90)] [154, 165, 166] [] FI FI' ∧ ((FI' 121 68).toInt ≤ (FI' 121 67).toInt - 1) ∧ ((FI 121 68).toInt ≤ (FI' 121 68).toInt) ∧ ((FI' 121 73).toInt + 4 * (FI' 121 90).toInt ≤ (FI 121 73).toInt + 4 * (FI 121 90).toInt + 20 * ((FI' 121 68).toInt - (FI 121 68).toInt)) ∧ ((FI 121 73).toInt ≤ (FI' 121 73).toInt) ∧ ((FI' 121 69).toInt = 0 → (FI 121 68).toInt < (FI' 121 68).toInt ∧ (FI' 121 71).toInt ≤ 12) ∧ ((FI' 121 90).toInt ≤ (FI 121 90).toInt + 1) ∧ ((FI 121 71).toInt - 600 ≤ (FI' 121 71).toInt ∧ (FI' 121 71).toInt ≤ (FI 121 71).toInt + 1) ∧ (0 ≤ r.toInt ∧ r.toInt ≤ 1) ∧ ((FI' 121 69).toInt = 0 → co_opd (kf (FI 149)) (wf (FL 150)) (FI 121 68).toInt.toNat (sk (FI 166) (FI 121 90).toInt.toNat) (FI' 121 68).toInt.toNat r.toInt (sk (FI' 166) (FI' 121 90).toInt.toNat)) ∧ ((FI' 121 69).toInt = 0 → (FI' 121 71).toInt - (au_op (sk (FI' 166) (FI' 121 90).toInt.toNat) : Int) = (FI 121 71).toInt - (au_op (sk (FI 166) (FI 121 90).toInt.toNat) : Int)) ∧ (rl_pm (FI' 121 90) (FI' 121 73) (FI' 166) (FI' 167) (FI' 168)))) := by
                    intro fc262_0 fc262_1
                    have hcf := fc262_0
                    refine hw_aloadn (aX12_operand 135 rfl) rfl ?_
                    refine hw_aloadn (aX12_operand 136 rfl) rfl ?_
                    refine hw_ic (v := (5 : Int32)) (aX12_operand 137 rfl) (by decide) ?_
                    refine hw_callV (Bs := [.int ((5 : Int32))]) (rest := [.ref (base + 121)]) (aX12_operand 138 rfl) wc_RX12_535 (by decide) rfl wi_yX12_isWord wv_yX12_isWord (c121 hS) (s121 hS) rfl rfl rfl (Nat.le_of_ble_eq_true rfl) (Nat.le_of_ble_eq_true rfl) (n_isWord (d := d + 3) hS hF hI ((5 : Int32)) (by have := congrArg Int32.toInt (show FI 121 68 = x1 from h2); have := congrArg Int32.toInt (show FI 121 67 = x4 from h5); omega) (show rl_e (FI 149) (FI 121 67) from rel_tend)) (fun v769 sv770 p771 => ?_)
                    have := congrArg Int32.toInt (show FI 121 68 = x1 from h2)
                    have := congrArg Int32.toInt (show FI 121 67 = x4 from h5)
                    obtain ⟨r772, rfl, rfl, t774, t775, u776⟩ := p771
                    show hw base _ _ _ _ _ [.int (r772), .ref (base + 121)] _ _
                    refine hw_ifeq (tgt := 277) (aX12_operand 139 rfl) (by decide) rfl (fun cd777 => ?_) (fun cd777 => ?_)
                    · clear t774
                      refine hw_sp (v := (151 : Int32)) (aX12_operand 142 rfl) (by decide) ?_
                      refine hw_callV (Bs := [.int ((151 : Int32))]) (rest := []) (aX12_operand 143 rfl) wc_RX12_496 (by decide) rfl wi_yX12_emit wv_yX12_emit (c121 hS) (s121 hS) rfl rfl rfl (Nat.le_of_ble_eq_true rfl) (Nat.le_of_ble_eq_true rfl) (n_emit (d := d + 3) hS hF hI ((151 : Int32)) (by have := congrArg Int32.toInt (show FI 121 73 = x9 from h10); omega) (show rl_pm (FI 121 90) (FI 121 73) (FI 166) (FI 167) (FI 168) from rel_pm)) (fun v778 sv779 p780 => ?_)
                      have := congrArg Int32.toInt (show FI 121 73 = x9 from h10)
                      obtain ⟨rfl, FI782, rfl, hI783, f784, t785, rl786⟩ := p780
                      have rl787 : rl_e (FI782 149) (FI782 121 67) := by rw [show FI782 149 = FI 149 from gf_row f784 (c149 hS) (s149 hS) rfl rfl, show FI782 121 67 = FI 121 67 from gf_at f784 (c121 hS) (s121 hS) rfl rfl]; exact rel_tend
                      have rl788 : rl_t (FI782 149) (FL 150) := by rw [show FI782 149 = FI 149 from gf_row f784 (c149 hS) (s149 hS) rfl rfl]; exact rel_tok
                      obtain ⟨x789, h790⟩ : ∃ y, FI782 121 73 = y := ⟨_, rfl⟩
                      have h790l := congrArg Int32.toInt h790
                      have b791 := gI_121_73 hI783; rw [h790] at b791
                      show hw base _ _ _ _ _ [] _ _
                      refine hw_aloadn (aX12_operand 144 rfl) rfl ?_
                      refine hw_aloadn (aX12_operand 145 rfl) rfl ?_
                      refine hw_get (v := .int (x1)) (aX12_operand 146 rfl) wf_RX12_478 (c121 hS) (s121 hS) (by decide) (congrArg Value.int (show FI782 121 68 = x1 from (gf_at f784 (c121 hS) (s121 hS) rfl (h2)))) ?_
                      refine hw_ic (v := (1 : Int32)) (aX12_operand 147 rfl) (by decide) ?_
                      refine xw_iadd (aX12_operand 148 rfl) ?_
                      refine hw_tie (A := ((x1).toInt) + (1)) (i_add rfl (by decide : (1 : Int32).toInt = 1) (by omega) (by omega)) (fun x792 e793 => ?_)
                      refine hv_puti (aX12_operand 149 rfl) wf_RX12_478 (c121 hS) (s121 hS) (by decide) rfl rfl (fun FI794 u795 => ?_)
                      have rl796 : rl_pm (FI794 121 90) (FI794 121 73) (FI794 166) (FI794 167) (FI794 168) := by rw [show FI794 166 = FI782 166 from up_row u795 (by decide) rfl, show FI794 167 = FI782 167 from up_row u795 (by decide) rfl, show FI794 168 = FI782 168 from up_row u795 (by decide) rfl, show FI794 121 90 = FI782 121 90 from up_k u795 (by decide) rfl, show FI794 121 73 = FI782 121 73 from up_k u795 (by decide) rfl]; exact rl786
                      have rl797 : rl_e (FI794 149) (FI794 121 67) := by rw [show FI794 149 = FI782 149 from up_row u795 (by decide) rfl, show FI794 121 67 = FI782 121 67 from up_k u795 (by decide) rfl]; exact rl787
                      have rl798 : rl_t (FI794 149) (FL 150) := by rw [show FI794 149 = FI782 149 from up_row u795 (by decide) rfl]; exact rl788
                      have hI799 : g_I FI794 := gU_121_68 hI783 u795 (by have := (e793 : (x792).toInt = ((x1).toInt) + (1)); omega) (by have := (e793 : (x792).toInt = ((x1).toInt) + (1)); omega)
                      refine xw_goto (tgt := 303) (aX12_operand 150 rfl) (by decide) ?_
                      refine hw_aloadn (aX12_operand 156 rfl) rfl ?_
                      refine hw_callV (Bs := []) (rest := []) (aX12_operand 157 rfl) wc_RX12_596 (by decide) rfl wi_yX12_finished wv_yX12_finished (c121 hS) (s121 hS) rfl rfl rfl (Nat.le_of_ble_eq_true rfl) (Nat.le_of_ble_eq_true rfl) (n_finished (d := d + 1) hS hF hI799 (by have := congrArg Int32.toInt (show FI794 121 73 = x789 from (up_k u795 (by decide) (h790))); have := congrArg Int32.toInt (show FI794 121 90 = x12 from (up_k u795 (by decide) ((gf_at f784 (c121 hS) (s121 hS) rfl (h13))))); omega) (by have := congrArg Int32.toInt (show FI794 121 71 = x15 from (up_k u795 (by decide) ((gf_at f784 (c121 hS) (s121 hS) rfl (h16))))); have := congrArg Int32.toInt (show FI794 121 71 = x15 from (up_k u795 (by decide) ((gf_at f784 (c121 hS) (s121 hS) rfl (h16))))); omega) (show rl_pm (FI794 121 90) (FI794 121 73) (FI794 166) (FI794 167) (FI794 168) from rl796)) (fun v800 sv801 p802 => ?_)
                      have := congrArg Int32.toInt (show FI794 121 90 = x12 from (up_k u795 (by decide) ((gf_at f784 (c121 hS) (s121 hS) rfl (h13)))))
                      have := congrArg Int32.toInt (show FI794 121 73 = x789 from (up_k u795 (by decide) (h790)))
                      have := congrArg Int32.toInt (show FI794 121 90 = x12 from (up_k u795 (by decide) ((gf_at f784 (c121 hS) (s121 hS) rfl (h13)))))
                      have := congrArg Int32.toInt (show FI794 121 73 = x789 from (up_k u795 (by decide) (h790)))
                      have := congrArg Int32.toInt (show FI794 121 71 = x15 from (up_k u795 (by decide) ((gf_at f784 (c121 hS) (s121 hS) rfl (h16)))))
                      have := congrArg Int32.toInt (show FI794 121 90 = x12 from (up_k u795 (by decide) ((gf_at f784 (c121 hS) (s121 hS) rfl (h13)))))
                      obtain ⟨rfl, FI804, rfl, hI805, f806, t807, t808, t809, t810, u811, rl812⟩ := p802
                      have rl813 : rl_e (FI804 149) (FI804 121 67) := by rw [show FI804 149 = FI794 149 from gf_row f806 (c149 hS) (s149 hS) rfl rfl, show FI804 121 67 = FI794 121 67 from gf_at f806 (c121 hS) (s121 hS) rfl rfl]; exact rl797
                      have rl814 : rl_t (FI804 149) (FL 150) := by rw [show FI804 149 = FI794 149 from gf_row f806 (c149 hS) (s149 hS) rfl rfl]; exact rl798
                      obtain ⟨x815, h816⟩ : ∃ y, FI804 121 90 = y := ⟨_, rfl⟩
                      have h816l := congrArg Int32.toInt h816
                      have b817 := gI_121_90 hI805; rw [h816] at b817
                      obtain ⟨x818, h819⟩ : ∃ y, FI804 121 73 = y := ⟨_, rfl⟩
                      have h819l := congrArg Int32.toInt h819
                      have b820 := gI_121_73 hI805; rw [h819] at b820
                      obtain ⟨x821, h822⟩ : ∃ y, FI804 121 71 = y := ⟨_, rfl⟩
                      have h822l := congrArg Int32.toInt h822
                      have := i_rng x821
                      show hw base _ _ _ _ _ [] _ _
                      refine hw_ic (v := (1 : Int32)) (aX12_operand 158 rfl) (by decide) ?_
                      refine xw_iret (aX12_operand 159 rfl) rfl (by decide) ?_
                      have e823 : ((1 : Int32)).toInt = 1 := (by decide : (1 : Int32).toInt = 1)
                      exact ⟨(1 : Int32), rfl, FI804, rfl, hI805, (gf_tr ex_rf (gf_f (gf_tr ex_rf gf_rf f784 rfl rfl rfl) u795 (by decide)) f806 rfl rfl rfl), (by have : ((1 : Int32)).toInt = 1 := (by decide); have := congrArg Int32.toInt (show FI804 121 67 = x4 from (gf_at f806 (c121 hS) (s121 hS) rfl ((up_k u795 (by decide) ((gf_at f784 (c121 hS) (s121 hS) rfl (h5))))))); have := congrArg Int32.toInt (show FI804 121 68 = x792 from (gf_at f806 (c121 hS) (s121 hS) rfl (up_eq u795))); have := (e793 : (x792).toInt = ((x1).toInt) + (1)); omega), (by have : ((1 : Int32)).toInt = 1 := (by decide); have := congrArg Int32.toInt (show FI804 121 68 = x792 from (gf_at f806 (c121 hS) (s121 hS) rfl (up_eq u795))); have := (e793 : (x792).toInt = ((x1).toInt) + (1)); omega), (by have : ((1 : Int32)).toInt = 1 := (by decide); have := congrArg Int32.toInt (show FI804 121 68 = x792 from (gf_at f806 (c121 hS) (s121 hS) rfl (up_eq u795))); have := (e793 : (x792).toInt = ((x1).toInt) + (1)); have := congrArg Int32.toInt (show FI804 121 73 = x818 from h819); have := congrArg Int32.toInt (show FI804 121 90 = x815 from h816); omega), (by have : ((1 : Int32)).toInt = 1 := (by decide); have := congrArg Int32.toInt (show FI804 121 73 = x818 from h819); omega), (by have : ((1 : Int32)).toInt = 1 := (by decide); have := congrArg Int32.toInt (show FI804 121 68 = x792 from (gf_at f806 (c121 hS) (s121 hS) rfl (up_eq u795))); have := (e793 : (x792).toInt = ((x1).toInt) + (1)); have := congrArg Int32.toInt (show FI804 121 69 = x7 from (gf_at f806 (c121 hS) (s121 hS) rfl ((up_k u795 (by decide) ((gf_at f784 (c121 hS) (s121 hS) rfl (h8))))))); have := congrArg Int32.toInt (show FI804 121 71 = x821 from h822); omega), (by have : ((1 : Int32)).toInt = 1 := (by decide); have := congrArg Int32.toInt (show FI804 121 90 = x815 from h816); omega), (by have : ((1 : Int32)).toInt = 1 := (by decide); have := congrArg Int32.toInt (show FI804 121 71 = x821 from h822); omega), (by have : ((1 : Int32)).toInt = 1 := (by decide); omega), (by have := congrArg Int32.toInt (show FI804 121 68 = x792 from (gf_at f806 (c121 hS) (s121 hS) rfl (up_eq u795))); have := (e793 : (x792).toInt = ((x1).toInt) + (1)); have := congrArg Int32.toInt (show FI804 121 69 = x7 from (gf_at f806 (c121 hS) (s121 hS) rfl ((up_k u795 (by decide) ((gf_at f784 (c121 hS) (s121 hS) rfl (h8))))))); have hm : (sk (FI804 166) (FI804 121 90).toInt.toNat) = au_fin (sk (FI 166) (FI 121 90).toInt.toNat) := (by rw [show FI804 166 = FI 166 from (gf_row f806 (c166 hS) (s166 hS) rfl ((up_row u795 (by decide) ((gf_row f784 (c166 hS) (s166 hS) rfl (rfl))))))]; have hh := u811; rw [show FI794 166 = FI 166 from (up_row u795 (by decide) ((gf_row f784 (c166 hS) (s166 hS) rfl (rfl)))), show FI794 121 90 = FI 121 90 from ((up_k u795 (by decide) ((gf_at f784 (c121 hS) (s121 hS) rfl (h13))))).trans (h13).symm] at hh; exact hh); exact fun _ => Or.inr ⟨by decide, (FI 121 68).toInt.toNat + 1, Or.inr (Or.inr (Or.inl ⟨rfl, Or.inr ⟨hcf.1, hcf.2⟩, rfl, rfl, hm⟩)), Or.inl (by omega)⟩), (by have := congrArg Int32.toInt (show FI804 121 69 = x7 from (gf_at f806 (c121 hS) (s121 hS) rfl ((up_k u795 (by decide) ((gf_at f784 (c121 hS) (s121 hS) rfl (h8))))))); have := congrArg Int32.toInt (show FI804 121 71 = x821 from h822); have := congrArg Int32.toInt (show FI804 121 90 = x815 from h816); rw [show FI804 166 = FI 166 from (gf_row f806 (c166 hS) (s166 hS) rfl ((up_row u795 (by decide) ((gf_row f784 (c166 hS) (s166 hS) rfl (rfl))))))]; have hh := u811; rw [show FI794 166 = FI 166 from (up_row u795 (by decide) ((gf_row f784 (c166 hS) (s166 hS) rfl (rfl)))), show FI794 121 90 = FI 121 90 from ((up_k u795 (by decide) ((gf_at f784 (c121 hS) (s121 hS) rfl (h13))))).trans (h13).symm] at hh; exact fun _ => sk_ops hh (by omega) (by omega) (by omega)), (show rl_pm (FI804 121 90) (FI804 121 73) (FI804 166) (FI804 167) (FI804 168) from rl812)⟩
                    · replace t774 := t774 (by omega)
                      refine hw_sp (v := (156 : Int32)) (aX12_operand 140 rfl) (by decide) ?_
                      refine xw_goto (tgt := 280) (aX12_operand 141 rfl) (by decide) ?_
                      refine hw_callV (Bs := [.int ((156 : Int32))]) (rest := []) (aX12_operand 143 rfl) wc_RX12_496 (by decide) rfl wi_yX12_emit wv_yX12_emit (c121 hS) (s121 hS) rfl rfl rfl (Nat.le_of_ble_eq_true rfl) (Nat.le_of_ble_eq_true rfl) (n_emit (d := d + 3) hS hF hI ((156 : Int32)) (by have := congrArg Int32.toInt (show FI 121 73 = x9 from h10); omega) (show rl_pm (FI 121 90) (FI 121 73) (FI 166) (FI 167) (FI 168) from rel_pm)) (fun v824 sv825 p826 => ?_)
                      have := congrArg Int32.toInt (show FI 121 73 = x9 from h10)
                      obtain ⟨rfl, FI828, rfl, hI829, f830, t831, rl832⟩ := p826
                      have rl833 : rl_e (FI828 149) (FI828 121 67) := by rw [show FI828 149 = FI 149 from gf_row f830 (c149 hS) (s149 hS) rfl rfl, show FI828 121 67 = FI 121 67 from gf_at f830 (c121 hS) (s121 hS) rfl rfl]; exact rel_tend
                      have rl834 : rl_t (FI828 149) (FL 150) := by rw [show FI828 149 = FI 149 from gf_row f830 (c149 hS) (s149 hS) rfl rfl]; exact rel_tok
                      obtain ⟨x835, h836⟩ : ∃ y, FI828 121 73 = y := ⟨_, rfl⟩
                      have h836l := congrArg Int32.toInt h836
                      have b837 := gI_121_73 hI829; rw [h836] at b837
                      show hw base _ _ _ _ _ [] _ _
                      refine hw_aloadn (aX12_operand 144 rfl) rfl ?_
                      refine hw_aloadn (aX12_operand 145 rfl) rfl ?_
                      refine hw_get (v := .int (x1)) (aX12_operand 146 rfl) wf_RX12_478 (c121 hS) (s121 hS) (by decide) (congrArg Value.int (show FI828 121 68 = x1 from (gf_at f830 (c121 hS) (s121 hS) rfl (h2)))) ?_
                      refine hw_ic (v := (1 : Int32)) (aX12_operand 147 rfl) (by decide) ?_
                      refine xw_iadd (aX12_operand 148 rfl) ?_
                      refine hw_tie (A := ((x1).toInt) + (1)) (i_add rfl (by decide : (1 : Int32).toInt = 1) (by omega) (by omega)) (fun x838 e839 => ?_)
                      refine hv_puti (aX12_operand 149 rfl) wf_RX12_478 (c121 hS) (s121 hS) (by decide) rfl rfl (fun FI840 u841 => ?_)
                      have rl842 : rl_pm (FI840 121 90) (FI840 121 73) (FI840 166) (FI840 167) (FI840 168) := by rw [show FI840 166 = FI828 166 from up_row u841 (by decide) rfl, show FI840 167 = FI828 167 from up_row u841 (by decide) rfl, show FI840 168 = FI828 168 from up_row u841 (by decide) rfl, show FI840 121 90 = FI828 121 90 from up_k u841 (by decide) rfl, show FI840 121 73 = FI828 121 73 from up_k u841 (by decide) rfl]; exact rl832
                      have rl843 : rl_e (FI840 149) (FI840 121 67) := by rw [show FI840 149 = FI828 149 from up_row u841 (by decide) rfl, show FI840 121 67 = FI828 121 67 from up_k u841 (by decide) rfl]; exact rl833
                      have rl844 : rl_t (FI840 149) (FL 150) := by rw [show FI840 149 = FI828 149 from up_row u841 (by decide) rfl]; exact rl834
                      have hI845 : g_I FI840 := gU_121_68 hI829 u841 (by have := (e839 : (x838).toInt = ((x1).toInt) + (1)); omega) (by have := (e839 : (x838).toInt = ((x1).toInt) + (1)); omega)
                      refine xw_goto (tgt := 303) (aX12_operand 150 rfl) (by decide) ?_
                      refine hw_aloadn (aX12_operand 156 rfl) rfl ?_
                      refine hw_callV (Bs := []) (rest := []) (aX12_operand 157 rfl) wc_RX12_596 (by decide) rfl wi_yX12_finished wv_yX12_finished (c121 hS) (s121 hS) rfl rfl rfl (Nat.le_of_ble_eq_true rfl) (Nat.le_of_ble_eq_true rfl) (n_finished (d := d + 1) hS hF hI845 (by have := congrArg Int32.toInt (show FI840 121 73 = x835 from (up_k u841 (by decide) (h836))); have := congrArg Int32.toInt (show FI840 121 90 = x12 from (up_k u841 (by decide) ((gf_at f830 (c121 hS) (s121 hS) rfl (h13))))); omega) (by have := congrArg Int32.toInt (show FI840 121 71 = x15 from (up_k u841 (by decide) ((gf_at f830 (c121 hS) (s121 hS) rfl (h16))))); have := congrArg Int32.toInt (show FI840 121 71 = x15 from (up_k u841 (by decide) ((gf_at f830 (c121 hS) (s121 hS) rfl (h16))))); omega) (show rl_pm (FI840 121 90) (FI840 121 73) (FI840 166) (FI840 167) (FI840 168) from rl842)) (fun v846 sv847 p848 => ?_)
                      have := congrArg Int32.toInt (show FI840 121 90 = x12 from (up_k u841 (by decide) ((gf_at f830 (c121 hS) (s121 hS) rfl (h13)))))
                      have := congrArg Int32.toInt (show FI840 121 73 = x835 from (up_k u841 (by decide) (h836)))
                      have := congrArg Int32.toInt (show FI840 121 90 = x12 from (up_k u841 (by decide) ((gf_at f830 (c121 hS) (s121 hS) rfl (h13)))))
                      have := congrArg Int32.toInt (show FI840 121 73 = x835 from (up_k u841 (by decide) (h836)))
                      have := congrArg Int32.toInt (show FI840 121 71 = x15 from (up_k u841 (by decide) ((gf_at f830 (c121 hS) (s121 hS) rfl (h16)))))
                      have := congrArg Int32.toInt (show FI840 121 90 = x12 from (up_k u841 (by decide) ((gf_at f830 (c121 hS) (s121 hS) rfl (h13)))))
                      obtain ⟨rfl, FI850, rfl, hI851, f852, t853, t854, t855, t856, u857, rl858⟩ := p848
                      have rl859 : rl_e (FI850 149) (FI850 121 67) := by rw [show FI850 149 = FI840 149 from gf_row f852 (c149 hS) (s149 hS) rfl rfl, show FI850 121 67 = FI840 121 67 from gf_at f852 (c121 hS) (s121 hS) rfl rfl]; exact rl843
                      have rl860 : rl_t (FI850 149) (FL 150) := by rw [show FI850 149 = FI840 149 from gf_row f852 (c149 hS) (s149 hS) rfl rfl]; exact rl844
                      obtain ⟨x861, h862⟩ : ∃ y, FI850 121 90 = y := ⟨_, rfl⟩
                      have h862l := congrArg Int32.toInt h862
                      have b863 := gI_121_90 hI851; rw [h862] at b863
                      obtain ⟨x864, h865⟩ : ∃ y, FI850 121 73 = y := ⟨_, rfl⟩
                      have h865l := congrArg Int32.toInt h865
                      have b866 := gI_121_73 hI851; rw [h865] at b866
                      obtain ⟨x867, h868⟩ : ∃ y, FI850 121 71 = y := ⟨_, rfl⟩
                      have h868l := congrArg Int32.toInt h868
                      have := i_rng x867
                      show hw base _ _ _ _ _ [] _ _
                      refine hw_ic (v := (1 : Int32)) (aX12_operand 158 rfl) (by decide) ?_
                      refine xw_iret (aX12_operand 159 rfl) rfl (by decide) ?_
                      have e869 : ((1 : Int32)).toInt = 1 := (by decide : (1 : Int32).toInt = 1)
                      exact ⟨(1 : Int32), rfl, FI850, rfl, hI851, (gf_tr ex_rf (gf_f (gf_tr ex_rf gf_rf f830 rfl rfl rfl) u841 (by decide)) f852 rfl rfl rfl), (by have : ((1 : Int32)).toInt = 1 := (by decide); have := congrArg Int32.toInt (show FI850 121 67 = x4 from (gf_at f852 (c121 hS) (s121 hS) rfl ((up_k u841 (by decide) ((gf_at f830 (c121 hS) (s121 hS) rfl (h5))))))); have := congrArg Int32.toInt (show FI850 121 68 = x838 from (gf_at f852 (c121 hS) (s121 hS) rfl (up_eq u841))); have := (e839 : (x838).toInt = ((x1).toInt) + (1)); omega), (by have : ((1 : Int32)).toInt = 1 := (by decide); have := congrArg Int32.toInt (show FI850 121 68 = x838 from (gf_at f852 (c121 hS) (s121 hS) rfl (up_eq u841))); have := (e839 : (x838).toInt = ((x1).toInt) + (1)); omega), (by have : ((1 : Int32)).toInt = 1 := (by decide); have := congrArg Int32.toInt (show FI850 121 68 = x838 from (gf_at f852 (c121 hS) (s121 hS) rfl (up_eq u841))); have := (e839 : (x838).toInt = ((x1).toInt) + (1)); have := congrArg Int32.toInt (show FI850 121 73 = x864 from h865); have := congrArg Int32.toInt (show FI850 121 90 = x861 from h862); omega), (by have : ((1 : Int32)).toInt = 1 := (by decide); have := congrArg Int32.toInt (show FI850 121 73 = x864 from h865); omega), (by have : ((1 : Int32)).toInt = 1 := (by decide); have := congrArg Int32.toInt (show FI850 121 68 = x838 from (gf_at f852 (c121 hS) (s121 hS) rfl (up_eq u841))); have := (e839 : (x838).toInt = ((x1).toInt) + (1)); have := congrArg Int32.toInt (show FI850 121 69 = x7 from (gf_at f852 (c121 hS) (s121 hS) rfl ((up_k u841 (by decide) ((gf_at f830 (c121 hS) (s121 hS) rfl (h8))))))); have := congrArg Int32.toInt (show FI850 121 71 = x867 from h868); omega), (by have : ((1 : Int32)).toInt = 1 := (by decide); have := congrArg Int32.toInt (show FI850 121 90 = x861 from h862); omega), (by have : ((1 : Int32)).toInt = 1 := (by decide); have := congrArg Int32.toInt (show FI850 121 71 = x867 from h868); omega), (by have : ((1 : Int32)).toInt = 1 := (by decide); omega), (by have := congrArg Int32.toInt (show FI850 121 68 = x838 from (gf_at f852 (c121 hS) (s121 hS) rfl (up_eq u841))); have := (e839 : (x838).toInt = ((x1).toInt) + (1)); have := congrArg Int32.toInt (show FI850 121 69 = x7 from (gf_at f852 (c121 hS) (s121 hS) rfl ((up_k u841 (by decide) ((gf_at f830 (c121 hS) (s121 hS) rfl (h8))))))); have hm : (sk (FI850 166) (FI850 121 90).toInt.toNat) = au_fin (sk (FI 166) (FI 121 90).toInt.toNat) := (by rw [show FI850 166 = FI 166 from (gf_row f852 (c166 hS) (s166 hS) rfl ((up_row u841 (by decide) ((gf_row f830 (c166 hS) (s166 hS) rfl (rfl))))))]; have hh := u857; rw [show FI840 166 = FI 166 from (up_row u841 (by decide) ((gf_row f830 (c166 hS) (s166 hS) rfl (rfl)))), show FI840 121 90 = FI 121 90 from ((up_k u841 (by decide) ((gf_at f830 (c121 hS) (s121 hS) rfl (h13))))).trans (h13).symm] at hh; exact hh); exact fun _ => Or.inr ⟨by decide, (FI 121 68).toInt.toNat + 1, Or.inr (Or.inr (Or.inl ⟨rfl, Or.inr ⟨hcf.1, hcf.2⟩, rfl, rfl, hm⟩)), Or.inl (by omega)⟩), (by have := congrArg Int32.toInt (show FI850 121 69 = x7 from (gf_at f852 (c121 hS) (s121 hS) rfl ((up_k u841 (by decide) ((gf_at f830 (c121 hS) (s121 hS) rfl (h8))))))); have := congrArg Int32.toInt (show FI850 121 71 = x867 from h868); have := congrArg Int32.toInt (show FI850 121 90 = x861 from h862); rw [show FI850 166 = FI 166 from (gf_row f852 (c166 hS) (s166 hS) rfl ((up_row u841 (by decide) ((gf_row f830 (c166 hS) (s166 hS) rfl (rfl))))))]; have hh := u857; rw [show FI840 166 = FI 166 from (up_row u841 (by decide) ((gf_row f830 (c166 hS) (s166 hS) rfl (rfl)))), show FI840 121 90 = FI 121 90 from ((up_k u841 (by decide) ((gf_at f830 (c121 hS) (s121 hS) rfl (h13))))).trans (h13).symm] at hh; exact fun _ => sk_ops hh (by omega) (by omega) (by omega)), (show rl_pm (FI850 121 90) (FI850 121 73) (FI850 166) (FI850 167) (FI850 168) from rl858)⟩
                  refine hw_ifne (tgt := 262) (aX12_operand 130 rfl) (by decide) rfl (fun cd870 => ?_) (fun cd870 => ?_)
                  · replace t640 := t640 (by omega)
                    exact hw_L (j768 (show kf (FI 149) (FI 121 68).toInt.toNat = 2 ∧ (wf (FL 150) (FI 121 68).toInt.toNat = 4 ∨ wf (FL 150) (FI 121 68).toInt.toNat = 5 ∨ wf (FL 150) (FI 121 68).toInt.toNat = 6) from (by { have h := u642.mp (by omega); rw [show ((5 : Int32)).toInt = (5 : Int) from by decide] at h; exact ⟨h.1, Or.inr (Or.inl h.2)⟩ })) (by show (x1).toInt < (x4).toInt - 1; omega)) ⟨rfl, trivial⟩
                  · clear t640
                    refine hw_aloadn (aX12_operand 131 rfl) rfl ?_
                    refine hw_bp (v := (6 : Int32)) (aX12_operand 132 rfl) (by decide) ?_
                    refine hw_callV (Bs := [.int ((6 : Int32))]) (rest := []) (aX12_operand 133 rfl) wc_RX12_535 (by decide) rfl wi_yX12_isWord wv_yX12_isWord (c121 hS) (s121 hS) rfl rfl rfl (Nat.le_of_ble_eq_true rfl) (Nat.le_of_ble_eq_true rfl) (n_isWord (d := d + 3) hS hF hI ((6 : Int32)) (by have := congrArg Int32.toInt (show FI 121 68 = x1 from h2); have := congrArg Int32.toInt (show FI 121 67 = x4 from h5); omega) (show rl_e (FI 149) (FI 121 67) from rel_tend)) (fun v871 sv872 p873 => ?_)
                    have := congrArg Int32.toInt (show FI 121 68 = x1 from h2)
                    have := congrArg Int32.toInt (show FI 121 67 = x4 from h5)
                    obtain ⟨r874, rfl, rfl, t876, t877, u878⟩ := p873
                    show hw base _ _ _ _ _ [.int (r874)] _ _
                    refine hw_ifeq (tgt := 296) (aX12_operand 134 rfl) (by decide) rfl (fun cd879 => ?_) (fun cd879 => ?_)
                    · clear t876
                      refine hw_aloadn (aX12_operand 151 rfl) rfl ?_
                      refine hw_ic (v := (1 : Int32)) (aX12_operand 152 rfl) (by decide) ?_
                      refine hw_callV (Bs := [.int ((1 : Int32))]) (rest := []) (aX12_operand 153 rfl) wc_RX12_487 (by decide) rfl wi_yX12_fail wv_yX12_fail (c121 hS) (s121 hS) rfl rfl rfl (Nat.le_of_ble_eq_true rfl) (Nat.le_of_ble_eq_true rfl) (n_fail (d := d + 3) hS hF hI ((1 : Int32)) (by have := ((by decide : (1 : Int32).toInt = 1) : ((1 : Int32)).toInt = 1); omega)) (fun v880 sv881 p882 => ?_)
                      obtain ⟨rfl, FI884, rfl, hI885, f886, t887⟩ := p882
                      have rl888 : rl_e (FI884 149) (FI884 121 67) := by rw [show FI884 149 = FI 149 from gf_row f886 (c149 hS) (s149 hS) rfl rfl, show FI884 121 67 = FI 121 67 from gf_at f886 (c121 hS) (s121 hS) rfl rfl]; exact rel_tend
                      have rl889 : rl_t (FI884 149) (FL 150) := by rw [show FI884 149 = FI 149 from gf_row f886 (c149 hS) (s149 hS) rfl rfl]; exact rel_tok
                      have rl890 : rl_pm (FI884 121 90) (FI884 121 73) (FI884 166) (FI884 167) (FI884 168) := by rw [show FI884 166 = FI 166 from gf_row f886 (c166 hS) (s166 hS) rfl rfl, show FI884 167 = FI 167 from gf_row f886 (c167 hS) (s167 hS) rfl rfl, show FI884 168 = FI 168 from gf_row f886 (c168 hS) (s168 hS) rfl rfl, show FI884 121 90 = FI 121 90 from gf_at f886 (c121 hS) (s121 hS) rfl rfl, show FI884 121 73 = FI 121 73 from gf_at f886 (c121 hS) (s121 hS) rfl rfl]; exact rel_pm
                      obtain ⟨x891, h892⟩ : ∃ y, FI884 121 69 = y := ⟨_, rfl⟩
                      have h892l := congrArg Int32.toInt h892
                      have := i_rng x891
                      show hw base _ _ _ _ _ [] _ _
                      refine hw_ic (v := (0 : Int32)) (aX12_operand 154 rfl) (by decide) ?_
                      refine xw_iret (aX12_operand 155 rfl) rfl (by decide) ?_
                      have e893 : ((0 : Int32)).toInt = 0 := (by decide : (0 : Int32).toInt = 0)
                      exact ⟨(0 : Int32), rfl, FI884, rfl, hI885, (gf_tr ex_rf gf_rf f886 rfl rfl rfl), (by have : ((0 : Int32)).toInt = 0 := (by decide); have := congrArg Int32.toInt (show FI884 121 67 = x4 from (gf_at f886 (c121 hS) (s121 hS) rfl (h5))); have := congrArg Int32.toInt (show FI884 121 68 = x1 from (gf_at f886 (c121 hS) (s121 hS) rfl (h2))); omega), (by have : ((0 : Int32)).toInt = 0 := (by decide); have := congrArg Int32.toInt (show FI884 121 68 = x1 from (gf_at f886 (c121 hS) (s121 hS) rfl (h2))); omega), (by have : ((0 : Int32)).toInt = 0 := (by decide); have := congrArg Int32.toInt (show FI884 121 68 = x1 from (gf_at f886 (c121 hS) (s121 hS) rfl (h2))); have := congrArg Int32.toInt (show FI884 121 73 = x9 from (gf_at f886 (c121 hS) (s121 hS) rfl (h10))); have := congrArg Int32.toInt (show FI884 121 90 = x12 from (gf_at f886 (c121 hS) (s121 hS) rfl (h13))); omega), (by have : ((0 : Int32)).toInt = 0 := (by decide); have := congrArg Int32.toInt (show FI884 121 73 = x9 from (gf_at f886 (c121 hS) (s121 hS) rfl (h10))); omega), (by have : ((0 : Int32)).toInt = 0 := (by decide); have := congrArg Int32.toInt (show FI884 121 68 = x1 from (gf_at f886 (c121 hS) (s121 hS) rfl (h2))); have := congrArg Int32.toInt (show FI884 121 69 = x891 from h892); have := congrArg Int32.toInt (show FI884 121 71 = x15 from (gf_at f886 (c121 hS) (s121 hS) rfl (h16))); omega), (by have : ((0 : Int32)).toInt = 0 := (by decide); have := congrArg Int32.toInt (show FI884 121 90 = x12 from (gf_at f886 (c121 hS) (s121 hS) rfl (h13))); omega), (by have : ((0 : Int32)).toInt = 0 := (by decide); have := congrArg Int32.toInt (show FI884 121 71 = x15 from (gf_at f886 (c121 hS) (s121 hS) rfl (h16))); omega), (by have : ((0 : Int32)).toInt = 0 := (by decide); omega), (by have := congrArg Int32.toInt (show FI884 121 69 = x891 from h892); exact fun h => absurd h (by omega)), (by have := congrArg Int32.toInt (show FI884 121 69 = x891 from h892); exact fun h => absurd h (by omega)), (show rl_pm (FI884 121 90) (FI884 121 73) (FI884 166) (FI884 167) (FI884 168) from rl890)⟩
                    · replace t876 := t876 (by omega)
                      exact hw_L (j768 (show kf (FI 149) (FI 121 68).toInt.toNat = 2 ∧ (wf (FL 150) (FI 121 68).toInt.toNat = 4 ∨ wf (FL 150) (FI 121 68).toInt.toNat = 5 ∨ wf (FL 150) (FI 121 68).toInt.toNat = 6) from (by { have h := u878.mp (by omega); rw [show ((6 : Int32)).toInt = (6 : Int) from by decide] at h; exact ⟨h.1, Or.inr (Or.inr h.2)⟩ })) (by show (x1).toInt < (x4).toInt - 1; omega)) ⟨rfl, trivial⟩
                · replace t631 := t631 (by omega)
                  have hfb := u633.mp (by omega); rw [show ((4 : Int32)).toInt = (4 : Int) from by decide] at hfb
                  refine hw_aloadn (aX12_operand 107 rfl) rfl ?_
                  refine hw_get (v := .int (x1)) (aX12_operand 108 rfl) wf_RX12_478 (c121 hS) (s121 hS) (by decide) (congrArg Value.int (show FI 121 68 = x1 from h2)) ?_
                  refine hw_ic (v := (1 : Int32)) (aX12_operand 109 rfl) (by decide) ?_
                  refine xw_iadd (aX12_operand 110 rfl) ?_
                  refine hw_tie (A := ((x1).toInt) + (1)) (i_add rfl (by decide : (1 : Int32).toInt = 1) (by omega) (by omega)) (fun x894 e895 => ?_)
                  refine xw_istoren (L2 := [(1, .int (x894)), (0, .ref (base + 121))]) (aX12_operand 111 rfl) (by decide) rfl ?_
                  refine hw_aloadn (aX12_operand 112 rfl) rfl ?_
                  refine hw_sp (v := (145 : Int32)) (aX12_operand 113 rfl) (by decide) ?_
                  refine hw_callV (Bs := [.int ((145 : Int32))]) (rest := []) (aX12_operand 114 rfl) wc_RX12_496 (by decide) rfl wi_yX12_emit wv_yX12_emit (c121 hS) (s121 hS) rfl rfl rfl (Nat.le_of_ble_eq_true rfl) (Nat.le_of_ble_eq_true rfl) (n_emit (d := d + 3) hS hF hI ((145 : Int32)) (by have := congrArg Int32.toInt (show FI 121 73 = x9 from h10); omega) (show rl_pm (FI 121 90) (FI 121 73) (FI 166) (FI 167) (FI 168) from rel_pm)) (fun v896 sv897 p898 => ?_)
                  have := congrArg Int32.toInt (show FI 121 73 = x9 from h10)
                  obtain ⟨rfl, FI900, rfl, hI901, f902, t903, rl904⟩ := p898
                  have rl905 : rl_e (FI900 149) (FI900 121 67) := by rw [show FI900 149 = FI 149 from gf_row f902 (c149 hS) (s149 hS) rfl rfl, show FI900 121 67 = FI 121 67 from gf_at f902 (c121 hS) (s121 hS) rfl rfl]; exact rel_tend
                  have rl906 : rl_t (FI900 149) (FL 150) := by rw [show FI900 149 = FI 149 from gf_row f902 (c149 hS) (s149 hS) rfl rfl]; exact rel_tok
                  obtain ⟨x907, h908⟩ : ∃ y, FI900 121 73 = y := ⟨_, rfl⟩
                  have h908l := congrArg Int32.toInt h908
                  have b909 := gI_121_73 hI901; rw [h908] at b909
                  show hw base _ _ _ _ _ [] _ _
                  refine hw_aloadn (aX12_operand 115 rfl) rfl ?_
                  refine hw_aloadn (aX12_operand 116 rfl) rfl ?_
                  refine hw_get (v := .int (x1)) (aX12_operand 117 rfl) wf_RX12_478 (c121 hS) (s121 hS) (by decide) (congrArg Value.int (show FI900 121 68 = x1 from (gf_at f902 (c121 hS) (s121 hS) rfl (h2)))) ?_
                  refine hw_ic (v := (1 : Int32)) (aX12_operand 118 rfl) (by decide) ?_
                  refine xw_iadd (aX12_operand 119 rfl) ?_
                  refine hw_tie (A := ((x1).toInt) + (1)) (i_add rfl (by decide : (1 : Int32).toInt = 1) (by omega) (by omega)) (fun x910 e911 => ?_)
                  refine hv_puti (aX12_operand 120 rfl) wf_RX12_478 (c121 hS) (s121 hS) (by decide) rfl rfl (fun FI912 u913 => ?_)
                  have rl914 : rl_e (FI912 149) (FI912 121 67) := by rw [show FI912 149 = FI900 149 from up_row u913 (by decide) rfl, show FI912 121 67 = FI900 121 67 from up_k u913 (by decide) rfl]; exact rl905
                  have rl915 : rl_t (FI912 149) (FL 150) := by rw [show FI912 149 = FI900 149 from up_row u913 (by decide) rfl]; exact rl906
                  have rl916 : rl_pm (FI912 121 90) (FI912 121 73) (FI912 166) (FI912 167) (FI912 168) := by rw [show FI912 166 = FI900 166 from up_row u913 (by decide) rfl, show FI912 167 = FI900 167 from up_row u913 (by decide) rfl, show FI912 168 = FI900 168 from up_row u913 (by decide) rfl, show FI912 121 90 = FI900 121 90 from up_k u913 (by decide) rfl, show FI912 121 73 = FI900 121 73 from up_k u913 (by decide) rfl]; exact rl904
                  have hI917 : g_I FI912 := gU_121_68 hI901 u913 (by have := (e911 : (x910).toInt = ((x1).toInt) + (1)); omega) (by have := (e911 : (x910).toInt = ((x1).toInt) + (1)); omega)
                  refine hw_aloadn (aX12_operand 121 rfl) rfl ?_
                  refine hw_aloadn (aX12_operand 122 rfl) rfl ?_
                  refine xw_iloadn (aX12_operand 123 rfl) rfl ?_
                  refine hw_callV (Bs := [.int (x894)]) (rest := [.ref (base + 121)]) (aX12_operand 124 rfl) wc_RX12_589 (by decide) rfl wi_yX12_combined wv_yX12_combined (c121 hS) (s121 hS) rfl rfl rfl (Nat.le_of_ble_eq_true rfl) (Nat.le_of_ble_eq_true rfl) (n_combined (d := d + 1) hS hF hI917 (x894) (by have := (e895 : (x894).toInt = ((x1).toInt) + (1)); have := congrArg Int32.toInt (show FI912 121 67 = x4 from (up_k u913 (by decide) ((gf_at f902 (c121 hS) (s121 hS) rfl (h5))))); omega) (by have := congrArg Int32.toInt (show FI912 121 68 = x910 from up_eq u913); have := (e911 : (x910).toInt = ((x1).toInt) + (1)); have := (e895 : (x894).toInt = ((x1).toInt) + (1)); omega) (by have := (e895 : (x894).toInt = ((x1).toInt) + (1)); have := (e895 : (x894).toInt = ((x1).toInt) + (1)); omega) (show rl_e (FI912 149) (FI912 121 67) from rl914)) (fun v918 sv919 p920 => ?_)
                  have := congrArg Int32.toInt (show FI912 121 68 = x910 from up_eq u913)
                  have := (e911 : (x910).toInt = ((x1).toInt) + (1))
                  have := congrArg Int32.toInt (show FI912 121 68 = x910 from up_eq u913)
                  have := (e911 : (x910).toInt = ((x1).toInt) + (1))
                  obtain ⟨r921, rfl, FI922, rfl, hI923, f924, t925, t926, u927⟩ := p920
                  have rl928 : rl_e (FI922 149) (FI922 121 67) := by rw [show FI922 149 = FI912 149 from gf_row f924 (c149 hS) (s149 hS) rfl rfl, show FI922 121 67 = FI912 121 67 from gf_at f924 (c121 hS) (s121 hS) rfl rfl]; exact rl914
                  have rl929 : rl_t (FI922 149) (FL 150) := by rw [show FI922 149 = FI912 149 from gf_row f924 (c149 hS) (s149 hS) rfl rfl]; exact rl915
                  have rl930 : rl_pm (FI922 121 90) (FI922 121 73) (FI922 166) (FI922 167) (FI922 168) := by rw [show FI922 166 = FI912 166 from gf_row f924 (c166 hS) (s166 hS) rfl rfl, show FI922 167 = FI912 167 from gf_row f924 (c167 hS) (s167 hS) rfl rfl, show FI922 168 = FI912 168 from gf_row f924 (c168 hS) (s168 hS) rfl rfl, show FI922 121 90 = FI912 121 90 from gf_at f924 (c121 hS) (s121 hS) rfl rfl, show FI922 121 73 = FI912 121 73 from gf_at f924 (c121 hS) (s121 hS) rfl rfl]; exact rl916
                  have rg_r921 := l_rng r921
                  obtain ⟨x931, h932⟩ : ∃ y, FI922 121 68 = y := ⟨_, rfl⟩
                  have h932l := congrArg Int32.toInt h932
                  have b933 := gI_121_68 hI923; rw [h932] at b933
                  have := congrArg Int32.toInt (show FI922 121 67 = x4 from (gf_at f924 (c121 hS) (s121 hS) rfl ((up_k u913 (by decide) ((gf_at f902 (c121 hS) (s121 hS) rfl (h5)))))))
                  show hw base _ _ _ _ _ [.long (r921), .ref (base + 121)] _ _
                  have hcmb := u927; rw [show FI912 149 = FI 149 from (up_row u913 (by decide) ((gf_row f902 (c149 hS) (s149 hS) rfl (rfl)))), show FI912 166 = FI 166 from (up_row u913 (by decide) ((gf_row f902 (c166 hS) (s166 hS) rfl (rfl)))), show FI912 121 90 = FI 121 90 from ((up_k u913 (by decide) ((gf_at f902 (c121 hS) (s121 hS) rfl (h13))))).trans (h13).symm, show (x894).toInt.toNat = (FI 121 68).toInt.toNat + 1 by omega] at hcmb
                  refine hw_callV (Bs := [.long (r921)]) (rest := []) (aX12_operand 125 rfl) wc_RX12_593 (by decide) rfl wi_yX12_signed wv_yX12_signed (c121 hS) (s121 hS) rfl rfl rfl (Nat.le_of_ble_eq_true rfl) (Nat.le_of_ble_eq_true rfl) (n_signed (d := d + 2) hS hF hI923 (r921) (by have := congrArg Int32.toInt (show FI922 121 73 = x907 from (gf_at f924 (c121 hS) (s121 hS) rfl ((up_k u913 (by decide) (h908))))); omega) (show rl_pm (FI922 121 90) (FI922 121 73) (FI922 166) (FI922 167) (FI922 168) from rl930)) (fun v934 sv935 p936 => ?_)
                  have := congrArg Int32.toInt (show FI922 121 73 = x907 from (gf_at f924 (c121 hS) (s121 hS) rfl ((up_k u913 (by decide) (h908)))))
                  have := congrArg Int32.toInt (show FI922 121 73 = x907 from (gf_at f924 (c121 hS) (s121 hS) rfl ((up_k u913 (by decide) (h908)))))
                  obtain ⟨rfl, FI938, rfl, hI939, f940, t941, t942, rl943⟩ := p936
                  have rl944 : rl_e (FI938 149) (FI938 121 67) := by rw [show FI938 149 = FI922 149 from gf_row f940 (c149 hS) (s149 hS) rfl rfl, show FI938 121 67 = FI922 121 67 from gf_at f940 (c121 hS) (s121 hS) rfl rfl]; exact rl928
                  have rl945 : rl_t (FI938 149) (FL 150) := by rw [show FI938 149 = FI922 149 from gf_row f940 (c149 hS) (s149 hS) rfl rfl]; exact rl929
                  obtain ⟨x946, h947⟩ : ∃ y, FI938 121 73 = y := ⟨_, rfl⟩
                  have h947l := congrArg Int32.toInt h947
                  have b948 := gI_121_73 hI939; rw [h947] at b948
                  show hw base _ _ _ _ _ [] _ _
                  refine xw_goto (tgt := 303) (aX12_operand 126 rfl) (by decide) ?_
                  refine hw_aloadn (aX12_operand 156 rfl) rfl ?_
                  refine hw_callV (Bs := []) (rest := []) (aX12_operand 157 rfl) wc_RX12_596 (by decide) rfl wi_yX12_finished wv_yX12_finished (c121 hS) (s121 hS) rfl rfl rfl (Nat.le_of_ble_eq_true rfl) (Nat.le_of_ble_eq_true rfl) (n_finished (d := d + 1) hS hF hI939 (by have := congrArg Int32.toInt (show FI938 121 73 = x946 from h947); have := congrArg Int32.toInt (show FI938 121 90 = x12 from (gf_at f940 (c121 hS) (s121 hS) rfl ((gf_at f924 (c121 hS) (s121 hS) rfl ((up_k u913 (by decide) ((gf_at f902 (c121 hS) (s121 hS) rfl (h13))))))))); omega) (by have := congrArg Int32.toInt (show FI938 121 71 = x15 from (gf_at f940 (c121 hS) (s121 hS) rfl ((gf_at f924 (c121 hS) (s121 hS) rfl ((up_k u913 (by decide) ((gf_at f902 (c121 hS) (s121 hS) rfl (h16))))))))); have := congrArg Int32.toInt (show FI938 121 71 = x15 from (gf_at f940 (c121 hS) (s121 hS) rfl ((gf_at f924 (c121 hS) (s121 hS) rfl ((up_k u913 (by decide) ((gf_at f902 (c121 hS) (s121 hS) rfl (h16))))))))); omega) (show rl_pm (FI938 121 90) (FI938 121 73) (FI938 166) (FI938 167) (FI938 168) from rl943)) (fun v949 sv950 p951 => ?_)
                  have := congrArg Int32.toInt (show FI938 121 90 = x12 from (gf_at f940 (c121 hS) (s121 hS) rfl ((gf_at f924 (c121 hS) (s121 hS) rfl ((up_k u913 (by decide) ((gf_at f902 (c121 hS) (s121 hS) rfl (h13)))))))))
                  have := congrArg Int32.toInt (show FI938 121 73 = x946 from h947)
                  have := congrArg Int32.toInt (show FI938 121 90 = x12 from (gf_at f940 (c121 hS) (s121 hS) rfl ((gf_at f924 (c121 hS) (s121 hS) rfl ((up_k u913 (by decide) ((gf_at f902 (c121 hS) (s121 hS) rfl (h13)))))))))
                  have := congrArg Int32.toInt (show FI938 121 73 = x946 from h947)
                  have := congrArg Int32.toInt (show FI938 121 71 = x15 from (gf_at f940 (c121 hS) (s121 hS) rfl ((gf_at f924 (c121 hS) (s121 hS) rfl ((up_k u913 (by decide) ((gf_at f902 (c121 hS) (s121 hS) rfl (h16)))))))))
                  have := congrArg Int32.toInt (show FI938 121 90 = x12 from (gf_at f940 (c121 hS) (s121 hS) rfl ((gf_at f924 (c121 hS) (s121 hS) rfl ((up_k u913 (by decide) ((gf_at f902 (c121 hS) (s121 hS) rfl (h13)))))))))
                  obtain ⟨rfl, FI953, rfl, hI954, f955, t956, t957, t958, t959, u960, rl961⟩ := p951
                  have rl962 : rl_e (FI953 149) (FI953 121 67) := by rw [show FI953 149 = FI938 149 from gf_row f955 (c149 hS) (s149 hS) rfl rfl, show FI953 121 67 = FI938 121 67 from gf_at f955 (c121 hS) (s121 hS) rfl rfl]; exact rl944
                  have rl963 : rl_t (FI953 149) (FL 150) := by rw [show FI953 149 = FI938 149 from gf_row f955 (c149 hS) (s149 hS) rfl rfl]; exact rl945
                  obtain ⟨x964, h965⟩ : ∃ y, FI953 121 90 = y := ⟨_, rfl⟩
                  have h965l := congrArg Int32.toInt h965
                  have b966 := gI_121_90 hI954; rw [h965] at b966
                  obtain ⟨x967, h968⟩ : ∃ y, FI953 121 73 = y := ⟨_, rfl⟩
                  have h968l := congrArg Int32.toInt h968
                  have b969 := gI_121_73 hI954; rw [h968] at b969
                  obtain ⟨x970, h971⟩ : ∃ y, FI953 121 71 = y := ⟨_, rfl⟩
                  have h971l := congrArg Int32.toInt h971
                  have := i_rng x970
                  show hw base _ _ _ _ _ [] _ _
                  refine hw_ic (v := (1 : Int32)) (aX12_operand 158 rfl) (by decide) ?_
                  refine xw_iret (aX12_operand 159 rfl) rfl (by decide) ?_
                  have e972 : ((1 : Int32)).toInt = 1 := (by decide : (1 : Int32).toInt = 1)
                  exact ⟨(1 : Int32), rfl, FI953, rfl, hI954, (gf_tr ex_rf (gf_tr ex_rf (gf_tr ex_rf (gf_f (gf_tr ex_rf gf_rf f902 rfl rfl rfl) u913 (by decide)) f924 rfl rfl rfl) f940 rfl rfl rfl) f955 rfl rfl rfl), (by have : ((1 : Int32)).toInt = 1 := (by decide); have := congrArg Int32.toInt (show FI953 121 67 = x4 from (gf_at f955 (c121 hS) (s121 hS) rfl ((gf_at f940 (c121 hS) (s121 hS) rfl ((gf_at f924 (c121 hS) (s121 hS) rfl ((up_k u913 (by decide) ((gf_at f902 (c121 hS) (s121 hS) rfl (h5))))))))))); have := congrArg Int32.toInt (show FI953 121 68 = x931 from (gf_at f955 (c121 hS) (s121 hS) rfl ((gf_at f940 (c121 hS) (s121 hS) rfl (h932))))); omega), (by have : ((1 : Int32)).toInt = 1 := (by decide); have := congrArg Int32.toInt (show FI953 121 68 = x931 from (gf_at f955 (c121 hS) (s121 hS) rfl ((gf_at f940 (c121 hS) (s121 hS) rfl (h932))))); omega), (by have : ((1 : Int32)).toInt = 1 := (by decide); have := congrArg Int32.toInt (show FI953 121 68 = x931 from (gf_at f955 (c121 hS) (s121 hS) rfl ((gf_at f940 (c121 hS) (s121 hS) rfl (h932))))); have := congrArg Int32.toInt (show FI953 121 73 = x967 from h968); have := congrArg Int32.toInt (show FI953 121 90 = x964 from h965); omega), (by have : ((1 : Int32)).toInt = 1 := (by decide); have := congrArg Int32.toInt (show FI953 121 73 = x967 from h968); omega), (by have : ((1 : Int32)).toInt = 1 := (by decide); have := congrArg Int32.toInt (show FI953 121 68 = x931 from (gf_at f955 (c121 hS) (s121 hS) rfl ((gf_at f940 (c121 hS) (s121 hS) rfl (h932))))); have := congrArg Int32.toInt (show FI953 121 69 = x7 from (gf_at f955 (c121 hS) (s121 hS) rfl ((gf_at f940 (c121 hS) (s121 hS) rfl ((gf_at f924 (c121 hS) (s121 hS) rfl ((up_k u913 (by decide) ((gf_at f902 (c121 hS) (s121 hS) rfl (h8))))))))))); have := congrArg Int32.toInt (show FI953 121 71 = x970 from h971); omega), (by have : ((1 : Int32)).toInt = 1 := (by decide); have := congrArg Int32.toInt (show FI953 121 90 = x964 from h965); omega), (by have : ((1 : Int32)).toInt = 1 := (by decide); have := congrArg Int32.toInt (show FI953 121 71 = x970 from h971); omega), (by have : ((1 : Int32)).toInt = 1 := (by decide); omega), (by have := congrArg Int32.toInt (show FI953 121 68 = x931 from (gf_at f955 (c121 hS) (s121 hS) rfl ((gf_at f940 (c121 hS) (s121 hS) rfl (h932))))); have := congrArg Int32.toInt (show FI953 121 69 = x7 from (gf_at f955 (c121 hS) (s121 hS) rfl ((gf_at f940 (c121 hS) (s121 hS) rfl ((gf_at f924 (c121 hS) (s121 hS) rfl ((up_k u913 (by decide) ((gf_at f902 (c121 hS) (s121 hS) rfl (h8))))))))))); have hm : (sk (FI953 166) (FI953 121 90).toInt.toNat) = au_fin (sk (FI 166) (FI 121 90).toInt.toNat) := (by rw [show FI953 166 = FI 166 from (gf_row f955 (c166 hS) (s166 hS) rfl ((gf_row f940 (c166 hS) (s166 hS) rfl ((gf_row f924 (c166 hS) (s166 hS) rfl ((up_row u913 (by decide) ((gf_row f902 (c166 hS) (s166 hS) rfl (rfl))))))))))]; have hh := u960; rw [show FI938 166 = FI 166 from (gf_row f940 (c166 hS) (s166 hS) rfl ((gf_row f924 (c166 hS) (s166 hS) rfl ((up_row u913 (by decide) ((gf_row f902 (c166 hS) (s166 hS) rfl (rfl)))))))), show FI938 121 90 = FI 121 90 from ((gf_at f940 (c121 hS) (s121 hS) rfl ((gf_at f924 (c121 hS) (s121 hS) rfl ((up_k u913 (by decide) ((gf_at f902 (c121 hS) (s121 hS) rfl (h13))))))))).trans (h13).symm] at hh; exact hh); have hc := co_cmb_fin hcmb; rw [← hm] at hc; rw [show (FI953 121 68).toInt.toNat = (FI922 121 68).toInt.toNat from congrArg (fun x : Int32 => x.toInt.toNat) (((gf_at f955 (c121 hS) (s121 hS) rfl ((gf_at f940 (c121 hS) (s121 hS) rfl (h932))))).trans (h932).symm)]; exact fun _ => Or.inr ⟨by decide, (FI 121 68).toInt.toNat + 1, Or.inr (Or.inr (Or.inl ⟨rfl, Or.inr ⟨hfb.1, Or.inl hfb.2⟩, rfl, rfl, hm⟩)), hc⟩), (by have := congrArg Int32.toInt (show FI953 121 69 = x7 from (gf_at f955 (c121 hS) (s121 hS) rfl ((gf_at f940 (c121 hS) (s121 hS) rfl ((gf_at f924 (c121 hS) (s121 hS) rfl ((up_k u913 (by decide) ((gf_at f902 (c121 hS) (s121 hS) rfl (h8))))))))))); have := congrArg Int32.toInt (show FI953 121 71 = x970 from h971); have := congrArg Int32.toInt (show FI953 121 90 = x964 from h965); rw [show FI953 166 = FI 166 from (gf_row f955 (c166 hS) (s166 hS) rfl ((gf_row f940 (c166 hS) (s166 hS) rfl ((gf_row f924 (c166 hS) (s166 hS) rfl ((up_row u913 (by decide) ((gf_row f902 (c166 hS) (s166 hS) rfl (rfl))))))))))]; have hh := u960; rw [show FI938 166 = FI 166 from (gf_row f940 (c166 hS) (s166 hS) rfl ((gf_row f924 (c166 hS) (s166 hS) rfl ((up_row u913 (by decide) ((gf_row f902 (c166 hS) (s166 hS) rfl (rfl)))))))), show FI938 121 90 = FI 121 90 from ((gf_at f940 (c121 hS) (s121 hS) rfl ((gf_at f924 (c121 hS) (s121 hS) rfl ((up_k u913 (by decide) ((gf_at f902 (c121 hS) (s121 hS) rfl (h13))))))))).trans (h13).symm] at hh; exact fun _ => sk_ops hh (by omega) (by omega) (by omega)), (show rl_pm (FI953 121 90) (FI953 121 73) (FI953 166) (FI953 167) (FI953 168) from rl961)⟩
              · replace t622 := t622 (by omega)
                have hpc := u624.mp (by omega); rw [show ((37 : Int32)).toInt = (37 : Int) from by decide] at hpc
                refine hw_aloadn (aX12_operand 100 rfl) rfl ?_
                refine hw_callV (Bs := []) (rest := []) (aX12_operand 101 rfl) wc_RX12_586 (by decide) rfl wi_yX12_registered wv_yX12_registered (c121 hS) (s121 hS) rfl rfl rfl (Nat.le_of_ble_eq_true rfl) (Nat.le_of_ble_eq_true rfl) (n_registered (d := d) hS hF hI (by have := congrArg Int32.toInt (show FI 121 68 = x1 from h2); have := congrArg Int32.toInt (show FI 121 67 = x4 from h5); omega) (by have := congrArg Int32.toInt (show FI 121 69 = x7 from h8); omega) (by have := congrArg Int32.toInt (show FI 121 73 = x9 from h10); omega) (show rl_e (FI 149) (FI 121 67) from rel_tend) (show rl_t (FI 149) (FL 150) from rel_tok) (show rl_pm (FI 121 90) (FI 121 73) (FI 166) (FI 167) (FI 168) from rel_pm)) (fun v973 sv974 p975 => ?_)
                have := congrArg Int32.toInt (show FI 121 68 = x1 from h2)
                have := congrArg Int32.toInt (show FI 121 68 = x1 from h2)
                have := congrArg Int32.toInt (show FI 121 73 = x9 from h10)
                have := congrArg Int32.toInt (show FI 121 73 = x9 from h10)
                have := congrArg Int32.toInt (show FI 121 68 = x1 from h2)
                obtain ⟨rfl, FI977, rfl, hI978, f979, t980, t981, t982, t983, t984, u985, rl986⟩ := p975
                have rl987 : rl_e (FI977 149) (FI977 121 67) := by rw [show FI977 149 = FI 149 from gf_row f979 (c149 hS) (s149 hS) rfl rfl, show FI977 121 67 = FI 121 67 from gf_at f979 (c121 hS) (s121 hS) rfl rfl]; exact rel_tend
                have rl988 : rl_t (FI977 149) (FL 150) := by rw [show FI977 149 = FI 149 from gf_row f979 (c149 hS) (s149 hS) rfl rfl]; exact rel_tok
                obtain ⟨x989, h990⟩ : ∃ y, FI977 121 68 = y := ⟨_, rfl⟩
                have h990l := congrArg Int32.toInt h990
                have b991 := gI_121_68 hI978; rw [h990] at b991
                have := congrArg Int32.toInt (show FI977 121 67 = x4 from (gf_at f979 (c121 hS) (s121 hS) rfl (h5)))
                obtain ⟨x992, h993⟩ : ∃ y, FI977 121 73 = y := ⟨_, rfl⟩
                have h993l := congrArg Int32.toInt h993
                have b994 := gI_121_73 hI978; rw [h993] at b994
                obtain ⟨x995, h996⟩ : ∃ y, FI977 121 69 = y := ⟨_, rfl⟩
                have h996l := congrArg Int32.toInt h996
                have := i_rng x995
                show hw base _ _ _ _ _ [] _ _
                have hreg := u985
                refine xw_goto (tgt := 303) (aX12_operand 102 rfl) (by decide) ?_
                refine hw_aloadn (aX12_operand 156 rfl) rfl ?_
                refine hw_callV (Bs := []) (rest := []) (aX12_operand 157 rfl) wc_RX12_596 (by decide) rfl wi_yX12_finished wv_yX12_finished (c121 hS) (s121 hS) rfl rfl rfl (Nat.le_of_ble_eq_true rfl) (Nat.le_of_ble_eq_true rfl) (n_finished (d := d + 1) hS hF hI978 (by have := congrArg Int32.toInt (show FI977 121 73 = x992 from h993); have := congrArg Int32.toInt (show FI977 121 90 = x12 from (gf_at f979 (c121 hS) (s121 hS) rfl (h13))); omega) (by have := congrArg Int32.toInt (show FI977 121 71 = x15 from (gf_at f979 (c121 hS) (s121 hS) rfl (h16))); have := congrArg Int32.toInt (show FI977 121 71 = x15 from (gf_at f979 (c121 hS) (s121 hS) rfl (h16))); omega) (show rl_pm (FI977 121 90) (FI977 121 73) (FI977 166) (FI977 167) (FI977 168) from rl986)) (fun v997 sv998 p999 => ?_)
                have := congrArg Int32.toInt (show FI977 121 90 = x12 from (gf_at f979 (c121 hS) (s121 hS) rfl (h13)))
                have := congrArg Int32.toInt (show FI977 121 73 = x992 from h993)
                have := congrArg Int32.toInt (show FI977 121 90 = x12 from (gf_at f979 (c121 hS) (s121 hS) rfl (h13)))
                have := congrArg Int32.toInt (show FI977 121 73 = x992 from h993)
                have := congrArg Int32.toInt (show FI977 121 71 = x15 from (gf_at f979 (c121 hS) (s121 hS) rfl (h16)))
                have := congrArg Int32.toInt (show FI977 121 90 = x12 from (gf_at f979 (c121 hS) (s121 hS) rfl (h13)))
                obtain ⟨rfl, FI1001, rfl, hI1002, f1003, t1004, t1005, t1006, t1007, u1008, rl1009⟩ := p999
                have rl1010 : rl_e (FI1001 149) (FI1001 121 67) := by rw [show FI1001 149 = FI977 149 from gf_row f1003 (c149 hS) (s149 hS) rfl rfl, show FI1001 121 67 = FI977 121 67 from gf_at f1003 (c121 hS) (s121 hS) rfl rfl]; exact rl987
                have rl1011 : rl_t (FI1001 149) (FL 150) := by rw [show FI1001 149 = FI977 149 from gf_row f1003 (c149 hS) (s149 hS) rfl rfl]; exact rl988
                obtain ⟨x1012, h1013⟩ : ∃ y, FI1001 121 90 = y := ⟨_, rfl⟩
                have h1013l := congrArg Int32.toInt h1013
                have b1014 := gI_121_90 hI1002; rw [h1013] at b1014
                obtain ⟨x1015, h1016⟩ : ∃ y, FI1001 121 73 = y := ⟨_, rfl⟩
                have h1016l := congrArg Int32.toInt h1016
                have b1017 := gI_121_73 hI1002; rw [h1016] at b1017
                obtain ⟨x1018, h1019⟩ : ∃ y, FI1001 121 71 = y := ⟨_, rfl⟩
                have h1019l := congrArg Int32.toInt h1019
                have := i_rng x1018
                show hw base _ _ _ _ _ [] _ _
                refine hw_ic (v := (1 : Int32)) (aX12_operand 158 rfl) (by decide) ?_
                refine xw_iret (aX12_operand 159 rfl) rfl (by decide) ?_
                have e1020 : ((1 : Int32)).toInt = 1 := (by decide : (1 : Int32).toInt = 1)
                exact ⟨(1 : Int32), rfl, FI1001, rfl, hI1002, (gf_tr ex_rf (gf_tr ex_rf gf_rf f979 rfl rfl rfl) f1003 rfl rfl rfl), (by have : ((1 : Int32)).toInt = 1 := (by decide); have := congrArg Int32.toInt (show FI1001 121 67 = x4 from (gf_at f1003 (c121 hS) (s121 hS) rfl ((gf_at f979 (c121 hS) (s121 hS) rfl (h5))))); have := congrArg Int32.toInt (show FI1001 121 68 = x989 from (gf_at f1003 (c121 hS) (s121 hS) rfl (h990))); omega), (by have : ((1 : Int32)).toInt = 1 := (by decide); have := congrArg Int32.toInt (show FI1001 121 68 = x989 from (gf_at f1003 (c121 hS) (s121 hS) rfl (h990))); omega), (by have : ((1 : Int32)).toInt = 1 := (by decide); have := congrArg Int32.toInt (show FI1001 121 68 = x989 from (gf_at f1003 (c121 hS) (s121 hS) rfl (h990))); have := congrArg Int32.toInt (show FI1001 121 73 = x1015 from h1016); have := congrArg Int32.toInt (show FI1001 121 90 = x1012 from h1013); omega), (by have : ((1 : Int32)).toInt = 1 := (by decide); have := congrArg Int32.toInt (show FI1001 121 73 = x1015 from h1016); omega), (by have : ((1 : Int32)).toInt = 1 := (by decide); have := congrArg Int32.toInt (show FI1001 121 68 = x989 from (gf_at f1003 (c121 hS) (s121 hS) rfl (h990))); have := congrArg Int32.toInt (show FI1001 121 69 = x995 from (gf_at f1003 (c121 hS) (s121 hS) rfl (h996))); have := congrArg Int32.toInt (show FI1001 121 71 = x1018 from h1019); omega), (by have : ((1 : Int32)).toInt = 1 := (by decide); have := congrArg Int32.toInt (show FI1001 121 90 = x1012 from h1013); omega), (by have : ((1 : Int32)).toInt = 1 := (by decide); have := congrArg Int32.toInt (show FI1001 121 71 = x1018 from h1019); omega), (by have : ((1 : Int32)).toInt = 1 := (by decide); omega), (by have := congrArg Int32.toInt (show FI1001 121 68 = x989 from (gf_at f1003 (c121 hS) (s121 hS) rfl (h990))); have := congrArg Int32.toInt (show FI1001 121 69 = x995 from (gf_at f1003 (c121 hS) (s121 hS) rfl (h996))); have hm : (sk (FI1001 166) (FI1001 121 90).toInt.toNat) = au_fin (sk (FI 166) (FI 121 90).toInt.toNat) := (by rw [show FI1001 166 = FI 166 from (gf_row f1003 (c166 hS) (s166 hS) rfl ((gf_row f979 (c166 hS) (s166 hS) rfl (rfl))))]; have hh := u1008; rw [show FI977 166 = FI 166 from (gf_row f979 (c166 hS) (s166 hS) rfl (rfl)), show FI977 121 90 = FI 121 90 from ((gf_at f979 (c121 hS) (s121 hS) rfl (h13))).trans (h13).symm] at hh; exact hh); intro h69; obtain ⟨hr1, hr2, hr3⟩ := hreg (by omega); have hc := co_cmb_fin hr3; rw [← hm] at hc; rw [show (FI1001 121 68).toInt.toNat = (FI977 121 68).toInt.toNat from congrArg (fun x : Int32 => x.toInt.toNat) (((gf_at f1003 (c121 hS) (s121 hS) rfl (h990))).trans (h990).symm)]; exact Or.inr ⟨by decide, (FI 121 68).toInt.toNat + 2, Or.inr (Or.inr (Or.inr (Or.inl ⟨rfl, hpc.1, hpc.2, hr1, hr2, rfl, rfl, hm⟩))), hc⟩), (by have := congrArg Int32.toInt (show FI1001 121 69 = x995 from (gf_at f1003 (c121 hS) (s121 hS) rfl (h996))); have := congrArg Int32.toInt (show FI1001 121 71 = x1018 from h1019); have := congrArg Int32.toInt (show FI1001 121 90 = x1012 from h1013); rw [show FI1001 166 = FI 166 from (gf_row f1003 (c166 hS) (s166 hS) rfl ((gf_row f979 (c166 hS) (s166 hS) rfl (rfl))))]; have hh := u1008; rw [show FI977 166 = FI 166 from (gf_row f979 (c166 hS) (s166 hS) rfl (rfl)), show FI977 121 90 = FI 121 90 from ((gf_at f979 (c121 hS) (s121 hS) rfl (h13))).trans (h13).symm] at hh; exact fun _ => sk_ops hh (by omega) (by omega) (by omega)), (show rl_pm (FI1001 121 90) (FI1001 121 73) (FI1001 166) (FI1001 167) (FI1001 168) from rl1009)⟩
            · have := congrArg Int32.toInt (show FI 121 67 = x4 from h5)
              have hne1020 := rl_e_ne rel_tend (t := x1) (by omega)
              have hk3 : kf (FI 149) (FI 121 68).toInt.toNat = 3 := (by { have e : (FI 121 68).toInt.toNat = (x1).toNatClampNeg := by { rw [i_cl (x := x1) rfl]; try omega }; show (FI 149 ((FI 121 68).toInt.toNat)).toInt = 3; rw [e, show FI 149 (x1).toNatClampNeg = x595 from h596]; try omega })
              refine hw_aloadn (aX12_operand 82 rfl) rfl ?_
              refine hw_aloadn (aX12_operand 83 rfl) rfl ?_
              refine hw_get (v := .ref (base + 150)) (aX12_operand 84 rfl) wf_RX12_108 (c121 hS) (s121 hS) (by decide) (congrArg (fun r => va_rf (h_rf base r)) (r121_63 hF)) ?_
              refine hw_aloadn (aX12_operand 85 rfl) rfl ?_
              refine hw_get (v := .int (x1)) (aX12_operand 86 rfl) wf_RX12_478 (c121 hS) (s121 hS) (by decide) (congrArg Value.int (show FI 121 68 = x1 from h2)) ?_
              obtain ⟨x1021, h1022⟩ : ∃ y, FL 150 (x1).toNatClampNeg = y := ⟨_, rfl⟩
              have h1022l := congrArg Int64.toInt h1022
              have := l_rng x1021
              refine hw_lald (v := x1021) (aX12_operand 87 rfl) (c150 hS) (s150 hS) (h_in rfl (by omega) (by omega)) (show FL 150 (x1).toNatClampNeg = x1021 from h1022) ?_
              refine hw_callV (Bs := [.long (x1021)]) (rest := []) (aX12_operand 88 rfl) wc_RX12_583 (by decide) rfl wi_yX12_push wv_yX12_push (c121 hS) (s121 hS) rfl rfl rfl (Nat.le_of_ble_eq_true rfl) (Nat.le_of_ble_eq_true rfl) (n_push (d := d + 1) hS hF hI (x1021) (by have := congrArg Int32.toInt (show FI 121 73 = x9 from h10); omega) (show rl_pm (FI 121 90) (FI 121 73) (FI 166) (FI 167) (FI 168) from rel_pm)) (fun v1023 sv1024 p1025 => ?_)
              have := congrArg Int32.toInt (show FI 121 73 = x9 from h10)
              have := congrArg Int32.toInt (show FI 121 73 = x9 from h10)
              obtain ⟨rfl, FI1027, rfl, hI1028, f1029, t1030, t1031, rl1032⟩ := p1025
              have rl1033 : rl_e (FI1027 149) (FI1027 121 67) := by rw [show FI1027 149 = FI 149 from gf_row f1029 (c149 hS) (s149 hS) rfl rfl, show FI1027 121 67 = FI 121 67 from gf_at f1029 (c121 hS) (s121 hS) rfl rfl]; exact rel_tend
              have rl1034 : rl_t (FI1027 149) (FL 150) := by rw [show FI1027 149 = FI 149 from gf_row f1029 (c149 hS) (s149 hS) rfl rfl]; exact rel_tok
              obtain ⟨x1035, h1036⟩ : ∃ y, FI1027 121 73 = y := ⟨_, rfl⟩
              have h1036l := congrArg Int32.toInt h1036
              have b1037 := gI_121_73 hI1028; rw [h1036] at b1037
              show hw base _ _ _ _ _ [] _ _
              refine hw_aloadn (aX12_operand 89 rfl) rfl ?_
              refine hw_aloadn (aX12_operand 90 rfl) rfl ?_
              refine hw_get (v := .int (x1)) (aX12_operand 91 rfl) wf_RX12_478 (c121 hS) (s121 hS) (by decide) (congrArg Value.int (show FI1027 121 68 = x1 from (gf_at f1029 (c121 hS) (s121 hS) rfl (h2)))) ?_
              refine hw_ic (v := (1 : Int32)) (aX12_operand 92 rfl) (by decide) ?_
              refine xw_iadd (aX12_operand 93 rfl) ?_
              refine hw_tie (A := ((x1).toInt) + (1)) (i_add rfl (by decide : (1 : Int32).toInt = 1) (by omega) (by omega)) (fun x1038 e1039 => ?_)
              refine hv_puti (aX12_operand 94 rfl) wf_RX12_478 (c121 hS) (s121 hS) (by decide) rfl rfl (fun FI1040 u1041 => ?_)
              have rl1042 : rl_e (FI1040 149) (FI1040 121 67) := by rw [show FI1040 149 = FI1027 149 from up_row u1041 (by decide) rfl, show FI1040 121 67 = FI1027 121 67 from up_k u1041 (by decide) rfl]; exact rl1033
              have rl1043 : rl_t (FI1040 149) (FL 150) := by rw [show FI1040 149 = FI1027 149 from up_row u1041 (by decide) rfl]; exact rl1034
              have rl1044 : rl_pm (FI1040 121 90) (FI1040 121 73) (FI1040 166) (FI1040 167) (FI1040 168) := by rw [show FI1040 166 = FI1027 166 from up_row u1041 (by decide) rfl, show FI1040 167 = FI1027 167 from up_row u1041 (by decide) rfl, show FI1040 168 = FI1027 168 from up_row u1041 (by decide) rfl, show FI1040 121 90 = FI1027 121 90 from up_k u1041 (by decide) rfl, show FI1040 121 73 = FI1027 121 73 from up_k u1041 (by decide) rfl]; exact rl1032
              have hI1045 : g_I FI1040 := gU_121_68 hI1028 u1041 (by have := (e1039 : (x1038).toInt = ((x1).toInt) + (1)); omega) (by have := (e1039 : (x1038).toInt = ((x1).toInt) + (1)); omega)
              refine xw_goto (tgt := 303) (aX12_operand 95 rfl) (by decide) ?_
              refine hw_aloadn (aX12_operand 156 rfl) rfl ?_
              refine hw_callV (Bs := []) (rest := []) (aX12_operand 157 rfl) wc_RX12_596 (by decide) rfl wi_yX12_finished wv_yX12_finished (c121 hS) (s121 hS) rfl rfl rfl (Nat.le_of_ble_eq_true rfl) (Nat.le_of_ble_eq_true rfl) (n_finished (d := d + 1) hS hF hI1045 (by have := congrArg Int32.toInt (show FI1040 121 73 = x1035 from (up_k u1041 (by decide) (h1036))); have := congrArg Int32.toInt (show FI1040 121 90 = x12 from (up_k u1041 (by decide) ((gf_at f1029 (c121 hS) (s121 hS) rfl (h13))))); omega) (by have := congrArg Int32.toInt (show FI1040 121 71 = x15 from (up_k u1041 (by decide) ((gf_at f1029 (c121 hS) (s121 hS) rfl (h16))))); have := congrArg Int32.toInt (show FI1040 121 71 = x15 from (up_k u1041 (by decide) ((gf_at f1029 (c121 hS) (s121 hS) rfl (h16))))); omega) (show rl_pm (FI1040 121 90) (FI1040 121 73) (FI1040 166) (FI1040 167) (FI1040 168) from rl1044)) (fun v1046 sv1047 p1048 => ?_)
              have := congrArg Int32.toInt (show FI1040 121 90 = x12 from (up_k u1041 (by decide) ((gf_at f1029 (c121 hS) (s121 hS) rfl (h13)))))
              have := congrArg Int32.toInt (show FI1040 121 73 = x1035 from (up_k u1041 (by decide) (h1036)))
              have := congrArg Int32.toInt (show FI1040 121 90 = x12 from (up_k u1041 (by decide) ((gf_at f1029 (c121 hS) (s121 hS) rfl (h13)))))
              have := congrArg Int32.toInt (show FI1040 121 73 = x1035 from (up_k u1041 (by decide) (h1036)))
              have := congrArg Int32.toInt (show FI1040 121 71 = x15 from (up_k u1041 (by decide) ((gf_at f1029 (c121 hS) (s121 hS) rfl (h16)))))
              have := congrArg Int32.toInt (show FI1040 121 90 = x12 from (up_k u1041 (by decide) ((gf_at f1029 (c121 hS) (s121 hS) rfl (h13)))))
              obtain ⟨rfl, FI1050, rfl, hI1051, f1052, t1053, t1054, t1055, t1056, u1057, rl1058⟩ := p1048
              have rl1059 : rl_e (FI1050 149) (FI1050 121 67) := by rw [show FI1050 149 = FI1040 149 from gf_row f1052 (c149 hS) (s149 hS) rfl rfl, show FI1050 121 67 = FI1040 121 67 from gf_at f1052 (c121 hS) (s121 hS) rfl rfl]; exact rl1042
              have rl1060 : rl_t (FI1050 149) (FL 150) := by rw [show FI1050 149 = FI1040 149 from gf_row f1052 (c149 hS) (s149 hS) rfl rfl]; exact rl1043
              obtain ⟨x1061, h1062⟩ : ∃ y, FI1050 121 90 = y := ⟨_, rfl⟩
              have h1062l := congrArg Int32.toInt h1062
              have b1063 := gI_121_90 hI1051; rw [h1062] at b1063
              obtain ⟨x1064, h1065⟩ : ∃ y, FI1050 121 73 = y := ⟨_, rfl⟩
              have h1065l := congrArg Int32.toInt h1065
              have b1066 := gI_121_73 hI1051; rw [h1065] at b1066
              obtain ⟨x1067, h1068⟩ : ∃ y, FI1050 121 71 = y := ⟨_, rfl⟩
              have h1068l := congrArg Int32.toInt h1068
              have := i_rng x1067
              show hw base _ _ _ _ _ [] _ _
              refine hw_ic (v := (1 : Int32)) (aX12_operand 158 rfl) (by decide) ?_
              refine xw_iret (aX12_operand 159 rfl) rfl (by decide) ?_
              have e1069 : ((1 : Int32)).toInt = 1 := (by decide : (1 : Int32).toInt = 1)
              exact ⟨(1 : Int32), rfl, FI1050, rfl, hI1051, (gf_tr ex_rf (gf_f (gf_tr ex_rf gf_rf f1029 rfl rfl rfl) u1041 (by decide)) f1052 rfl rfl rfl), (by have : ((1 : Int32)).toInt = 1 := (by decide); have := congrArg Int32.toInt (show FI1050 121 67 = x4 from (gf_at f1052 (c121 hS) (s121 hS) rfl ((up_k u1041 (by decide) ((gf_at f1029 (c121 hS) (s121 hS) rfl (h5))))))); have := congrArg Int32.toInt (show FI1050 121 68 = x1038 from (gf_at f1052 (c121 hS) (s121 hS) rfl (up_eq u1041))); have := (e1039 : (x1038).toInt = ((x1).toInt) + (1)); omega), (by have : ((1 : Int32)).toInt = 1 := (by decide); have := congrArg Int32.toInt (show FI1050 121 68 = x1038 from (gf_at f1052 (c121 hS) (s121 hS) rfl (up_eq u1041))); have := (e1039 : (x1038).toInt = ((x1).toInt) + (1)); omega), (by have : ((1 : Int32)).toInt = 1 := (by decide); have := congrArg Int32.toInt (show FI1050 121 68 = x1038 from (gf_at f1052 (c121 hS) (s121 hS) rfl (up_eq u1041))); have := (e1039 : (x1038).toInt = ((x1).toInt) + (1)); have := congrArg Int32.toInt (show FI1050 121 73 = x1064 from h1065); have := congrArg Int32.toInt (show FI1050 121 90 = x1061 from h1062); omega), (by have : ((1 : Int32)).toInt = 1 := (by decide); have := congrArg Int32.toInt (show FI1050 121 73 = x1064 from h1065); omega), (by have : ((1 : Int32)).toInt = 1 := (by decide); have := congrArg Int32.toInt (show FI1050 121 68 = x1038 from (gf_at f1052 (c121 hS) (s121 hS) rfl (up_eq u1041))); have := (e1039 : (x1038).toInt = ((x1).toInt) + (1)); have := congrArg Int32.toInt (show FI1050 121 69 = x7 from (gf_at f1052 (c121 hS) (s121 hS) rfl ((up_k u1041 (by decide) ((gf_at f1029 (c121 hS) (s121 hS) rfl (h8))))))); have := congrArg Int32.toInt (show FI1050 121 71 = x1067 from h1068); omega), (by have : ((1 : Int32)).toInt = 1 := (by decide); have := congrArg Int32.toInt (show FI1050 121 90 = x1061 from h1062); omega), (by have : ((1 : Int32)).toInt = 1 := (by decide); have := congrArg Int32.toInt (show FI1050 121 71 = x1067 from h1068); omega), (by have : ((1 : Int32)).toInt = 1 := (by decide); omega), (by have := congrArg Int32.toInt (show FI1050 121 68 = x1038 from (gf_at f1052 (c121 hS) (s121 hS) rfl (up_eq u1041))); have := (e1039 : (x1038).toInt = ((x1).toInt) + (1)); have := congrArg Int32.toInt (show FI1050 121 69 = x7 from (gf_at f1052 (c121 hS) (s121 hS) rfl ((up_k u1041 (by decide) ((gf_at f1029 (c121 hS) (s121 hS) rfl (h8))))))); have hm : (sk (FI1050 166) (FI1050 121 90).toInt.toNat) = au_fin (sk (FI 166) (FI 121 90).toInt.toNat) := (by rw [show FI1050 166 = FI 166 from (gf_row f1052 (c166 hS) (s166 hS) rfl ((up_row u1041 (by decide) ((gf_row f1029 (c166 hS) (s166 hS) rfl (rfl))))))]; have hh := u1057; rw [show FI1040 166 = FI 166 from (up_row u1041 (by decide) ((gf_row f1029 (c166 hS) (s166 hS) rfl (rfl)))), show FI1040 121 90 = FI 121 90 from ((up_k u1041 (by decide) ((gf_at f1029 (c121 hS) (s121 hS) rfl (h13))))).trans (h13).symm] at hh; exact hh); exact fun _ => Or.inr ⟨by decide, (FI 121 68).toInt.toNat + 1, Or.inr (Or.inr (Or.inl ⟨rfl, Or.inl hk3, rfl, rfl, hm⟩)), Or.inl (by omega)⟩), (by have := congrArg Int32.toInt (show FI1050 121 69 = x7 from (gf_at f1052 (c121 hS) (s121 hS) rfl ((up_k u1041 (by decide) ((gf_at f1029 (c121 hS) (s121 hS) rfl (h8))))))); have := congrArg Int32.toInt (show FI1050 121 71 = x1067 from h1068); have := congrArg Int32.toInt (show FI1050 121 90 = x1061 from h1062); rw [show FI1050 166 = FI 166 from (gf_row f1052 (c166 hS) (s166 hS) rfl ((up_row u1041 (by decide) ((gf_row f1029 (c166 hS) (s166 hS) rfl (rfl))))))]; have hh := u1057; rw [show FI1040 166 = FI 166 from (up_row u1041 (by decide) ((gf_row f1029 (c166 hS) (s166 hS) rfl (rfl)))), show FI1040 121 90 = FI 121 90 from ((up_k u1041 (by decide) ((gf_at f1029 (c121 hS) (s121 hS) rfl (h13))))).trans (h13).symm] at hh; exact fun _ => sk_ops hh (by omega) (by omega) (by omega)), (show rl_pm (FI1050 121 90) (FI1050 121 73) (FI1050 166) (FI1050 167) (FI1050 168) from rl1058)⟩
          · replace t612 := t612 (by omega)
            have hbr := u614.mp (by omega); rw [show ((40 : Int32)).toInt = (40 : Int) from by decide] at hbr
            refine hw_aloadn (aX12_operand 67 rfl) rfl ?_
            refine hw_callV (Bs := []) (rest := []) (aX12_operand 68 rfl) wc_RX12_538 (by decide) rfl wi_yX12_opens wv_yX12_opens (c121 hS) (s121 hS) rfl rfl rfl (Nat.le_of_ble_eq_true rfl) (Nat.le_of_ble_eq_true rfl) (n_opens (d := d + 2) hS hF hI (by have := congrArg Int32.toInt (show FI 121 68 = x1 from h2); have := congrArg Int32.toInt (show FI 121 67 = x4 from h5); omega) (by have := congrArg Int32.toInt (show FI 121 71 = x15 from h16); have := congrArg Int32.toInt (show FI 121 71 = x15 from h16); omega)) (fun v1070 sv1071 p1072 => ?_)
            have := congrArg Int32.toInt (show FI 121 68 = x1 from h2)
            have := congrArg Int32.toInt (show FI 121 71 = x15 from h16)
            have := congrArg Int32.toInt (show FI 121 71 = x15 from h16)
            have := congrArg Int32.toInt (show FI 121 69 = x7 from h8)
            obtain ⟨rfl, FI1074, rfl, hI1075, f1076, t1077, t1078, t1079⟩ := p1072
            have rl1080 : rl_e (FI1074 149) (FI1074 121 67) := by rw [show FI1074 149 = FI 149 from gf_row f1076 (c149 hS) (s149 hS) rfl rfl, show FI1074 121 67 = FI 121 67 from gf_at f1076 (c121 hS) (s121 hS) rfl rfl]; exact rel_tend
            have rl1081 : rl_t (FI1074 149) (FL 150) := by rw [show FI1074 149 = FI 149 from gf_row f1076 (c149 hS) (s149 hS) rfl rfl]; exact rel_tok
            have rl1082 : rl_pm (FI1074 121 90) (FI1074 121 73) (FI1074 166) (FI1074 167) (FI1074 168) := by rw [show FI1074 166 = FI 166 from gf_row f1076 (c166 hS) (s166 hS) rfl rfl, show FI1074 167 = FI 167 from gf_row f1076 (c167 hS) (s167 hS) rfl rfl, show FI1074 168 = FI 168 from gf_row f1076 (c168 hS) (s168 hS) rfl rfl, show FI1074 121 90 = FI 121 90 from gf_at f1076 (c121 hS) (s121 hS) rfl rfl, show FI1074 121 73 = FI 121 73 from gf_at f1076 (c121 hS) (s121 hS) rfl rfl]; exact rel_pm
            obtain ⟨x1083, h1084⟩ : ∃ y, FI1074 121 68 = y := ⟨_, rfl⟩
            have h1084l := congrArg Int32.toInt h1084
            have b1085 := gI_121_68 hI1075; rw [h1084] at b1085
            obtain ⟨x1086, h1087⟩ : ∃ y, FI1074 121 71 = y := ⟨_, rfl⟩
            have h1087l := congrArg Int32.toInt h1087
            have := i_rng x1086
            obtain ⟨x1088, h1089⟩ : ∃ y, FI1074 121 69 = y := ⟨_, rfl⟩
            have h1089l := congrArg Int32.toInt h1089
            have := i_rng x1088
            show hw base _ _ _ _ _ [] _ _
            refine hw_aloadn (aX12_operand 69 rfl) rfl ?_
            refine hw_ic (v := (0 : Int32)) (aX12_operand 70 rfl) (by decide) ?_
            refine hw_ic (v := ((-1) : Int32)) (aX12_operand 71 rfl) (by decide) ?_
            refine hw_callV (Bs := [.int ((0 : Int32)), .int (((-1) : Int32))]) (rest := []) (aX12_operand 72 rfl) wc_RX12_580 (by decide) rfl wi_yX12_later wv_yX12_later (c121 hS) (s121 hS) rfl rfl rfl (Nat.le_of_ble_eq_true rfl) (Nat.le_of_ble_eq_true rfl) (n_later (d := d + 3) hS hF hI1075 ((0 : Int32)) (((-1) : Int32)) (by have := congrArg Int32.toInt (show FI1074 121 90 = x12 from (gf_at f1076 (c121 hS) (s121 hS) rfl (h13))); omega) (by have := ((by decide : ((-1) : Int32).toInt = (-1)) : (((-1) : Int32)).toInt = (-1)); have := ((by decide : ((-1) : Int32).toInt = (-1)) : (((-1) : Int32)).toInt = (-1)); omega) (show rl_pm (FI1074 121 90) (FI1074 121 73) (FI1074 166) (FI1074 167) (FI1074 168) from rl1082)) (fun v1090 sv1091 p1092 => ?_)
            have := congrArg Int32.toInt (show FI1074 121 90 = x12 from (gf_at f1076 (c121 hS) (s121 hS) rfl (h13)))
            obtain ⟨rfl, FI1094, rfl, hI1095, f1096, t1097, u1098, u1099, rl1100⟩ := p1092
            have rl1101 : rl_e (FI1094 149) (FI1094 121 67) := by rw [show FI1094 149 = FI1074 149 from gf_row f1096 (c149 hS) (s149 hS) rfl rfl, show FI1094 121 67 = FI1074 121 67 from gf_at f1096 (c121 hS) (s121 hS) rfl rfl]; exact rl1080
            have rl1102 : rl_t (FI1094 149) (FL 150) := by rw [show FI1094 149 = FI1074 149 from gf_row f1096 (c149 hS) (s149 hS) rfl rfl]; exact rl1081
            obtain ⟨x1103, h1104⟩ : ∃ y, FI1094 121 90 = y := ⟨_, rfl⟩
            have h1104l := congrArg Int32.toInt h1104
            have b1105 := gI_121_90 hI1095; rw [h1104] at b1105
            show hw base _ _ _ _ _ [] _ _
            refine hw_ic (v := (0 : Int32)) (aX12_operand 73 rfl) (by decide) ?_
            refine xw_iret (aX12_operand 74 rfl) rfl (by decide) ?_
            have e1106 : ((0 : Int32)).toInt = 0 := (by decide : (0 : Int32).toInt = 0)
            exact ⟨(0 : Int32), rfl, FI1094, rfl, hI1095, (gf_tr ex_rf (gf_tr ex_rf gf_rf f1076 rfl rfl rfl) f1096 rfl rfl rfl), (by have : ((0 : Int32)).toInt = 0 := (by decide); have := congrArg Int32.toInt (show FI1094 121 67 = x4 from (gf_at f1096 (c121 hS) (s121 hS) rfl ((gf_at f1076 (c121 hS) (s121 hS) rfl (h5))))); have := congrArg Int32.toInt (show FI1094 121 68 = x1083 from (gf_at f1096 (c121 hS) (s121 hS) rfl (h1084))); omega), (by have : ((0 : Int32)).toInt = 0 := (by decide); have := congrArg Int32.toInt (show FI1094 121 68 = x1083 from (gf_at f1096 (c121 hS) (s121 hS) rfl (h1084))); omega), (by have : ((0 : Int32)).toInt = 0 := (by decide); have := congrArg Int32.toInt (show FI1094 121 68 = x1083 from (gf_at f1096 (c121 hS) (s121 hS) rfl (h1084))); have := congrArg Int32.toInt (show FI1094 121 73 = x9 from (gf_at f1096 (c121 hS) (s121 hS) rfl ((gf_at f1076 (c121 hS) (s121 hS) rfl (h10))))); have := congrArg Int32.toInt (show FI1094 121 90 = x1103 from h1104); omega), (by have : ((0 : Int32)).toInt = 0 := (by decide); have := congrArg Int32.toInt (show FI1094 121 73 = x9 from (gf_at f1096 (c121 hS) (s121 hS) rfl ((gf_at f1076 (c121 hS) (s121 hS) rfl (h10))))); omega), (by have : ((0 : Int32)).toInt = 0 := (by decide); have := congrArg Int32.toInt (show FI1094 121 68 = x1083 from (gf_at f1096 (c121 hS) (s121 hS) rfl (h1084))); have := congrArg Int32.toInt (show FI1094 121 69 = x1088 from (gf_at f1096 (c121 hS) (s121 hS) rfl (h1089))); have := congrArg Int32.toInt (show FI1094 121 71 = x1086 from (gf_at f1096 (c121 hS) (s121 hS) rfl (h1087))); omega), (by have : ((0 : Int32)).toInt = 0 := (by decide); have := congrArg Int32.toInt (show FI1094 121 90 = x1103 from h1104); omega), (by have : ((0 : Int32)).toInt = 0 := (by decide); have := congrArg Int32.toInt (show FI1094 121 71 = x1086 from (gf_at f1096 (c121 hS) (s121 hS) rfl (h1087))); omega), (by have : ((0 : Int32)).toInt = 0 := (by decide); omega), (by have := congrArg Int32.toInt (show FI1094 121 68 = x1083 from (gf_at f1096 (c121 hS) (s121 hS) rfl (h1084))); have := congrArg Int32.toInt (show FI1094 121 69 = x1088 from (gf_at f1096 (c121 hS) (s121 hS) rfl (h1089))); have hm : (sk (FI1094 166) (FI1094 121 90).toInt.toNat) = -1 :: (sk (FI 166) (FI 121 90).toInt.toNat) := (by rw [u1099, show FI1074 166 = FI 166 from (gf_row f1076 (c166 hS) (s166 hS) rfl (rfl)), show FI1074 121 90 = FI 121 90 from ((gf_at f1076 (c121 hS) (s121 hS) rfl (h13))).trans (h13).symm, show ((-1 : Int32)).toInt = (-1 : Int) from by decide]); exact fun _ => Or.inl ⟨by decide, Or.inr (Or.inl ⟨rfl, hbr.1, hbr.2, by omega, rfl, hm⟩)⟩), (by have := congrArg Int32.toInt (show FI1094 121 69 = x1088 from (gf_at f1096 (c121 hS) (s121 hS) rfl (h1089))); have := congrArg Int32.toInt (show FI1094 121 71 = x1086 from (gf_at f1096 (c121 hS) (s121 hS) rfl (h1087))); have hm : (sk (FI1094 166) (FI1094 121 90).toInt.toNat) = -1 :: (sk (FI 166) (FI 121 90).toInt.toNat) := (by rw [u1099, show FI1074 166 = FI 166 from (gf_row f1076 (c166 hS) (s166 hS) rfl (rfl)), show FI1074 121 90 = FI 121 90 from ((gf_at f1076 (c121 hS) (s121 hS) rfl (h13))).trans (h13).symm, show ((-1 : Int32)).toInt = (-1 : Int) from by decide]); rw [hm]; intro _; simp only [au_op]; rw [if_neg (by decide)]; omega), (show rl_pm (FI1094 121 90) (FI1094 121 73) (FI1094 166) (FI1094 167) (FI1094 168) from rl1100)⟩
        · replace t603 := t603 (by omega)
          exact hw_L (j480 (show au_un (kf (FI 149) (FI 121 68).toInt.toNat) (wf (FL 150) (FI 121 68).toInt.toNat) from (by { have h := u605.mp (by omega); have hc : ((7 : Int32)).toInt = 7 := (by decide); rw [hc] at h; exact Or.inr (Or.inr h) })) (by show (x1).toInt < (x4).toInt - 1; omega)) ⟨rfl, trivial⟩
