def nX12_operator : Nat := 0xac6f02b62aac044f1c64042c02b42aa000b42a4402b6fe10032a1a02b62af901b605092a3ded01b42af001b628102a3602b6042a320099e401b63f102aac6202b60421102a0b0099e401b67c102aac6202b60527102a0b0099e401b65e102aac6202b6061a102a0b0099e401b626102aac030400a7040700996202b6071b2a10009adb01b42ae701b6042a0800a0072f02b62a3602b6082a2b009f021b3c6c02b62fde01b42a6c00b42a2ede01b42a6900b42a2aac6202b6081b2a0a009f021b3c6902b62fde01b42a6c00b42a2ede01b42a6900b42a2aac6602b62a0800995702b6de01b42a2aac6202b607101b2a0b009f021b3c5f02b62fde01b42a6c00b42a2ede01b42a6900b42a2a4102b5032a
theorem bX12_operator : cX12_operator.data.toList.map UInt8.toNat = x_un nX12_operator 272 := by decide +kernel
def iX12_operator : List (Nat × Jvm.ClassFile.Instr × Nat) := [(0, .aload_n 0, 1), (1, .iconst 0, 1), (2, .putfield 577, 3), (5, .aload_n 0, 1), (6, .aload_n 0, 1), (7, .getfield 105, 3), (10, .aload_n 0, 1), (11, .getfield 478, 3), (14, .iaload, 1), (15, .aload_n 0, 1), (16, .getfield 108, 3), (19, .aload_n 0, 1), (20, .getfield 478, 3), (23, .laload, 1), (24, .invokevirtual 607, 3), (27, .istore_n 1, 1), (28, .iload_n 1, 1), (29, .iconst (-1), 1), (30, .if_icmp .eq 11, 3), (33, .aload_n 0, 1), (34, .iload_n 1, 1), (35, .bipush 7, 2), (37, .invokevirtual 610, 3), (40, .ireturn, 1), (41, .aload_n 0, 1), (42, .aload_n 0, 1), (43, .getfield 478, 3), (46, .invokevirtual 599, 3), (49, .ifCond .eq 8, 3), (52, .aload_n 0, 1), (53, .invokevirtual 614, 3), (56, .ireturn, 1), (57, .aload_n 0, 1), (58, .aload_n 0, 1), (59, .getfield 105, 3), (62, .aload_n 0, 1), (63, .getfield 478, 3), (66, .iaload, 1), (67, .aload_n 0, 1), (68, .getfield 108, 3), (71, .aload_n 0, 1), (72, .getfield 478, 3), (75, .laload, 1), (76, .invokevirtual 617, 3), (79, .istore_n 1, 1), (80, .iload_n 1, 1), (81, .iconst (-1), 1), (82, .if_icmp .eq 10, 3), (85, .aload_n 0, 1), (86, .iload_n 1, 1), (87, .iconst 5, 1), (88, .invokevirtual 610, 3), (91, .ireturn, 1), (92, .aload_n 0, 1), (93, .aload_n 0, 1), (94, .getfield 105, 3), (97, .aload_n 0, 1), (98, .getfield 478, 3), (101, .iaload, 1), (102, .aload_n 0, 1), (103, .getfield 108, 3), (106, .aload_n 0, 1), (107, .getfield 478, 3), (110, .laload, 1), (111, .invokevirtual 620, 3), (114, .istore_n 1, 1), (115, .iload_n 1, 1), (116, .iconst (-1), 1), (117, .if_icmp .eq 43, 3), (120, .aload_n 0, 1), (121, .iconst 5, 1), (122, .invokevirtual 566, 3), (125, .aload_n 0, 1), (126, .invokevirtual 559, 3), (129, .iconst 4, 1), (130, .if_icmp .ne 8, 3), (133, .aload_n 0, 1), (134, .iconst 1, 1), (135, .invokevirtual 487, 3), (138, .aload_n 0, 1), (139, .getfield 475, 3), (142, .ifCond .ne 16, 3), (145, .aload_n 0, 1), (146, .iload_n 1, 1), (147, .iconst 4, 1), (148, .invokevirtual 610, 3), (151, .ifCond .eq 7, 3), (154, .iconst 1, 1), (155, .goto 4, 3), (158, .iconst 0, 1), (159, .ireturn, 1), (160, .aload_n 0, 1), (161, .bipush 38, 2), (163, .invokevirtual 484, 3), (166, .ifCond .eq 11, 3), (169, .aload_n 0, 1), (170, .bipush 26, 2), (172, .iconst 3, 1), (173, .invokevirtual 610, 3), (176, .ireturn, 1), (177, .aload_n 0, 1), (178, .bipush 94, 2), (180, .invokevirtual 484, 3), (183, .ifCond .eq 11, 3), (186, .aload_n 0, 1), (187, .bipush 39, 2), (189, .iconst 2, 1), (190, .invokevirtual 610, 3), (193, .ireturn, 1), (194, .aload_n 0, 1), (195, .bipush 124, 2), (197, .invokevirtual 484, 3), (200, .ifCond .eq 11, 3), (203, .aload_n 0, 1), (204, .bipush 33, 2), (206, .iconst 1, 1), (207, .invokevirtual 610, 3), (210, .ireturn, 1), (211, .aload_n 0, 1), (212, .bipush 63, 2), (214, .invokevirtual 484, 3), (217, .ifCond .eq 50, 3), (220, .aload_n 0, 1), (221, .iconst 1, 1), (222, .invokevirtual 566, 3), (225, .aload_n 0, 1), (226, .bipush 40, 2), (228, .invokevirtual 496, 3), (231, .aload_n 0, 1), (232, .getfield 493, 3), (235, .istore_n 2, 1), (236, .aload_n 0, 1), (237, .lconst 0, 1), (238, .iconst 2, 1), (239, .invokevirtual 505, 3), (242, .aload_n 0, 1), (243, .invokevirtual 538, 3), (246, .aload_n 0, 1), (247, .iconst 0, 1), (248, .bipush (-2), 2), (250, .invokevirtual 580, 3), (253, .aload_n 0, 1), (254, .getfield 160, 3), (257, .aload_n 0, 1), (258, .getfield 556, 3), (261, .iconst 1, 1), (262, .isub, 1), (263, .iload_n 2, 1), (264, .iastore, 1), (265, .iconst 1, 1), (266, .ireturn, 1), (267, .aload_n 0, 1), (268, .invokevirtual 623, 3), (271, .ireturn, 1)]
theorem dX12_operator : x_il nX12_operator 272 iX12_operator = true := by decide +kernel
theorem aX12_operator (k : Nat) {pc : Nat} {i : Jvm.ClassFile.Instr} {len : Nat} (hk : iX12_operator[k]? = some (pc, i, len)) : x_at xMM 242 pc i len yX12_operator 3 (some .boolean) := ⟨cX12_operator, rfl, x_il_ok bX12_operator dX12_operator k hk⟩
set_option maxHeartbeats 4000000 in
set_option maxRecDepth 100000 in
theorem n_operator {base d n sl : Nat} {SH : Nat → Nat × Nat} {FI : Nat → Nat → Int32} {FL : Nat → Nat → Int64} {FR : Nat → Nat → Option Nat} (hS : h_S n SH) (hF : h_FR FR) (hI : g_I FI) (g0 : (FI 121 68).toInt ≤ (FI 121 67).toInt - 1) (g1 : (FI 121 69).toInt = 0) (g2 : (FI 121 73).toInt + 4 * (FI 121 90).toInt ≤ 27000) (g3 : (FI 121 90).toInt ≤ 200) (g4 : 0 ≤ (FI 121 71).toInt ∧ (FI 121 71).toInt ≤ 12) (gg0 : au_ok (sk (FI 166) (FI 121 90).toInt.toNat)) (gg1 : ∀ y r, (sk (FI 166) (FI 121 90).toInt.toNat) = y :: r → y ≠ 9) (rel_tend : rl_e (FI 149) (FI 121 67)) (rel_tok : rl_t (FI 149) (FL 150)) (rel_pm : rl_pm (FI 121 90) (FI 121 73) (FI 166) (FI 167) (FI 168)) : hw base (d + 5) none 242 0 [(0, .ref (base + 121))] [] (n, sl, SH, FI, FL, FR) (h_I (fun r s => ∃ FI', s = (n, sl, SH, FI', FL, FR) ∧ g_I FI' ∧ g_fr n SH [(121, 68), (121, 69), (121, 70), (121, 71), (121, 73), (121, 90), (121, 91)] [154, 164, 165, 166, 167, 168] [] FI FI' ∧ ((FI' 121 68).toInt ≤ (FI' 121 67).toInt - 1) ∧ ((FI 121 68).toInt ≤ (FI' 121 68).toInt) ∧ ((FI' 121 73).toInt + 4 * (FI' 121 90).toInt ≤ (FI 121 73).toInt + 4 * (FI 121 90).toInt + 20 * ((FI' 121 68).toInt - (FI 121 68).toInt)) ∧ ((FI 121 73).toInt ≤ (FI' 121 73).toInt) ∧ ((FI' 121 90).toInt ≤ (FI 121 90).toInt + 1) ∧ (r.toInt = 1 → (FI 121 68).toInt < (FI' 121 68).toInt) ∧ ((FI' 121 69).toInt = 0 → (FI' 121 71).toInt ≤ 12) ∧ (0 ≤ r.toInt ∧ r.toInt ≤ 1) ∧ ((FI' 121 69).toInt = 0 → (r.toInt = 1 → co_opr (kf (FI 149)) (wf (FL 150)) (FI 121 68).toInt.toNat (sk (FI 166) (FI 121 90).toInt.toNat) (FI' 121 68).toInt.toNat (FI' 121 91).toInt (sk (FI' 166) (FI' 121 90).toInt.toNat)) ∧ (r.toInt = 0 → co_end (kf (FI 149)) (wf (FL 150)) (FI 121 68).toInt.toNat (sk (FI 166) (FI 121 90).toInt.toNat) ∧ (FI' 121 68).toInt.toNat = (FI 121 68).toInt.toNat)) ∧ ((FI' 121 69).toInt = 0 → (FI' 121 71).toInt - (au_op (sk (FI' 166) (FI' 121 90).toInt.toNat) : Int) = (FI 121 71).toInt - (au_op (sk (FI 166) (FI 121 90).toInt.toNat) : Int)) ∧ (rl_pm (FI' 121 90) (FI' 121 73) (FI' 166) (FI' 167) (FI' 168)))) := by
  obtain ⟨x1, h2⟩ : ∃ y, FI 121 68 = y := ⟨_, rfl⟩
  have h2l := congrArg Int32.toInt h2
  have b3 := gI_121_68 hI; rw [h2] at b3
  obtain ⟨x4, h5⟩ : ∃ y, FI 121 67 = y := ⟨_, rfl⟩
  have h5l := congrArg Int32.toInt h5
  have b6 := gI_121_67 hI; rw [h5] at b6
  obtain ⟨x7, h8⟩ : ∃ y, FI 121 69 = y := ⟨_, rfl⟩
  have h8l := congrArg Int32.toInt h8
  have := i_rng x7
  obtain ⟨x9, h10⟩ : ∃ y, FI 121 73 = y := ⟨_, rfl⟩
  have h10l := congrArg Int32.toInt h10
  have b11 := gI_121_73 hI; rw [h10] at b11
  obtain ⟨x12, h13⟩ : ∃ y, FI 121 90 = y := ⟨_, rfl⟩
  have h13l := congrArg Int32.toInt h13
  have b14 := gI_121_90 hI; rw [h13] at b14
  obtain ⟨x15, h16⟩ : ∃ y, FI 121 71 = y := ⟨_, rfl⟩
  have h16l := congrArg Int32.toInt h16
  have := i_rng x15
  obtain ⟨x17, h18⟩ : ∃ y, FI 121 91 = y := ⟨_, rfl⟩
  have h18l := congrArg Int32.toInt h18
  have b19 := gI_121_91 hI; rw [h18] at b19
  have e20 : 0 ≤ (x15).toInt ∧ (x15).toInt ≤ 12 := by omega
  have e21 : 0 ≤ (x7).toInt ∧ (x7).toInt ≤ 0 := by omega
  refine hw_aloadn (aX12_operator 0 rfl) rfl ?_
  refine hw_ic (v := (0 : Int32)) (aX12_operator 1 rfl) (by decide) ?_
  refine hv_putz (aX12_operator 2 rfl) wf_RX12_577 (c121 hS) (s121 hS) (by decide) rfl rfl (by decide) (fun FI22 u23 => ?_)
  have rl24 : rl_e (FI22 149) (FI22 121 67) := by rw [show FI22 149 = FI 149 from up_row u23 (by decide) rfl, show FI22 121 67 = FI 121 67 from up_k u23 (by decide) rfl]; exact rel_tend
  have rl25 : rl_t (FI22 149) (FL 150) := by rw [show FI22 149 = FI 149 from up_row u23 (by decide) rfl]; exact rel_tok
  have rl26 : rl_pm (FI22 121 90) (FI22 121 73) (FI22 166) (FI22 167) (FI22 168) := by rw [show FI22 166 = FI 166 from up_row u23 (by decide) rfl, show FI22 167 = FI 167 from up_row u23 (by decide) rfl, show FI22 168 = FI 168 from up_row u23 (by decide) rfl, show FI22 121 90 = FI 121 90 from up_k u23 (by decide) rfl, show FI22 121 73 = FI 121 73 from up_k u23 (by decide) rfl]; exact rel_pm
  have hI27 : g_I FI22 := gU_121_91 hI u23 (by have := ((by decide : (0 : Int32).toInt = 0) : ((0 : Int32)).toInt = 0); omega) (by have := ((by decide : (0 : Int32).toInt = 0) : ((0 : Int32)).toInt = 0); omega)
  refine hw_aloadn (aX12_operator 3 rfl) rfl ?_
  refine hw_aloadn (aX12_operator 4 rfl) rfl ?_
  refine hw_get (v := .ref (base + 149)) (aX12_operator 5 rfl) wf_RX12_105 (c121 hS) (s121 hS) (by decide) (congrArg (fun r => va_rf (h_rf base r)) (r121_62 hF)) ?_
  refine hw_aloadn (aX12_operator 6 rfl) rfl ?_
  refine hw_get (v := .int (x1)) (aX12_operator 7 rfl) wf_RX12_478 (c121 hS) (s121 hS) (by decide) (congrArg Value.int (show FI22 121 68 = x1 from (up_k u23 (by decide) (h2)))) ?_
  obtain ⟨x28, h29⟩ : ∃ y, FI22 149 (x1).toNatClampNeg = y := ⟨_, rfl⟩
  have h29l := congrArg Int32.toInt h29
  have := i_rng x28
  refine hw_iald (v := x28) (aX12_operator 8 rfl) (c149 hS) (s149 hS) (h_in rfl (by omega) (by omega)) (show FI22 149 (x1).toNatClampNeg = x28 from h29) ?_
  refine hw_aloadn (aX12_operator 9 rfl) rfl ?_
  refine hw_get (v := .ref (base + 150)) (aX12_operator 10 rfl) wf_RX12_108 (c121 hS) (s121 hS) (by decide) (congrArg (fun r => va_rf (h_rf base r)) (r121_63 hF)) ?_
  refine hw_aloadn (aX12_operator 11 rfl) rfl ?_
  refine hw_get (v := .int (x1)) (aX12_operator 12 rfl) wf_RX12_478 (c121 hS) (s121 hS) (by decide) (congrArg Value.int (show FI22 121 68 = x1 from (up_k u23 (by decide) (h2)))) ?_
  obtain ⟨x30, h31⟩ : ∃ y, FL 150 (x1).toNatClampNeg = y := ⟨_, rfl⟩
  have h31l := congrArg Int64.toInt h31
  have := l_rng x30
  refine hw_lald (v := x30) (aX12_operator 13 rfl) (c150 hS) (s150 hS) (h_in rfl (by omega) (by omega)) (show FL 150 (x1).toNatClampNeg = x30 from h31) ?_
  refine hw_callV (Bs := [.int (x28), .long (x30)]) (rest := []) (aX12_operator 14 rfl) wc_RX12_607 (by decide) rfl wi_yX12_multiplies wv_yX12_multiplies (c121 hS) (s121 hS) rfl rfl rfl (Nat.le_of_ble_eq_true rfl) (Nat.le_of_ble_eq_true rfl) (n_multiplies (d := d + 4) hS hF hI27 (x28) (x30) ) (fun v32 sv33 p34 => ?_)
  obtain ⟨r35, rfl, rfl, t37, t38, t39⟩ := p34
  have rg_r35 := i_rng r35
  show hw base _ _ _ _ _ [.int (r35)] _ _
  refine xw_istoren (L2 := [(1, .int (r35)), (0, .ref (base + 121))]) (aX12_operator 15 rfl) (by decide) rfl ?_
  have ee1 : (FI22 121 68).toInt.toNat = (x1).toNatClampNeg := (i_cl (congrArg Int32.toInt ((up_k u23 (by decide) (h2)))).symm).symm
  have hk1 : kf (FI22 149) (FI22 121 68).toInt.toNat = (x28).toInt := by unfold kf; rw [ee1, show FI22 149 (x1).toNatClampNeg = x28 from h29]
  have hw1 : wf (FL 150) (FI22 121 68).toInt.toNat = (x30).toInt := by unfold wf; rw [ee1, show FL 150 (x1).toNatClampNeg = x30 from h31]
  have hnn := fun h => rl_e_ne rl24 (t := x1) h
  have := congrArg Int32.toInt (show FI22 121 67 = x4 from (up_k u23 (by decide) (h5)))
  refine xw_iloadn (aX12_operator 16 rfl) rfl ?_
  refine hw_ic (v := ((-1) : Int32)) (aX12_operator 17 rfl) (by decide) ?_
  refine hw_iceq (tgt := 41) (aX12_operator 18 rfl) (by decide) rfl (by decide : ((-1) : Int32).toInt = (-1)) (fun cd40 => ?_) (fun cd40 => ?_)
  · have nb7 : au_bn (kf (FI22 149) (FI22 121 68).toInt.toNat) (wf (FL 150) (FI22 121 68).toInt.toNat) ≠ 7 := fun h => by rw [hk1, hw1] at h; exact absurd (hid_e t39 (au_bn_7.mp h)) (by omega)
    refine hw_aloadn (aX12_operator 24 rfl) rfl ?_
    refine hw_aloadn (aX12_operator 25 rfl) rfl ?_
    refine hw_get (v := .int (x1)) (aX12_operator 26 rfl) wf_RX12_478 (c121 hS) (s121 hS) (by decide) (congrArg Value.int (show FI22 121 68 = x1 from (up_k u23 (by decide) (h2)))) ?_
    refine hw_callV (Bs := [.int (x1)]) (rest := []) (aX12_operator 27 rfl) wc_RX12_599 (by decide) rfl wi_yX12_adds wv_yX12_adds (c121 hS) (s121 hS) rfl rfl rfl (Nat.le_of_ble_eq_true rfl) (Nat.le_of_ble_eq_true rfl) (n_adds (d := d + 4) hS hF hI27 (x1) (by have := congrArg Int32.toInt (show FI22 121 67 = x4 from (up_k u23 (by decide) (h5))); omega) (by omega) (show rl_e (FI22 149) (FI22 121 67) from rl24)) (fun v41 sv42 p43 => ?_)
    have := congrArg Int32.toInt (show FI22 121 67 = x4 from (up_k u23 (by decide) (h5)))
    obtain ⟨r44, rfl, rfl, t46, t47, u48⟩ := p43
    show hw base _ _ _ _ _ [.int (r44)] _ _
    refine hw_ifeq (tgt := 57) (aX12_operator 28 rfl) (by decide) rfl (fun cd49 => ?_) (fun cd49 => ?_)
    · clear t46
      have nb6 : au_bn (kf (FI22 149) (FI22 121 68).toInt.toNat) (wf (FL 150) (FI22 121 68).toInt.toNat) ≠ 6 := fun h => by have hh := au_bn_6.mp h; have := u48.mpr (by rw [show (x1).toInt.toNat = (FI22 121 68).toInt.toNat from congrArg (fun x : Int32 => x.toInt.toNat) ((up_k u23 (by decide) (h2))).symm]; exact hh); omega
      refine hw_aloadn (aX12_operator 32 rfl) rfl ?_
      refine hw_aloadn (aX12_operator 33 rfl) rfl ?_
      refine hw_get (v := .ref (base + 149)) (aX12_operator 34 rfl) wf_RX12_105 (c121 hS) (s121 hS) (by decide) (congrArg (fun r => va_rf (h_rf base r)) (r121_62 hF)) ?_
      refine hw_aloadn (aX12_operator 35 rfl) rfl ?_
      refine hw_get (v := .int (x1)) (aX12_operator 36 rfl) wf_RX12_478 (c121 hS) (s121 hS) (by decide) (congrArg Value.int (show FI22 121 68 = x1 from (up_k u23 (by decide) (h2)))) ?_
      refine hw_iald (v := x28) (aX12_operator 37 rfl) (c149 hS) (s149 hS) (h_in rfl (by omega) (by omega)) (show FI22 149 (x1).toNatClampNeg = x28 from h29) ?_
      refine hw_aloadn (aX12_operator 38 rfl) rfl ?_
      refine hw_get (v := .ref (base + 150)) (aX12_operator 39 rfl) wf_RX12_108 (c121 hS) (s121 hS) (by decide) (congrArg (fun r => va_rf (h_rf base r)) (r121_63 hF)) ?_
      refine hw_aloadn (aX12_operator 40 rfl) rfl ?_
      refine hw_get (v := .int (x1)) (aX12_operator 41 rfl) wf_RX12_478 (c121 hS) (s121 hS) (by decide) (congrArg Value.int (show FI22 121 68 = x1 from (up_k u23 (by decide) (h2)))) ?_
      refine hw_lald (v := x30) (aX12_operator 42 rfl) (c150 hS) (s150 hS) (h_in rfl (by omega) (by omega)) (show FL 150 (x1).toNatClampNeg = x30 from h31) ?_
      refine hw_callV (Bs := [.int (x28), .long (x30)]) (rest := []) (aX12_operator 43 rfl) wc_RX12_617 (by decide) rfl wi_yX12_shifts wv_yX12_shifts (c121 hS) (s121 hS) rfl rfl rfl (Nat.le_of_ble_eq_true rfl) (Nat.le_of_ble_eq_true rfl) (n_shifts (d := d + 4) hS hF hI27 (x28) (x30) ) (fun v50 sv51 p52 => ?_)
      obtain ⟨r53, rfl, rfl, t55, t56, t57⟩ := p52
      have rg_r53 := i_rng r53
      show hw base _ _ _ _ _ [.int (r53)] _ _
      refine xw_istoren (L2 := [(1, .int (r53)), (0, .ref (base + 121))]) (aX12_operator 44 rfl) (by decide) rfl ?_
      refine xw_iloadn (aX12_operator 45 rfl) rfl ?_
      refine hw_ic (v := ((-1) : Int32)) (aX12_operator 46 rfl) (by decide) ?_
      refine hw_iceq (tgt := 92) (aX12_operator 47 rfl) (by decide) rfl (by decide : ((-1) : Int32).toInt = (-1)) (fun cd58 => ?_) (fun cd58 => ?_)
      · have nb5 : au_bn (kf (FI22 149) (FI22 121 68).toInt.toNat) (wf (FL 150) (FI22 121 68).toInt.toNat) ≠ 5 := fun h => by rw [hk1, hw1] at h; exact absurd (hid_e t57 (au_bn_5.mp h)) (by omega)
        refine hw_aloadn (aX12_operator 53 rfl) rfl ?_
        refine hw_aloadn (aX12_operator 54 rfl) rfl ?_
        refine hw_get (v := .ref (base + 149)) (aX12_operator 55 rfl) wf_RX12_105 (c121 hS) (s121 hS) (by decide) (congrArg (fun r => va_rf (h_rf base r)) (r121_62 hF)) ?_
        refine hw_aloadn (aX12_operator 56 rfl) rfl ?_
        refine hw_get (v := .int (x1)) (aX12_operator 57 rfl) wf_RX12_478 (c121 hS) (s121 hS) (by decide) (congrArg Value.int (show FI22 121 68 = x1 from (up_k u23 (by decide) (h2)))) ?_
        refine hw_iald (v := x28) (aX12_operator 58 rfl) (c149 hS) (s149 hS) (h_in rfl (by omega) (by omega)) (show FI22 149 (x1).toNatClampNeg = x28 from h29) ?_
        refine hw_aloadn (aX12_operator 59 rfl) rfl ?_
        refine hw_get (v := .ref (base + 150)) (aX12_operator 60 rfl) wf_RX12_108 (c121 hS) (s121 hS) (by decide) (congrArg (fun r => va_rf (h_rf base r)) (r121_63 hF)) ?_
        refine hw_aloadn (aX12_operator 61 rfl) rfl ?_
        refine hw_get (v := .int (x1)) (aX12_operator 62 rfl) wf_RX12_478 (c121 hS) (s121 hS) (by decide) (congrArg Value.int (show FI22 121 68 = x1 from (up_k u23 (by decide) (h2)))) ?_
        refine hw_lald (v := x30) (aX12_operator 63 rfl) (c150 hS) (s150 hS) (h_in rfl (by omega) (by omega)) (show FL 150 (x1).toNatClampNeg = x30 from h31) ?_
        refine hw_callV (Bs := [.int (x28), .long (x30)]) (rest := []) (aX12_operator 64 rfl) wc_RX12_620 (by decide) rfl wi_yX12_compares wv_yX12_compares (c121 hS) (s121 hS) rfl rfl rfl (Nat.le_of_ble_eq_true rfl) (Nat.le_of_ble_eq_true rfl) (n_compares (d := d + 4) hS hF hI27 (x28) (x30) ) (fun v59 sv60 p61 => ?_)
        obtain ⟨r62, rfl, rfl, t64, t65, t66⟩ := p61
        have rg_r62 := i_rng r62
        show hw base _ _ _ _ _ [.int (r62)] _ _
        refine xw_istoren (L2 := [(1, .int (r62)), (0, .ref (base + 121))]) (aX12_operator 65 rfl) (by decide) rfl ?_
        refine xw_iloadn (aX12_operator 66 rfl) rfl ?_
        refine hw_ic (v := ((-1) : Int32)) (aX12_operator 67 rfl) (by decide) ?_
        refine hw_iceq (tgt := 160) (aX12_operator 68 rfl) (by decide) rfl (by decide : ((-1) : Int32).toInt = (-1)) (fun cd67 => ?_) (fun cd67 => ?_)
        · have nb4 : au_bn (kf (FI22 149) (FI22 121 68).toInt.toNat) (wf (FL 150) (FI22 121 68).toInt.toNat) ≠ 4 := fun h => by rw [hk1, hw1] at h; exact absurd (hid_e t66 (au_bn_4.mp h)) (by omega)
          refine hw_aloadn (aX12_operator 91 rfl) rfl ?_
          refine hw_bp (v := (38 : Int32)) (aX12_operator 92 rfl) (by decide) ?_
          refine hw_callV (Bs := [.int ((38 : Int32))]) (rest := []) (aX12_operator 93 rfl) wc_RX12_484 (by decide) rfl wi_yX12_isSign wv_yX12_isSign (c121 hS) (s121 hS) rfl rfl rfl (Nat.le_of_ble_eq_true rfl) (Nat.le_of_ble_eq_true rfl) (n_isSign (d := d + 4) hS hF hI27 ((38 : Int32)) (by have := congrArg Int32.toInt (show FI22 121 68 = x1 from (up_k u23 (by decide) (h2))); have := congrArg Int32.toInt (show FI22 121 67 = x4 from (up_k u23 (by decide) (h5))); omega) (show rl_e (FI22 149) (FI22 121 67) from rl24)) (fun v68 sv69 p70 => ?_)
          have := congrArg Int32.toInt (show FI22 121 68 = x1 from (up_k u23 (by decide) (h2)))
          have := congrArg Int32.toInt (show FI22 121 67 = x4 from (up_k u23 (by decide) (h5)))
          obtain ⟨r71, rfl, rfl, t73, t74, u75⟩ := p70
          show hw base _ _ _ _ _ [.int (r71)] _ _
          refine hw_ifeq (tgt := 177) (aX12_operator 94 rfl) (by decide) rfl (fun cd76 => ?_) (fun cd76 => ?_)
          · clear t73
            have nb3 : au_bn (kf (FI22 149) (FI22 121 68).toInt.toNat) (wf (FL 150) (FI22 121 68).toInt.toNat) ≠ 3 := fun h => by have hh := au_bn_3.mp h; have := u75.mpr (by rw [show ((38 : Int32)).toInt = (38 : Int) from by decide]; exact hh); omega
            refine hw_aloadn (aX12_operator 100 rfl) rfl ?_
            refine hw_bp (v := (94 : Int32)) (aX12_operator 101 rfl) (by decide) ?_
            refine hw_callV (Bs := [.int ((94 : Int32))]) (rest := []) (aX12_operator 102 rfl) wc_RX12_484 (by decide) rfl wi_yX12_isSign wv_yX12_isSign (c121 hS) (s121 hS) rfl rfl rfl (Nat.le_of_ble_eq_true rfl) (Nat.le_of_ble_eq_true rfl) (n_isSign (d := d + 4) hS hF hI27 ((94 : Int32)) (by have := congrArg Int32.toInt (show FI22 121 68 = x1 from (up_k u23 (by decide) (h2))); have := congrArg Int32.toInt (show FI22 121 67 = x4 from (up_k u23 (by decide) (h5))); omega) (show rl_e (FI22 149) (FI22 121 67) from rl24)) (fun v77 sv78 p79 => ?_)
            have := congrArg Int32.toInt (show FI22 121 68 = x1 from (up_k u23 (by decide) (h2)))
            have := congrArg Int32.toInt (show FI22 121 67 = x4 from (up_k u23 (by decide) (h5)))
            obtain ⟨r80, rfl, rfl, t82, t83, u84⟩ := p79
            show hw base _ _ _ _ _ [.int (r80)] _ _
            refine hw_ifeq (tgt := 194) (aX12_operator 103 rfl) (by decide) rfl (fun cd85 => ?_) (fun cd85 => ?_)
            · clear t82
              have nb2 : au_bn (kf (FI22 149) (FI22 121 68).toInt.toNat) (wf (FL 150) (FI22 121 68).toInt.toNat) ≠ 2 := fun h => by have hh := au_bn_2.mp h; have := u84.mpr (by rw [show ((94 : Int32)).toInt = (94 : Int) from by decide]; exact hh); omega
              refine hw_aloadn (aX12_operator 109 rfl) rfl ?_
              refine hw_bp (v := (124 : Int32)) (aX12_operator 110 rfl) (by decide) ?_
              refine hw_callV (Bs := [.int ((124 : Int32))]) (rest := []) (aX12_operator 111 rfl) wc_RX12_484 (by decide) rfl wi_yX12_isSign wv_yX12_isSign (c121 hS) (s121 hS) rfl rfl rfl (Nat.le_of_ble_eq_true rfl) (Nat.le_of_ble_eq_true rfl) (n_isSign (d := d + 4) hS hF hI27 ((124 : Int32)) (by have := congrArg Int32.toInt (show FI22 121 68 = x1 from (up_k u23 (by decide) (h2))); have := congrArg Int32.toInt (show FI22 121 67 = x4 from (up_k u23 (by decide) (h5))); omega) (show rl_e (FI22 149) (FI22 121 67) from rl24)) (fun v86 sv87 p88 => ?_)
              have := congrArg Int32.toInt (show FI22 121 68 = x1 from (up_k u23 (by decide) (h2)))
              have := congrArg Int32.toInt (show FI22 121 67 = x4 from (up_k u23 (by decide) (h5)))
              obtain ⟨r89, rfl, rfl, t91, t92, u93⟩ := p88
              show hw base _ _ _ _ _ [.int (r89)] _ _
              refine hw_ifeq (tgt := 211) (aX12_operator 112 rfl) (by decide) rfl (fun cd94 => ?_) (fun cd94 => ?_)
              · clear t91
                have nb1 : au_bn (kf (FI22 149) (FI22 121 68).toInt.toNat) (wf (FL 150) (FI22 121 68).toInt.toNat) ≠ 1 := fun h => by have hh := au_bn_1.mp h; have := u93.mpr (by rw [show ((124 : Int32)).toInt = (124 : Int) from by decide]; exact hh); omega
                refine hw_aloadn (aX12_operator 118 rfl) rfl ?_
                refine hw_bp (v := (63 : Int32)) (aX12_operator 119 rfl) (by decide) ?_
                refine hw_callV (Bs := [.int ((63 : Int32))]) (rest := []) (aX12_operator 120 rfl) wc_RX12_484 (by decide) rfl wi_yX12_isSign wv_yX12_isSign (c121 hS) (s121 hS) rfl rfl rfl (Nat.le_of_ble_eq_true rfl) (Nat.le_of_ble_eq_true rfl) (n_isSign (d := d + 4) hS hF hI27 ((63 : Int32)) (by have := congrArg Int32.toInt (show FI22 121 68 = x1 from (up_k u23 (by decide) (h2))); have := congrArg Int32.toInt (show FI22 121 67 = x4 from (up_k u23 (by decide) (h5))); omega) (show rl_e (FI22 149) (FI22 121 67) from rl24)) (fun v95 sv96 p97 => ?_)
                have := congrArg Int32.toInt (show FI22 121 68 = x1 from (up_k u23 (by decide) (h2)))
                have := congrArg Int32.toInt (show FI22 121 67 = x4 from (up_k u23 (by decide) (h5)))
                obtain ⟨r98, rfl, rfl, t100, t101, u102⟩ := p97
                show hw base _ _ _ _ _ [.int (r98)] _ _
                refine hw_ifeq (tgt := 267) (aX12_operator 121 rfl) (by decide) rfl (fun cd103 => ?_) (fun cd103 => ?_)
                · clear t100
                  have hbn0 := au_bn_0 nb7 nb6 nb5 nb4 nb3 nb2 nb1
                  have hnq : ¬ (kf (FI22 149) (FI22 121 68).toInt.toNat = 5 ∧ wf (FL 150) (FI22 121 68).toInt.toNat = 63) := fun h => by have := u102.mpr (by rw [show ((63 : Int32)).toInt = (63 : Int) from by decide]; exact h); omega
                  refine hw_aloadn (aX12_operator 151 rfl) rfl ?_
                  refine hw_callV (Bs := []) (rest := []) (aX12_operator 152 rfl) wc_RX12_623 (by decide) rfl wi_yX12_ended wv_yX12_ended (c121 hS) (s121 hS) rfl rfl rfl (Nat.le_of_ble_eq_true rfl) (Nat.le_of_ble_eq_true rfl) (n_ended (d := d) hS hF hI27 (by have := congrArg Int32.toInt (show FI22 121 68 = x1 from (up_k u23 (by decide) (h2))); have := congrArg Int32.toInt (show FI22 121 67 = x4 from (up_k u23 (by decide) (h5))); omega) (by have := congrArg Int32.toInt (show FI22 121 69 = x7 from (up_k u23 (by decide) (h8))); omega) (by have := congrArg Int32.toInt (show FI22 121 73 = x9 from (up_k u23 (by decide) (h10))); have := congrArg Int32.toInt (show FI22 121 90 = x12 from (up_k u23 (by decide) (h13))); omega) (by have := congrArg Int32.toInt (show FI22 121 90 = x12 from (up_k u23 (by decide) (h13))); omega) (by have := congrArg Int32.toInt (show FI22 121 91 = (0 : Int32) from up_eq u23); have := ((by decide : (0 : Int32).toInt = 0) : ((0 : Int32)).toInt = 0); omega) (by have := congrArg Int32.toInt (show FI22 121 71 = x15 from (up_k u23 (by decide) (h16))); have := congrArg Int32.toInt (show FI22 121 71 = x15 from (up_k u23 (by decide) (h16))); omega) (hbn0) (hnq) (by rw [show FI22 166 = FI 166 from up_row u23 (by decide) rfl, show FI22 121 90 = FI 121 90 from up_k u23 (by decide) rfl]; exact gg0) (by rw [show FI22 166 = FI 166 from up_row u23 (by decide) rfl, show FI22 121 90 = FI 121 90 from up_k u23 (by decide) rfl]; exact gg1) (show rl_e (FI22 149) (FI22 121 67) from rl24) (show rl_t (FI22 149) (FL 150) from rl25) (show rl_pm (FI22 121 90) (FI22 121 73) (FI22 166) (FI22 167) (FI22 168) from rl26)) (fun v104 sv105 p106 => ?_)
                  have := congrArg Int32.toInt (show FI22 121 68 = x1 from (up_k u23 (by decide) (h2)))
                  have := congrArg Int32.toInt (show FI22 121 73 = x9 from (up_k u23 (by decide) (h10)))
                  have := congrArg Int32.toInt (show FI22 121 90 = x12 from (up_k u23 (by decide) (h13)))
                  have := congrArg Int32.toInt (show FI22 121 68 = x1 from (up_k u23 (by decide) (h2)))
                  have := congrArg Int32.toInt (show FI22 121 73 = x9 from (up_k u23 (by decide) (h10)))
                  have := congrArg Int32.toInt (show FI22 121 90 = x12 from (up_k u23 (by decide) (h13)))
                  have := congrArg Int32.toInt (show FI22 121 68 = x1 from (up_k u23 (by decide) (h2)))
                  have := congrArg Int32.toInt (show FI22 121 71 = x15 from (up_k u23 (by decide) (h16)))
                  obtain ⟨r107, rfl, FI108, rfl, hI109, f110, t111, t112, t113, t114, t115, t116, t117, t118, u119, u120, rl121⟩ := p106
                  have rl122 : rl_e (FI108 149) (FI108 121 67) := by rw [show FI108 149 = FI22 149 from gf_row f110 (c149 hS) (s149 hS) rfl rfl, show FI108 121 67 = FI22 121 67 from gf_at f110 (c121 hS) (s121 hS) rfl rfl]; exact rl24
                  have rl123 : rl_t (FI108 149) (FL 150) := by rw [show FI108 149 = FI22 149 from gf_row f110 (c149 hS) (s149 hS) rfl rfl]; exact rl25
                  obtain ⟨x124, h125⟩ : ∃ y, FI108 121 68 = y := ⟨_, rfl⟩
                  have h125l := congrArg Int32.toInt h125
                  have b126 := gI_121_68 hI109; rw [h125] at b126
                  have := congrArg Int32.toInt (show FI108 121 67 = x4 from (gf_at f110 (c121 hS) (s121 hS) rfl ((up_k u23 (by decide) (h5)))))
                  obtain ⟨x127, h128⟩ : ∃ y, FI108 121 73 = y := ⟨_, rfl⟩
                  have h128l := congrArg Int32.toInt h128
                  have b129 := gI_121_73 hI109; rw [h128] at b129
                  obtain ⟨x130, h131⟩ : ∃ y, FI108 121 90 = y := ⟨_, rfl⟩
                  have h131l := congrArg Int32.toInt h131
                  have b132 := gI_121_90 hI109; rw [h131] at b132
                  obtain ⟨x133, h134⟩ : ∃ y, FI108 121 71 = y := ⟨_, rfl⟩
                  have h134l := congrArg Int32.toInt h134
                  have := i_rng x133
                  show hw base _ _ _ _ _ [.int (r107)] _ _
                  refine xw_iret (aX12_operator 153 rfl) rfl (i_nz rfl (by omega) (by omega)) ?_
                  obtain ⟨x135, h136⟩ : ∃ y, FI108 121 69 = y := ⟨_, rfl⟩
                  have h136l := congrArg Int32.toInt h136
                  have := i_rng x135
                  exact ⟨r107, rfl, FI108, rfl, hI109, (gf_tr ex_rf (gf_f gf_rf u23 (by decide)) f110 rfl rfl rfl), (by have := congrArg Int32.toInt (show FI108 121 67 = x4 from (gf_at f110 (c121 hS) (s121 hS) rfl ((up_k u23 (by decide) (h5))))); have := congrArg Int32.toInt (show FI108 121 68 = x124 from h125); omega), (by have := congrArg Int32.toInt (show FI108 121 68 = x124 from h125); omega), (by have := congrArg Int32.toInt (show FI108 121 68 = x124 from h125); have := congrArg Int32.toInt (show FI108 121 73 = x127 from h128); have := congrArg Int32.toInt (show FI108 121 90 = x130 from h131); omega), (by have := congrArg Int32.toInt (show FI108 121 73 = x127 from h128); omega), (by have := congrArg Int32.toInt (show FI108 121 90 = x130 from h131); omega), (by have := congrArg Int32.toInt (show FI108 121 68 = x124 from h125); omega), (by have := congrArg Int32.toInt (show FI108 121 69 = x135 from h136); have := congrArg Int32.toInt (show FI108 121 71 = x133 from h134); omega), (by omega), (by have hh := u119; rw [show FI22 149 = FI 149 from up_row u23 (by decide) rfl, show FI22 166 = FI 166 from up_row u23 (by decide) rfl, show FI22 121 68 = FI 121 68 from up_k u23 (by decide) rfl, show FI22 121 90 = FI 121 90 from up_k u23 (by decide) rfl] at hh; exact hh), (by have hh := u120; rw [show FI22 166 = FI 166 from up_row u23 (by decide) rfl, show FI22 121 90 = FI 121 90 from up_k u23 (by decide) rfl, show FI22 121 71 = FI 121 71 from up_k u23 (by decide) rfl] at hh; exact hh), (show rl_pm (FI108 121 90) (FI108 121 73) (FI108 166) (FI108 167) (FI108 168) from rl121)⟩
                · replace t100 := t100 (by omega)
                  have hqm := u102.mp (by omega); rw [show ((63 : Int32)).toInt = (63 : Int) from by decide] at hqm
                  refine hw_aloadn (aX12_operator 122 rfl) rfl ?_
                  refine hw_ic (v := (1 : Int32)) (aX12_operator 123 rfl) (by decide) ?_
                  refine hw_callV (Bs := [.int ((1 : Int32))]) (rest := []) (aX12_operator 124 rfl) wc_RX12_566 (by decide) rfl wi_yX12_reduced wv_yX12_reduced (c121 hS) (s121 hS) rfl rfl rfl (Nat.le_of_ble_eq_true rfl) (Nat.le_of_ble_eq_true rfl) (n_reduced (d := d + 3) hS hF hI27 ((1 : Int32)) (by have := congrArg Int32.toInt (show FI22 121 73 = x9 from (up_k u23 (by decide) (h10))); have := congrArg Int32.toInt (show FI22 121 90 = x12 from (up_k u23 (by decide) (h13))); omega) (by have := ((by decide : (1 : Int32).toInt = 1) : ((1 : Int32)).toInt = 1); have := ((by decide : (1 : Int32).toInt = 1) : ((1 : Int32)).toInt = 1); omega) (show rl_pm (FI22 121 90) (FI22 121 73) (FI22 166) (FI22 167) (FI22 168) from rl26)) (fun v137 sv138 p139 => ?_)
                  have := congrArg Int32.toInt (show FI22 121 90 = x12 from (up_k u23 (by decide) (h13)))
                  have := congrArg Int32.toInt (show FI22 121 73 = x9 from (up_k u23 (by decide) (h10)))
                  have := congrArg Int32.toInt (show FI22 121 90 = x12 from (up_k u23 (by decide) (h13)))
                  have := congrArg Int32.toInt (show FI22 121 73 = x9 from (up_k u23 (by decide) (h10)))
                  obtain ⟨rfl, FI141, rfl, hI142, f143, t144, t145, t146, u147, rl148⟩ := p139
                  have rl149 : rl_e (FI141 149) (FI141 121 67) := by rw [show FI141 149 = FI22 149 from gf_row f143 (c149 hS) (s149 hS) rfl rfl, show FI141 121 67 = FI22 121 67 from gf_at f143 (c121 hS) (s121 hS) rfl rfl]; exact rl24
                  have rl150 : rl_t (FI141 149) (FL 150) := by rw [show FI141 149 = FI22 149 from gf_row f143 (c149 hS) (s149 hS) rfl rfl]; exact rl25
                  obtain ⟨x151, h152⟩ : ∃ y, FI141 121 90 = y := ⟨_, rfl⟩
                  have h152l := congrArg Int32.toInt h152
                  have b153 := gI_121_90 hI142; rw [h152] at b153
                  obtain ⟨x154, h155⟩ : ∃ y, FI141 121 73 = y := ⟨_, rfl⟩
                  have h155l := congrArg Int32.toInt h155
                  have b156 := gI_121_73 hI142; rw [h155] at b156
                  show hw base _ _ _ _ _ [] _ _
                  refine hw_aloadn (aX12_operator 125 rfl) rfl ?_
                  refine hw_bp (v := (40 : Int32)) (aX12_operator 126 rfl) (by decide) ?_
                  refine hw_callV (Bs := [.int ((40 : Int32))]) (rest := []) (aX12_operator 127 rfl) wc_RX12_496 (by decide) rfl wi_yX12_emit wv_yX12_emit (c121 hS) (s121 hS) rfl rfl rfl (Nat.le_of_ble_eq_true rfl) (Nat.le_of_ble_eq_true rfl) (n_emit (d := d + 4) hS hF hI142 ((40 : Int32)) (by have := congrArg Int32.toInt (show FI141 121 73 = x154 from h155); omega) (show rl_pm (FI141 121 90) (FI141 121 73) (FI141 166) (FI141 167) (FI141 168) from rl148)) (fun v157 sv158 p159 => ?_)
                  have := congrArg Int32.toInt (show FI141 121 73 = x154 from h155)
                  obtain ⟨rfl, FI161, rfl, hI162, f163, t164, rl165⟩ := p159
                  have rl166 : rl_e (FI161 149) (FI161 121 67) := by rw [show FI161 149 = FI141 149 from gf_row f163 (c149 hS) (s149 hS) rfl rfl, show FI161 121 67 = FI141 121 67 from gf_at f163 (c121 hS) (s121 hS) rfl rfl]; exact rl149
                  have rl167 : rl_t (FI161 149) (FL 150) := by rw [show FI161 149 = FI141 149 from gf_row f163 (c149 hS) (s149 hS) rfl rfl]; exact rl150
                  obtain ⟨x168, h169⟩ : ∃ y, FI161 121 73 = y := ⟨_, rfl⟩
                  have h169l := congrArg Int32.toInt h169
                  have b170 := gI_121_73 hI162; rw [h169] at b170
                  show hw base _ _ _ _ _ [] _ _
                  refine hw_aloadn (aX12_operator 128 rfl) rfl ?_
                  refine hw_get (v := .int (x168)) (aX12_operator 129 rfl) wf_RX12_493 (c121 hS) (s121 hS) (by decide) (congrArg Value.int (show FI161 121 73 = x168 from h169)) ?_
                  refine xw_istoren (L2 := [(2, .int (x168)), (1, .int (r62)), (0, .ref (base + 121))]) (aX12_operator 130 rfl) (by decide) rfl ?_
                  refine hw_aloadn (aX12_operator 131 rfl) rfl ?_
                  refine hw_lc (v := (0 : Int64)) (aX12_operator 132 rfl) (by decide) ?_
                  refine hw_ic (v := (2 : Int32)) (aX12_operator 133 rfl) (by decide) ?_
                  refine hw_callV (Bs := [.long ((0 : Int64)), .int ((2 : Int32))]) (rest := []) (aX12_operator 134 rfl) wc_RX12_505 (by decide) rfl wi_yX12_emits wv_yX12_emits (c121 hS) (s121 hS) rfl rfl rfl (Nat.le_of_ble_eq_true rfl) (Nat.le_of_ble_eq_true rfl) (n_emits (d := d + 3) hS hF hI162 ((0 : Int64)) ((2 : Int32)) (by have := congrArg Int32.toInt (show FI161 121 73 = x168 from h169); omega) (by have := ((by decide : (2 : Int32).toInt = 2) : ((2 : Int32)).toInt = 2); have := ((by decide : (2 : Int32).toInt = 2) : ((2 : Int32)).toInt = 2); omega) (show rl_pm (FI161 121 90) (FI161 121 73) (FI161 166) (FI161 167) (FI161 168) from rl165)) (fun v171 sv172 p173 => ?_)
                  have := congrArg Int32.toInt (show FI161 121 73 = x168 from h169)
                  have := ((by decide : (2 : Int32).toInt = 2) : ((2 : Int32)).toInt = 2)
                  obtain ⟨rfl, FI175, rfl, hI176, f177, t178, rl179⟩ := p173
                  have rl180 : rl_e (FI175 149) (FI175 121 67) := by rw [show FI175 149 = FI161 149 from gf_row f177 (c149 hS) (s149 hS) rfl rfl, show FI175 121 67 = FI161 121 67 from gf_at f177 (c121 hS) (s121 hS) rfl rfl]; exact rl166
                  have rl181 : rl_t (FI175 149) (FL 150) := by rw [show FI175 149 = FI161 149 from gf_row f177 (c149 hS) (s149 hS) rfl rfl]; exact rl167
                  obtain ⟨x182, h183⟩ : ∃ y, FI175 121 73 = y := ⟨_, rfl⟩
                  have h183l := congrArg Int32.toInt h183
                  have b184 := gI_121_73 hI176; rw [h183] at b184
                  show hw base _ _ _ _ _ [] _ _
                  refine hw_aloadn (aX12_operator 135 rfl) rfl ?_
                  refine hw_callV (Bs := []) (rest := []) (aX12_operator 136 rfl) wc_RX12_538 (by decide) rfl wi_yX12_opens wv_yX12_opens (c121 hS) (s121 hS) rfl rfl rfl (Nat.le_of_ble_eq_true rfl) (Nat.le_of_ble_eq_true rfl) (n_opens (d := d + 3) hS hF hI176 (by have := congrArg Int32.toInt (show FI175 121 68 = x1 from (gf_at f177 (c121 hS) (s121 hS) rfl ((gf_at f163 (c121 hS) (s121 hS) rfl ((gf_at f143 (c121 hS) (s121 hS) rfl ((up_k u23 (by decide) (h2))))))))); have := congrArg Int32.toInt (show FI175 121 67 = x4 from (gf_at f177 (c121 hS) (s121 hS) rfl ((gf_at f163 (c121 hS) (s121 hS) rfl ((gf_at f143 (c121 hS) (s121 hS) rfl ((up_k u23 (by decide) (h5))))))))); omega) (by have := congrArg Int32.toInt (show FI175 121 71 = x15 from (gf_at f177 (c121 hS) (s121 hS) rfl ((gf_at f163 (c121 hS) (s121 hS) rfl ((gf_at f143 (c121 hS) (s121 hS) rfl ((up_k u23 (by decide) (h16))))))))); have := congrArg Int32.toInt (show FI175 121 71 = x15 from (gf_at f177 (c121 hS) (s121 hS) rfl ((gf_at f163 (c121 hS) (s121 hS) rfl ((gf_at f143 (c121 hS) (s121 hS) rfl ((up_k u23 (by decide) (h16))))))))); omega)) (fun v185 sv186 p187 => ?_)
                  have := congrArg Int32.toInt (show FI175 121 68 = x1 from (gf_at f177 (c121 hS) (s121 hS) rfl ((gf_at f163 (c121 hS) (s121 hS) rfl ((gf_at f143 (c121 hS) (s121 hS) rfl ((up_k u23 (by decide) (h2)))))))))
                  have := congrArg Int32.toInt (show FI175 121 71 = x15 from (gf_at f177 (c121 hS) (s121 hS) rfl ((gf_at f163 (c121 hS) (s121 hS) rfl ((gf_at f143 (c121 hS) (s121 hS) rfl ((up_k u23 (by decide) (h16)))))))))
                  have := congrArg Int32.toInt (show FI175 121 71 = x15 from (gf_at f177 (c121 hS) (s121 hS) rfl ((gf_at f163 (c121 hS) (s121 hS) rfl ((gf_at f143 (c121 hS) (s121 hS) rfl ((up_k u23 (by decide) (h16)))))))))
                  have := congrArg Int32.toInt (show FI175 121 69 = x7 from (gf_at f177 (c121 hS) (s121 hS) rfl ((gf_at f163 (c121 hS) (s121 hS) rfl ((gf_at f143 (c121 hS) (s121 hS) rfl ((up_k u23 (by decide) (h8)))))))))
                  obtain ⟨rfl, FI189, rfl, hI190, f191, t192, t193, t194⟩ := p187
                  have rl195 : rl_e (FI189 149) (FI189 121 67) := by rw [show FI189 149 = FI175 149 from gf_row f191 (c149 hS) (s149 hS) rfl rfl, show FI189 121 67 = FI175 121 67 from gf_at f191 (c121 hS) (s121 hS) rfl rfl]; exact rl180
                  have rl196 : rl_t (FI189 149) (FL 150) := by rw [show FI189 149 = FI175 149 from gf_row f191 (c149 hS) (s149 hS) rfl rfl]; exact rl181
                  have rl197 : rl_pm (FI189 121 90) (FI189 121 73) (FI189 166) (FI189 167) (FI189 168) := by rw [show FI189 166 = FI175 166 from gf_row f191 (c166 hS) (s166 hS) rfl rfl, show FI189 167 = FI175 167 from gf_row f191 (c167 hS) (s167 hS) rfl rfl, show FI189 168 = FI175 168 from gf_row f191 (c168 hS) (s168 hS) rfl rfl, show FI189 121 90 = FI175 121 90 from gf_at f191 (c121 hS) (s121 hS) rfl rfl, show FI189 121 73 = FI175 121 73 from gf_at f191 (c121 hS) (s121 hS) rfl rfl]; exact rl179
                  obtain ⟨x198, h199⟩ : ∃ y, FI189 121 68 = y := ⟨_, rfl⟩
                  have h199l := congrArg Int32.toInt h199
                  have b200 := gI_121_68 hI190; rw [h199] at b200
                  obtain ⟨x201, h202⟩ : ∃ y, FI189 121 71 = y := ⟨_, rfl⟩
                  have h202l := congrArg Int32.toInt h202
                  have := i_rng x201
                  obtain ⟨x203, h204⟩ : ∃ y, FI189 121 69 = y := ⟨_, rfl⟩
                  have h204l := congrArg Int32.toInt h204
                  have := i_rng x203
                  show hw base _ _ _ _ _ [] _ _
                  refine hw_aloadn (aX12_operator 137 rfl) rfl ?_
                  refine hw_ic (v := (0 : Int32)) (aX12_operator 138 rfl) (by decide) ?_
                  refine hw_bp (v := ((-2) : Int32)) (aX12_operator 139 rfl) (by decide) ?_
                  refine hw_callV (Bs := [.int ((0 : Int32)), .int (((-2) : Int32))]) (rest := []) (aX12_operator 140 rfl) wc_RX12_580 (by decide) rfl wi_yX12_later wv_yX12_later (c121 hS) (s121 hS) rfl rfl rfl (Nat.le_of_ble_eq_true rfl) (Nat.le_of_ble_eq_true rfl) (n_laterq (d := d + 4) hS hF hI190 ((0 : Int32)) (by have := congrArg Int32.toInt (show FI189 121 90 = x151 from (gf_at f191 (c121 hS) (s121 hS) rfl ((gf_at f177 (c121 hS) (s121 hS) rfl ((gf_at f163 (c121 hS) (s121 hS) rfl (h152))))))); omega)) (fun v205 sv206 p207 => ?_)
                  have := congrArg Int32.toInt (show FI189 121 90 = x151 from (gf_at f191 (c121 hS) (s121 hS) rfl ((gf_at f177 (c121 hS) (s121 hS) rfl ((gf_at f163 (c121 hS) (s121 hS) rfl (h152)))))))
                  obtain ⟨rfl, FI209, rfl, hI210, f211, t212, u213, u214⟩ := p207
                  have rl215 : rl_e (FI209 149) (FI209 121 67) := by rw [show FI209 149 = FI189 149 from gf_row f211 (c149 hS) (s149 hS) rfl rfl, show FI209 121 67 = FI189 121 67 from gf_at f211 (c121 hS) (s121 hS) rfl rfl]; exact rl195
                  have rl216 : rl_t (FI209 149) (FL 150) := by rw [show FI209 149 = FI189 149 from gf_row f211 (c149 hS) (s149 hS) rfl rfl]; exact rl196
                  obtain ⟨x217, h218⟩ : ∃ y, FI209 121 90 = y := ⟨_, rfl⟩
                  have h218l := congrArg Int32.toInt h218
                  have b219 := gI_121_90 hI210; rw [h218] at b219
                  show hw base _ _ _ _ _ [] _ _
                  refine hw_aloadn (aX12_operator 141 rfl) rfl ?_
                  refine hw_get (v := .ref (base + 167)) (aX12_operator 142 rfl) wf_RX12_160 (c121 hS) (s121 hS) (by decide) (congrArg (fun r => va_rf (h_rf base r)) (r121_88 hF)) ?_
                  refine hw_aloadn (aX12_operator 143 rfl) rfl ?_
                  refine hw_get (v := .int (x217)) (aX12_operator 144 rfl) wf_RX12_556 (c121 hS) (s121 hS) (by decide) (congrArg Value.int (show FI209 121 90 = x217 from h218)) ?_
                  refine hw_ic (v := (1 : Int32)) (aX12_operator 145 rfl) (by decide) ?_
                  refine xw_isub (aX12_operator 146 rfl) ?_
                  refine hw_tie (A := ((x217).toInt) - (1)) (i_sub rfl (by decide : (1 : Int32).toInt = 1) (by omega) (by omega)) (fun x220 e221 => ?_)
                  refine xw_iloadn (aX12_operator 147 rfl) rfl ?_
                  refine hv_iast (k := (x220).toNatClampNeg) (aX12_operator 148 rfl) (c167 hS) (s167 hS) (h_in e221 (by omega) (by omega)) rfl (fun FI222 u223 => ?_)
                  have rl224 : rl_e (FI222 149) (FI222 121 67) := by rw [show FI222 149 = FI209 149 from up_row u223 (by decide) rfl, show FI222 121 67 = FI209 121 67 from up_c u223 (by decide) rfl]; exact rl215
                  have rl225 : rl_t (FI222 149) (FL 150) := by rw [show FI222 149 = FI209 149 from up_row u223 (by decide) rfl]; exact rl216
                  have hI226 : g_I FI222 := gU_F hI210 u223 rfl
                  have rl227 : rl_pm (FI222 121 90) (FI222 121 73) (FI222 166) (FI222 167) (FI222 168) := by have z0 := congrArg Int32.toInt (show FI222 121 90 = x217 from (up_c u223 (by decide) (h218))); have z1 := congrArg Int32.toInt (show FI189 121 90 = x151 from (gf_at f191 (c121 hS) (s121 hS) rfl ((gf_at f177 (c121 hS) (s121 hS) rfl ((gf_at f163 (c121 hS) (s121 hS) rfl (h152))))))); have z2 := congrArg Int32.toInt (show FI222 121 73 = x182 from (up_c u223 (by decide) ((gf_at f211 (c121 hS) (s121 hS) rfl ((gf_at f191 (c121 hS) (s121 hS) rfl (h183))))))); have z3 := congrArg Int32.toInt (show FI189 121 73 = x182 from (gf_at f191 (c121 hS) (s121 hS) rfl (h183))); have := (e221 : (x220).toInt = ((x217).toInt) - (1)); rw [show FI222 166 = va_up (FI189 166) (FI189 121 90).toNatClampNeg (-2) from ((up_row u223 (by decide) (rfl))).trans u213, show FI222 167 = va_up (FI189 167) ((x220).toNatClampNeg) (x168) from (up_va u223 ((gf_row f211 (c167 hS) (s167 hS) rfl (rfl)))), show FI222 168 = FI189 168 from (up_row u223 (by decide) ((gf_row f211 (c168 hS) (s168 hS) rfl (rfl))))]; exact rl_pm_ask rl197 (fun _ _ => trivial) (by omega) (by omega) (by omega) (by omega) (by omega)
                  refine hw_ic (v := (1 : Int32)) (aX12_operator 149 rfl) (by decide) ?_
                  refine xw_iret (aX12_operator 150 rfl) rfl (by decide) ?_
                  have e228 : ((1 : Int32)).toInt = 1 := (by decide : (1 : Int32).toInt = 1)
                  exact ⟨(1 : Int32), rfl, FI222, rfl, hI226, (gf_a (gf_tr ex_rf (gf_tr ex_rf (gf_tr ex_rf (gf_tr ex_rf (gf_tr ex_rf (gf_f gf_rf u23 (by decide)) f143 rfl rfl rfl) f163 rfl rfl rfl) f177 rfl rfl rfl) f191 rfl rfl rfl) f211 rfl rfl rfl) u223 (by decide)), (by have : ((1 : Int32)).toInt = 1 := (by decide); have := congrArg Int32.toInt (show FI222 121 67 = x4 from (up_c u223 (by decide) ((gf_at f211 (c121 hS) (s121 hS) rfl ((gf_at f191 (c121 hS) (s121 hS) rfl ((gf_at f177 (c121 hS) (s121 hS) rfl ((gf_at f163 (c121 hS) (s121 hS) rfl ((gf_at f143 (c121 hS) (s121 hS) rfl ((up_k u23 (by decide) (h5))))))))))))))); have := congrArg Int32.toInt (show FI222 121 68 = x198 from (up_c u223 (by decide) ((gf_at f211 (c121 hS) (s121 hS) rfl (h199))))); omega), (by have : ((1 : Int32)).toInt = 1 := (by decide); have := congrArg Int32.toInt (show FI222 121 68 = x198 from (up_c u223 (by decide) ((gf_at f211 (c121 hS) (s121 hS) rfl (h199))))); omega), (by have : ((1 : Int32)).toInt = 1 := (by decide); have := congrArg Int32.toInt (show FI222 121 68 = x198 from (up_c u223 (by decide) ((gf_at f211 (c121 hS) (s121 hS) rfl (h199))))); have := congrArg Int32.toInt (show FI222 121 73 = x182 from (up_c u223 (by decide) ((gf_at f211 (c121 hS) (s121 hS) rfl ((gf_at f191 (c121 hS) (s121 hS) rfl (h183))))))); have := congrArg Int32.toInt (show FI222 121 90 = x217 from (up_c u223 (by decide) (h218))); omega), (by have : ((1 : Int32)).toInt = 1 := (by decide); have := congrArg Int32.toInt (show FI222 121 73 = x182 from (up_c u223 (by decide) ((gf_at f211 (c121 hS) (s121 hS) rfl ((gf_at f191 (c121 hS) (s121 hS) rfl (h183))))))); omega), (by have : ((1 : Int32)).toInt = 1 := (by decide); have := congrArg Int32.toInt (show FI222 121 90 = x217 from (up_c u223 (by decide) (h218))); omega), (by have : ((1 : Int32)).toInt = 1 := (by decide); have := congrArg Int32.toInt (show FI222 121 68 = x198 from (up_c u223 (by decide) ((gf_at f211 (c121 hS) (s121 hS) rfl (h199))))); omega), (by have : ((1 : Int32)).toInt = 1 := (by decide); have := congrArg Int32.toInt (show FI222 121 69 = x203 from (up_c u223 (by decide) ((gf_at f211 (c121 hS) (s121 hS) rfl (h204))))); have := congrArg Int32.toInt (show FI222 121 71 = x201 from (up_c u223 (by decide) ((gf_at f211 (c121 hS) (s121 hS) rfl (h202))))); omega), (by have : ((1 : Int32)).toInt = 1 := (by decide); omega), (by have := congrArg Int32.toInt (show FI222 121 68 = x198 from (up_c u223 (by decide) ((gf_at f211 (c121 hS) (s121 hS) rfl (h199))))); have := congrArg Int32.toInt (show FI222 121 69 = x203 from (up_c u223 (by decide) ((gf_at f211 (c121 hS) (s121 hS) rfl (h204))))); have := congrArg Int32.toInt (show FI222 121 91 = (0 : Int32) from (up_c u223 (by decide) ((gf_at f211 (c121 hS) (s121 hS) rfl ((gf_at f191 (c121 hS) (s121 hS) rfl ((gf_at f177 (c121 hS) (s121 hS) rfl ((gf_at f163 (c121 hS) (s121 hS) rfl ((gf_at f143 (c121 hS) (s121 hS) rfl (up_eq u23))))))))))))); have := ((by decide : (0 : Int32).toInt = 0) : ((0 : Int32)).toInt = 0); have hz : (((1 : Int32))).toInt = 1 := (by decide : (1 : Int32).toInt = 1); have hm : (sk (FI222 166) (FI222 121 90).toInt.toNat) = -2 :: au_red 1 (sk (FI 166) (FI 121 90).toInt.toNat) := (by rw [show FI222 166 = FI209 166 from (up_row u223 (by decide) (rfl)), show FI222 121 90 = FI209 121 90 from ((up_c u223 (by decide) (h218))).trans (h218).symm, u214, show FI189 166 = FI22 166 from (gf_row f191 (c166 hS) (s166 hS) rfl ((gf_row f177 (c166 hS) (s166 hS) rfl ((gf_row f163 (c166 hS) (s166 hS) rfl ((gf_row f143 (c166 hS) (s166 hS) rfl (rfl)))))))), show FI189 121 90 = FI141 121 90 from ((gf_at f191 (c121 hS) (s121 hS) rfl ((gf_at f177 (c121 hS) (s121 hS) rfl ((gf_at f163 (c121 hS) (s121 hS) rfl (h152))))))).trans (h152).symm]; have hy5 := u147; rw [show ((1 : Int32)).toInt = (1 : Int) from by decide] at hy5; rw [hy5, show FI22 166 = FI 166 from up_row u23 (by decide) rfl, show FI22 121 90 = FI 121 90 from up_k u23 (by decide) rfl]); have hqq := hqm; rw [show FI22 149 = FI 149 from up_row u23 (by decide) rfl, show FI22 121 68 = FI 121 68 from up_k u23 (by decide) rfl] at hqq; exact fun _ => ⟨fun _ => Or.inl ⟨by omega, Or.inr (Or.inr (Or.inr (Or.inr (Or.inr (Or.inl ⟨rfl, hqq.1, hqq.2, by omega, rfl, hm⟩)))))⟩, fun h => absurd h (by omega)⟩), (by have := congrArg Int32.toInt (show FI222 121 69 = x203 from (up_c u223 (by decide) ((gf_at f211 (c121 hS) (s121 hS) rfl (h204))))); have := congrArg Int32.toInt (show FI222 121 71 = x201 from (up_c u223 (by decide) ((gf_at f211 (c121 hS) (s121 hS) rfl (h202))))); have hm : (sk (FI222 166) (FI222 121 90).toInt.toNat) = -2 :: au_red 1 (sk (FI 166) (FI 121 90).toInt.toNat) := (by rw [show FI222 166 = FI209 166 from (up_row u223 (by decide) (rfl)), show FI222 121 90 = FI209 121 90 from ((up_c u223 (by decide) (h218))).trans (h218).symm, u214, show FI189 166 = FI22 166 from (gf_row f191 (c166 hS) (s166 hS) rfl ((gf_row f177 (c166 hS) (s166 hS) rfl ((gf_row f163 (c166 hS) (s166 hS) rfl ((gf_row f143 (c166 hS) (s166 hS) rfl (rfl)))))))), show FI189 121 90 = FI141 121 90 from ((gf_at f191 (c121 hS) (s121 hS) rfl ((gf_at f177 (c121 hS) (s121 hS) rfl ((gf_at f163 (c121 hS) (s121 hS) rfl (h152))))))).trans (h152).symm]; have hy5 := u147; rw [show ((1 : Int32)).toInt = (1 : Int) from by decide] at hy5; rw [hy5, show FI22 166 = FI 166 from up_row u23 (by decide) rfl, show FI22 121 90 = FI 121 90 from up_k u23 (by decide) rfl]); rw [hm]; intro _; simp only [au_op]; rw [if_neg (by decide), au_op_red (by decide) gg0 gg1]; omega), (show rl_pm (FI222 121 90) (FI222 121 73) (FI222 166) (FI222 167) (FI222 168) from rl227)⟩
              · replace t91 := t91 (by omega)
                have hq := u93.mp (by omega); rw [show ((124 : Int32)).toInt = (124 : Int) from by decide] at hq; have hb : au_bn (kf (FI22 149) (FI22 121 68).toInt.toNat) (wf (FL 150) (FI22 121 68).toInt.toNat) = 1 := au_bn_1.mpr hq
                refine hw_aloadn (aX12_operator 113 rfl) rfl ?_
                refine hw_bp (v := (33 : Int32)) (aX12_operator 114 rfl) (by decide) ?_
                refine hw_ic (v := (1 : Int32)) (aX12_operator 115 rfl) (by decide) ?_
                refine hw_callV (Bs := [.int ((33 : Int32)), .int ((1 : Int32))]) (rest := []) (aX12_operator 116 rfl) wc_RX12_610 (by decide) rfl wi_yX12_binary wv_yX12_binary (c121 hS) (s121 hS) rfl rfl rfl (Nat.le_of_ble_eq_true rfl) (Nat.le_of_ble_eq_true rfl) (n_binary (d := d + 2) hS hF hI27 ((33 : Int32)) ((1 : Int32)) (by have := congrArg Int32.toInt (show FI22 121 73 = x9 from (up_k u23 (by decide) (h10))); have := congrArg Int32.toInt (show FI22 121 90 = x12 from (up_k u23 (by decide) (h13))); omega) (by have := congrArg Int32.toInt (show FI22 121 90 = x12 from (up_k u23 (by decide) (h13))); omega) (by have := congrArg Int32.toInt (show FI22 121 68 = x1 from (up_k u23 (by decide) (h2))); have := congrArg Int32.toInt (show FI22 121 67 = x4 from (up_k u23 (by decide) (h5))); omega) (by have := ((by decide : (1 : Int32).toInt = 1) : ((1 : Int32)).toInt = 1); have := ((by decide : (1 : Int32).toInt = 1) : ((1 : Int32)).toInt = 1); omega) (show rl_pm (FI22 121 90) (FI22 121 73) (FI22 166) (FI22 167) (FI22 168) from rl26)) (fun v229 sv230 p231 => ?_)
                have := congrArg Int32.toInt (show FI22 121 90 = x12 from (up_k u23 (by decide) (h13)))
                have := congrArg Int32.toInt (show FI22 121 73 = x9 from (up_k u23 (by decide) (h10)))
                have := congrArg Int32.toInt (show FI22 121 90 = x12 from (up_k u23 (by decide) (h13)))
                have := congrArg Int32.toInt (show FI22 121 73 = x9 from (up_k u23 (by decide) (h10)))
                have := congrArg Int32.toInt (show FI22 121 68 = x1 from (up_k u23 (by decide) (h2)))
                obtain ⟨r232, rfl, FI233, rfl, hI234, f235, t236, t237, t238, t239, t240, t241, u242, rl243⟩ := p231
                have rl244 : rl_e (FI233 149) (FI233 121 67) := by rw [show FI233 149 = FI22 149 from gf_row f235 (c149 hS) (s149 hS) rfl rfl, show FI233 121 67 = FI22 121 67 from gf_at f235 (c121 hS) (s121 hS) rfl rfl]; exact rl24
                have rl245 : rl_t (FI233 149) (FL 150) := by rw [show FI233 149 = FI22 149 from gf_row f235 (c149 hS) (s149 hS) rfl rfl]; exact rl25
                obtain ⟨x246, h247⟩ : ∃ y, FI233 121 90 = y := ⟨_, rfl⟩
                have h247l := congrArg Int32.toInt h247
                have b248 := gI_121_90 hI234; rw [h247] at b248
                obtain ⟨x249, h250⟩ : ∃ y, FI233 121 73 = y := ⟨_, rfl⟩
                have h250l := congrArg Int32.toInt h250
                have b251 := gI_121_73 hI234; rw [h250] at b251
                obtain ⟨x252, h253⟩ : ∃ y, FI233 121 68 = y := ⟨_, rfl⟩
                have h253l := congrArg Int32.toInt h253
                have b254 := gI_121_68 hI234; rw [h253] at b254
                show hw base _ _ _ _ _ [.int (r232)] _ _
                refine xw_iret (aX12_operator 117 rfl) rfl (i_nz rfl (by omega) (by omega)) ?_
                exact ⟨r232, rfl, FI233, rfl, hI234, (gf_tr ex_rf (gf_f gf_rf u23 (by decide)) f235 rfl rfl rfl), (by have := congrArg Int32.toInt (show FI233 121 67 = x4 from (gf_at f235 (c121 hS) (s121 hS) rfl ((up_k u23 (by decide) (h5))))); have := congrArg Int32.toInt (show FI233 121 68 = x252 from h253); omega), (by have := congrArg Int32.toInt (show FI233 121 68 = x252 from h253); omega), (by have := congrArg Int32.toInt (show FI233 121 68 = x252 from h253); have := congrArg Int32.toInt (show FI233 121 73 = x249 from h250); have := congrArg Int32.toInt (show FI233 121 90 = x246 from h247); omega), (by have := congrArg Int32.toInt (show FI233 121 73 = x249 from h250); omega), (by have := congrArg Int32.toInt (show FI233 121 90 = x246 from h247); omega), (by have := congrArg Int32.toInt (show FI233 121 68 = x252 from h253); omega), (by have := congrArg Int32.toInt (show FI233 121 69 = x7 from (gf_at f235 (c121 hS) (s121 hS) rfl ((up_k u23 (by decide) (h8))))); have := congrArg Int32.toInt (show FI233 121 71 = x15 from (gf_at f235 (c121 hS) (s121 hS) rfl ((up_k u23 (by decide) (h16))))); omega), (by omega), (by have := congrArg Int32.toInt (show FI233 121 68 = x252 from h253); have := congrArg Int32.toInt (show FI233 121 69 = x7 from (gf_at f235 (c121 hS) (s121 hS) rfl ((up_k u23 (by decide) (h8))))); have := congrArg Int32.toInt (show FI233 121 91 = (0 : Int32) from (gf_at f235 (c121 hS) (s121 hS) rfl (up_eq u23))); have := ((by decide : (0 : Int32).toInt = 0) : ((0 : Int32)).toInt = 0); have hz : ((r232)).toInt = (r232).toInt := rfl; have hm : (sk (FI233 166) (FI233 121 90).toInt.toNat) = 1 :: au_red 1 (sk (FI 166) (FI 121 90).toInt.toNat) := (by have hh := u242; rw [show ((1 : Int32)).toInt = (1 : Int) from by decide] at hh; rw [show FI22 166 = FI 166 from up_row u23 (by decide) rfl, show FI22 121 90 = FI 121 90 from up_k u23 (by decide) rfl] at hh; exact hh); have hbE := hb; rw [show FI22 149 = FI 149 from up_row u23 (by decide) rfl, show FI22 121 68 = FI 121 68 from up_k u23 (by decide) rfl] at hbE; exact fun _ => ⟨fun _ => Or.inl ⟨by omega, Or.inr (Or.inr (Or.inr (Or.inr (Or.inl ⟨rfl, by rw [hbE]; decide, by omega, rfl, by rw [hbE]; exact hm⟩))))⟩, fun h => absurd h (by omega)⟩), (by have := congrArg Int32.toInt (show FI233 121 69 = x7 from (gf_at f235 (c121 hS) (s121 hS) rfl ((up_k u23 (by decide) (h8))))); have := congrArg Int32.toInt (show FI233 121 71 = x15 from (gf_at f235 (c121 hS) (s121 hS) rfl ((up_k u23 (by decide) (h16))))); have hm : (sk (FI233 166) (FI233 121 90).toInt.toNat) = 1 :: au_red 1 (sk (FI 166) (FI 121 90).toInt.toNat) := (by have hh := u242; rw [show ((1 : Int32)).toInt = (1 : Int) from by decide] at hh; rw [show FI22 166 = FI 166 from up_row u23 (by decide) rfl, show FI22 121 90 = FI 121 90 from up_k u23 (by decide) rfl] at hh; exact hh); rw [hm]; intro _; simp only [au_op]; rw [if_pos (by decide), au_op_red (by decide) gg0 gg1]; omega), (show rl_pm (FI233 121 90) (FI233 121 73) (FI233 166) (FI233 167) (FI233 168) from rl243)⟩
            · replace t82 := t82 (by omega)
              have hq := u84.mp (by omega); rw [show ((94 : Int32)).toInt = (94 : Int) from by decide] at hq; have hb : au_bn (kf (FI22 149) (FI22 121 68).toInt.toNat) (wf (FL 150) (FI22 121 68).toInt.toNat) = 2 := au_bn_2.mpr hq
              refine hw_aloadn (aX12_operator 104 rfl) rfl ?_
              refine hw_bp (v := (39 : Int32)) (aX12_operator 105 rfl) (by decide) ?_
              refine hw_ic (v := (2 : Int32)) (aX12_operator 106 rfl) (by decide) ?_
              refine hw_callV (Bs := [.int ((39 : Int32)), .int ((2 : Int32))]) (rest := []) (aX12_operator 107 rfl) wc_RX12_610 (by decide) rfl wi_yX12_binary wv_yX12_binary (c121 hS) (s121 hS) rfl rfl rfl (Nat.le_of_ble_eq_true rfl) (Nat.le_of_ble_eq_true rfl) (n_binary (d := d + 2) hS hF hI27 ((39 : Int32)) ((2 : Int32)) (by have := congrArg Int32.toInt (show FI22 121 73 = x9 from (up_k u23 (by decide) (h10))); have := congrArg Int32.toInt (show FI22 121 90 = x12 from (up_k u23 (by decide) (h13))); omega) (by have := congrArg Int32.toInt (show FI22 121 90 = x12 from (up_k u23 (by decide) (h13))); omega) (by have := congrArg Int32.toInt (show FI22 121 68 = x1 from (up_k u23 (by decide) (h2))); have := congrArg Int32.toInt (show FI22 121 67 = x4 from (up_k u23 (by decide) (h5))); omega) (by have := ((by decide : (2 : Int32).toInt = 2) : ((2 : Int32)).toInt = 2); have := ((by decide : (2 : Int32).toInt = 2) : ((2 : Int32)).toInt = 2); omega) (show rl_pm (FI22 121 90) (FI22 121 73) (FI22 166) (FI22 167) (FI22 168) from rl26)) (fun v255 sv256 p257 => ?_)
              have := congrArg Int32.toInt (show FI22 121 90 = x12 from (up_k u23 (by decide) (h13)))
              have := congrArg Int32.toInt (show FI22 121 73 = x9 from (up_k u23 (by decide) (h10)))
              have := congrArg Int32.toInt (show FI22 121 90 = x12 from (up_k u23 (by decide) (h13)))
              have := congrArg Int32.toInt (show FI22 121 73 = x9 from (up_k u23 (by decide) (h10)))
              have := congrArg Int32.toInt (show FI22 121 68 = x1 from (up_k u23 (by decide) (h2)))
              obtain ⟨r258, rfl, FI259, rfl, hI260, f261, t262, t263, t264, t265, t266, t267, u268, rl269⟩ := p257
              have rl270 : rl_e (FI259 149) (FI259 121 67) := by rw [show FI259 149 = FI22 149 from gf_row f261 (c149 hS) (s149 hS) rfl rfl, show FI259 121 67 = FI22 121 67 from gf_at f261 (c121 hS) (s121 hS) rfl rfl]; exact rl24
              have rl271 : rl_t (FI259 149) (FL 150) := by rw [show FI259 149 = FI22 149 from gf_row f261 (c149 hS) (s149 hS) rfl rfl]; exact rl25
              obtain ⟨x272, h273⟩ : ∃ y, FI259 121 90 = y := ⟨_, rfl⟩
              have h273l := congrArg Int32.toInt h273
              have b274 := gI_121_90 hI260; rw [h273] at b274
              obtain ⟨x275, h276⟩ : ∃ y, FI259 121 73 = y := ⟨_, rfl⟩
              have h276l := congrArg Int32.toInt h276
              have b277 := gI_121_73 hI260; rw [h276] at b277
              obtain ⟨x278, h279⟩ : ∃ y, FI259 121 68 = y := ⟨_, rfl⟩
              have h279l := congrArg Int32.toInt h279
              have b280 := gI_121_68 hI260; rw [h279] at b280
              show hw base _ _ _ _ _ [.int (r258)] _ _
              refine xw_iret (aX12_operator 108 rfl) rfl (i_nz rfl (by omega) (by omega)) ?_
              exact ⟨r258, rfl, FI259, rfl, hI260, (gf_tr ex_rf (gf_f gf_rf u23 (by decide)) f261 rfl rfl rfl), (by have := congrArg Int32.toInt (show FI259 121 67 = x4 from (gf_at f261 (c121 hS) (s121 hS) rfl ((up_k u23 (by decide) (h5))))); have := congrArg Int32.toInt (show FI259 121 68 = x278 from h279); omega), (by have := congrArg Int32.toInt (show FI259 121 68 = x278 from h279); omega), (by have := congrArg Int32.toInt (show FI259 121 68 = x278 from h279); have := congrArg Int32.toInt (show FI259 121 73 = x275 from h276); have := congrArg Int32.toInt (show FI259 121 90 = x272 from h273); omega), (by have := congrArg Int32.toInt (show FI259 121 73 = x275 from h276); omega), (by have := congrArg Int32.toInt (show FI259 121 90 = x272 from h273); omega), (by have := congrArg Int32.toInt (show FI259 121 68 = x278 from h279); omega), (by have := congrArg Int32.toInt (show FI259 121 69 = x7 from (gf_at f261 (c121 hS) (s121 hS) rfl ((up_k u23 (by decide) (h8))))); have := congrArg Int32.toInt (show FI259 121 71 = x15 from (gf_at f261 (c121 hS) (s121 hS) rfl ((up_k u23 (by decide) (h16))))); omega), (by omega), (by have := congrArg Int32.toInt (show FI259 121 68 = x278 from h279); have := congrArg Int32.toInt (show FI259 121 69 = x7 from (gf_at f261 (c121 hS) (s121 hS) rfl ((up_k u23 (by decide) (h8))))); have := congrArg Int32.toInt (show FI259 121 91 = (0 : Int32) from (gf_at f261 (c121 hS) (s121 hS) rfl (up_eq u23))); have := ((by decide : (0 : Int32).toInt = 0) : ((0 : Int32)).toInt = 0); have hz : ((r258)).toInt = (r258).toInt := rfl; have hm : (sk (FI259 166) (FI259 121 90).toInt.toNat) = 2 :: au_red 2 (sk (FI 166) (FI 121 90).toInt.toNat) := (by have hh := u268; rw [show ((2 : Int32)).toInt = (2 : Int) from by decide] at hh; rw [show FI22 166 = FI 166 from up_row u23 (by decide) rfl, show FI22 121 90 = FI 121 90 from up_k u23 (by decide) rfl] at hh; exact hh); have hbE := hb; rw [show FI22 149 = FI 149 from up_row u23 (by decide) rfl, show FI22 121 68 = FI 121 68 from up_k u23 (by decide) rfl] at hbE; exact fun _ => ⟨fun _ => Or.inl ⟨by omega, Or.inr (Or.inr (Or.inr (Or.inr (Or.inl ⟨rfl, by rw [hbE]; decide, by omega, rfl, by rw [hbE]; exact hm⟩))))⟩, fun h => absurd h (by omega)⟩), (by have := congrArg Int32.toInt (show FI259 121 69 = x7 from (gf_at f261 (c121 hS) (s121 hS) rfl ((up_k u23 (by decide) (h8))))); have := congrArg Int32.toInt (show FI259 121 71 = x15 from (gf_at f261 (c121 hS) (s121 hS) rfl ((up_k u23 (by decide) (h16))))); have hm : (sk (FI259 166) (FI259 121 90).toInt.toNat) = 2 :: au_red 2 (sk (FI 166) (FI 121 90).toInt.toNat) := (by have hh := u268; rw [show ((2 : Int32)).toInt = (2 : Int) from by decide] at hh; rw [show FI22 166 = FI 166 from up_row u23 (by decide) rfl, show FI22 121 90 = FI 121 90 from up_k u23 (by decide) rfl] at hh; exact hh); rw [hm]; intro _; simp only [au_op]; rw [if_pos (by decide), au_op_red (by decide) gg0 gg1]; omega), (show rl_pm (FI259 121 90) (FI259 121 73) (FI259 166) (FI259 167) (FI259 168) from rl269)⟩
          · replace t73 := t73 (by omega)
            have hq := u75.mp (by omega); rw [show ((38 : Int32)).toInt = (38 : Int) from by decide] at hq; have hb : au_bn (kf (FI22 149) (FI22 121 68).toInt.toNat) (wf (FL 150) (FI22 121 68).toInt.toNat) = 3 := au_bn_3.mpr hq
            refine hw_aloadn (aX12_operator 95 rfl) rfl ?_
            refine hw_bp (v := (26 : Int32)) (aX12_operator 96 rfl) (by decide) ?_
            refine hw_ic (v := (3 : Int32)) (aX12_operator 97 rfl) (by decide) ?_
            refine hw_callV (Bs := [.int ((26 : Int32)), .int ((3 : Int32))]) (rest := []) (aX12_operator 98 rfl) wc_RX12_610 (by decide) rfl wi_yX12_binary wv_yX12_binary (c121 hS) (s121 hS) rfl rfl rfl (Nat.le_of_ble_eq_true rfl) (Nat.le_of_ble_eq_true rfl) (n_binary (d := d + 2) hS hF hI27 ((26 : Int32)) ((3 : Int32)) (by have := congrArg Int32.toInt (show FI22 121 73 = x9 from (up_k u23 (by decide) (h10))); have := congrArg Int32.toInt (show FI22 121 90 = x12 from (up_k u23 (by decide) (h13))); omega) (by have := congrArg Int32.toInt (show FI22 121 90 = x12 from (up_k u23 (by decide) (h13))); omega) (by have := congrArg Int32.toInt (show FI22 121 68 = x1 from (up_k u23 (by decide) (h2))); have := congrArg Int32.toInt (show FI22 121 67 = x4 from (up_k u23 (by decide) (h5))); omega) (by have := ((by decide : (3 : Int32).toInt = 3) : ((3 : Int32)).toInt = 3); have := ((by decide : (3 : Int32).toInt = 3) : ((3 : Int32)).toInt = 3); omega) (show rl_pm (FI22 121 90) (FI22 121 73) (FI22 166) (FI22 167) (FI22 168) from rl26)) (fun v281 sv282 p283 => ?_)
            have := congrArg Int32.toInt (show FI22 121 90 = x12 from (up_k u23 (by decide) (h13)))
            have := congrArg Int32.toInt (show FI22 121 73 = x9 from (up_k u23 (by decide) (h10)))
            have := congrArg Int32.toInt (show FI22 121 90 = x12 from (up_k u23 (by decide) (h13)))
            have := congrArg Int32.toInt (show FI22 121 73 = x9 from (up_k u23 (by decide) (h10)))
            have := congrArg Int32.toInt (show FI22 121 68 = x1 from (up_k u23 (by decide) (h2)))
            obtain ⟨r284, rfl, FI285, rfl, hI286, f287, t288, t289, t290, t291, t292, t293, u294, rl295⟩ := p283
            have rl296 : rl_e (FI285 149) (FI285 121 67) := by rw [show FI285 149 = FI22 149 from gf_row f287 (c149 hS) (s149 hS) rfl rfl, show FI285 121 67 = FI22 121 67 from gf_at f287 (c121 hS) (s121 hS) rfl rfl]; exact rl24
            have rl297 : rl_t (FI285 149) (FL 150) := by rw [show FI285 149 = FI22 149 from gf_row f287 (c149 hS) (s149 hS) rfl rfl]; exact rl25
            obtain ⟨x298, h299⟩ : ∃ y, FI285 121 90 = y := ⟨_, rfl⟩
            have h299l := congrArg Int32.toInt h299
            have b300 := gI_121_90 hI286; rw [h299] at b300
            obtain ⟨x301, h302⟩ : ∃ y, FI285 121 73 = y := ⟨_, rfl⟩
            have h302l := congrArg Int32.toInt h302
            have b303 := gI_121_73 hI286; rw [h302] at b303
            obtain ⟨x304, h305⟩ : ∃ y, FI285 121 68 = y := ⟨_, rfl⟩
            have h305l := congrArg Int32.toInt h305
            have b306 := gI_121_68 hI286; rw [h305] at b306
            show hw base _ _ _ _ _ [.int (r284)] _ _
            refine xw_iret (aX12_operator 99 rfl) rfl (i_nz rfl (by omega) (by omega)) ?_
            exact ⟨r284, rfl, FI285, rfl, hI286, (gf_tr ex_rf (gf_f gf_rf u23 (by decide)) f287 rfl rfl rfl), (by have := congrArg Int32.toInt (show FI285 121 67 = x4 from (gf_at f287 (c121 hS) (s121 hS) rfl ((up_k u23 (by decide) (h5))))); have := congrArg Int32.toInt (show FI285 121 68 = x304 from h305); omega), (by have := congrArg Int32.toInt (show FI285 121 68 = x304 from h305); omega), (by have := congrArg Int32.toInt (show FI285 121 68 = x304 from h305); have := congrArg Int32.toInt (show FI285 121 73 = x301 from h302); have := congrArg Int32.toInt (show FI285 121 90 = x298 from h299); omega), (by have := congrArg Int32.toInt (show FI285 121 73 = x301 from h302); omega), (by have := congrArg Int32.toInt (show FI285 121 90 = x298 from h299); omega), (by have := congrArg Int32.toInt (show FI285 121 68 = x304 from h305); omega), (by have := congrArg Int32.toInt (show FI285 121 69 = x7 from (gf_at f287 (c121 hS) (s121 hS) rfl ((up_k u23 (by decide) (h8))))); have := congrArg Int32.toInt (show FI285 121 71 = x15 from (gf_at f287 (c121 hS) (s121 hS) rfl ((up_k u23 (by decide) (h16))))); omega), (by omega), (by have := congrArg Int32.toInt (show FI285 121 68 = x304 from h305); have := congrArg Int32.toInt (show FI285 121 69 = x7 from (gf_at f287 (c121 hS) (s121 hS) rfl ((up_k u23 (by decide) (h8))))); have := congrArg Int32.toInt (show FI285 121 91 = (0 : Int32) from (gf_at f287 (c121 hS) (s121 hS) rfl (up_eq u23))); have := ((by decide : (0 : Int32).toInt = 0) : ((0 : Int32)).toInt = 0); have hz : ((r284)).toInt = (r284).toInt := rfl; have hm : (sk (FI285 166) (FI285 121 90).toInt.toNat) = 3 :: au_red 3 (sk (FI 166) (FI 121 90).toInt.toNat) := (by have hh := u294; rw [show ((3 : Int32)).toInt = (3 : Int) from by decide] at hh; rw [show FI22 166 = FI 166 from up_row u23 (by decide) rfl, show FI22 121 90 = FI 121 90 from up_k u23 (by decide) rfl] at hh; exact hh); have hbE := hb; rw [show FI22 149 = FI 149 from up_row u23 (by decide) rfl, show FI22 121 68 = FI 121 68 from up_k u23 (by decide) rfl] at hbE; exact fun _ => ⟨fun _ => Or.inl ⟨by omega, Or.inr (Or.inr (Or.inr (Or.inr (Or.inl ⟨rfl, by rw [hbE]; decide, by omega, rfl, by rw [hbE]; exact hm⟩))))⟩, fun h => absurd h (by omega)⟩), (by have := congrArg Int32.toInt (show FI285 121 69 = x7 from (gf_at f287 (c121 hS) (s121 hS) rfl ((up_k u23 (by decide) (h8))))); have := congrArg Int32.toInt (show FI285 121 71 = x15 from (gf_at f287 (c121 hS) (s121 hS) rfl ((up_k u23 (by decide) (h16))))); have hm : (sk (FI285 166) (FI285 121 90).toInt.toNat) = 3 :: au_red 3 (sk (FI 166) (FI 121 90).toInt.toNat) := (by have hh := u294; rw [show ((3 : Int32)).toInt = (3 : Int) from by decide] at hh; rw [show FI22 166 = FI 166 from up_row u23 (by decide) rfl, show FI22 121 90 = FI 121 90 from up_k u23 (by decide) rfl] at hh; exact hh); rw [hm]; intro _; simp only [au_op]; rw [if_pos (by decide), au_op_red (by decide) gg0 gg1]; omega), (show rl_pm (FI285 121 90) (FI285 121 73) (FI285 166) (FI285 167) (FI285 168) from rl295)⟩
        · have hb : au_bn (kf (FI22 149) (FI22 121 68).toInt.toNat) (wf (FL 150) (FI22 121 68).toInt.toNat) = 4 := by rw [hk1, hw1]; exact au_bn_4.mpr (hid_e t65 (by omega))
          have hlt : (x1).toInt < (x4).toInt - 1 := by have hM := hid_e t65 (by omega); clear hw1; have := hnn (by omega); omega
          refine hw_aloadn (aX12_operator 69 rfl) rfl ?_
          refine hw_ic (v := (5 : Int32)) (aX12_operator 70 rfl) (by decide) ?_
          refine hw_callV (Bs := [.int ((5 : Int32))]) (rest := []) (aX12_operator 71 rfl) wc_RX12_566 (by decide) rfl wi_yX12_reduced wv_yX12_reduced (c121 hS) (s121 hS) rfl rfl rfl (Nat.le_of_ble_eq_true rfl) (Nat.le_of_ble_eq_true rfl) (n_reduced (d := d + 3) hS hF hI27 ((5 : Int32)) (by have := congrArg Int32.toInt (show FI22 121 73 = x9 from (up_k u23 (by decide) (h10))); have := congrArg Int32.toInt (show FI22 121 90 = x12 from (up_k u23 (by decide) (h13))); omega) (by have := ((by decide : (5 : Int32).toInt = 5) : ((5 : Int32)).toInt = 5); have := ((by decide : (5 : Int32).toInt = 5) : ((5 : Int32)).toInt = 5); omega) (show rl_pm (FI22 121 90) (FI22 121 73) (FI22 166) (FI22 167) (FI22 168) from rl26)) (fun v307 sv308 p309 => ?_)
          have := congrArg Int32.toInt (show FI22 121 90 = x12 from (up_k u23 (by decide) (h13)))
          have := congrArg Int32.toInt (show FI22 121 73 = x9 from (up_k u23 (by decide) (h10)))
          have := congrArg Int32.toInt (show FI22 121 90 = x12 from (up_k u23 (by decide) (h13)))
          have := congrArg Int32.toInt (show FI22 121 73 = x9 from (up_k u23 (by decide) (h10)))
          obtain ⟨rfl, FI311, rfl, hI312, f313, t314, t315, t316, u317, rl318⟩ := p309
          have rl319 : rl_e (FI311 149) (FI311 121 67) := by rw [show FI311 149 = FI22 149 from gf_row f313 (c149 hS) (s149 hS) rfl rfl, show FI311 121 67 = FI22 121 67 from gf_at f313 (c121 hS) (s121 hS) rfl rfl]; exact rl24
          have rl320 : rl_t (FI311 149) (FL 150) := by rw [show FI311 149 = FI22 149 from gf_row f313 (c149 hS) (s149 hS) rfl rfl]; exact rl25
          obtain ⟨x321, h322⟩ : ∃ y, FI311 121 90 = y := ⟨_, rfl⟩
          have h322l := congrArg Int32.toInt h322
          have b323 := gI_121_90 hI312; rw [h322] at b323
          obtain ⟨x324, h325⟩ : ∃ y, FI311 121 73 = y := ⟨_, rfl⟩
          have h325l := congrArg Int32.toInt h325
          have b326 := gI_121_73 hI312; rw [h325] at b326
          show hw base _ _ _ _ _ [] _ _
          refine hw_aloadn (aX12_operator 72 rfl) rfl ?_
          refine hw_callV (Bs := []) (rest := []) (aX12_operator 73 rfl) wc_RX12_559 (by decide) rfl wi_yX12_tops wv_yX12_tops (c121 hS) (s121 hS) rfl rfl rfl (Nat.le_of_ble_eq_true rfl) (Nat.le_of_ble_eq_true rfl) (n_tops (d := d + 4) hS hF hI312 ) (fun v327 sv328 p329 => ?_)
          have := congrArg Int32.toInt (show FI311 121 90 = x321 from h322)
          obtain ⟨r330, rfl, rfl, t332, u333, u334⟩ := p329
          have rg_r330 := i_rng r330
          show hw base _ _ _ _ _ [.int (r330)] _ _
          refine hw_ic (v := (4 : Int32)) (aX12_operator 74 rfl) (by decide) ?_
          refine hw_icne (tgt := 138) (aX12_operator 75 rfl) (by decide) rfl (by decide : (4 : Int32).toInt = 4) (fun cd335 => ?_) (fun cd335 => ?_)
          · refine hw_aloadn (aX12_operator 79 rfl) rfl ?_
            refine hw_get (v := .int (x7)) (aX12_operator 80 rfl) wf_RX12_475 (c121 hS) (s121 hS) (by decide) (congrArg Value.int (show FI311 121 69 = x7 from (gf_at f313 (c121 hS) (s121 hS) rfl ((up_k u23 (by decide) (h8)))))) ?_
            refine hw_ifne (tgt := 158) (aX12_operator 81 rfl) (by decide) rfl (fun cd336 => ?_) (fun cd336 => ?_)
            · omega
            · refine hw_aloadn (aX12_operator 82 rfl) rfl ?_
              refine xw_iloadn (aX12_operator 83 rfl) rfl ?_
              refine hw_ic (v := (4 : Int32)) (aX12_operator 84 rfl) (by decide) ?_
              refine hw_callV (Bs := [.int (r62), .int ((4 : Int32))]) (rest := []) (aX12_operator 85 rfl) wc_RX12_610 (by decide) rfl wi_yX12_binary wv_yX12_binary (c121 hS) (s121 hS) rfl rfl rfl (Nat.le_of_ble_eq_true rfl) (Nat.le_of_ble_eq_true rfl) (n_binary (d := d + 2) hS hF hI312 (r62) ((4 : Int32)) (by have := congrArg Int32.toInt (show FI311 121 73 = x324 from h325); have := congrArg Int32.toInt (show FI311 121 90 = x321 from h322); omega) (by have := congrArg Int32.toInt (show FI311 121 90 = x321 from h322); omega) (by have := congrArg Int32.toInt (show FI311 121 68 = x1 from (gf_at f313 (c121 hS) (s121 hS) rfl ((up_k u23 (by decide) (h2))))); have := congrArg Int32.toInt (show FI311 121 67 = x4 from (gf_at f313 (c121 hS) (s121 hS) rfl ((up_k u23 (by decide) (h5))))); omega) (by have := ((by decide : (4 : Int32).toInt = 4) : ((4 : Int32)).toInt = 4); have := ((by decide : (4 : Int32).toInt = 4) : ((4 : Int32)).toInt = 4); omega) (show rl_pm (FI311 121 90) (FI311 121 73) (FI311 166) (FI311 167) (FI311 168) from rl318)) (fun v337 sv338 p339 => ?_)
              have := congrArg Int32.toInt (show FI311 121 90 = x321 from h322)
              have := congrArg Int32.toInt (show FI311 121 73 = x324 from h325)
              have := congrArg Int32.toInt (show FI311 121 90 = x321 from h322)
              have := congrArg Int32.toInt (show FI311 121 73 = x324 from h325)
              have := congrArg Int32.toInt (show FI311 121 68 = x1 from (gf_at f313 (c121 hS) (s121 hS) rfl ((up_k u23 (by decide) (h2)))))
              obtain ⟨r340, rfl, FI341, rfl, hI342, f343, t344, t345, t346, t347, t348, t349, u350, rl351⟩ := p339
              have rl352 : rl_e (FI341 149) (FI341 121 67) := by rw [show FI341 149 = FI311 149 from gf_row f343 (c149 hS) (s149 hS) rfl rfl, show FI341 121 67 = FI311 121 67 from gf_at f343 (c121 hS) (s121 hS) rfl rfl]; exact rl319
              have rl353 : rl_t (FI341 149) (FL 150) := by rw [show FI341 149 = FI311 149 from gf_row f343 (c149 hS) (s149 hS) rfl rfl]; exact rl320
              obtain ⟨x354, h355⟩ : ∃ y, FI341 121 90 = y := ⟨_, rfl⟩
              have h355l := congrArg Int32.toInt h355
              have b356 := gI_121_90 hI342; rw [h355] at b356
              obtain ⟨x357, h358⟩ : ∃ y, FI341 121 73 = y := ⟨_, rfl⟩
              have h358l := congrArg Int32.toInt h358
              have b359 := gI_121_73 hI342; rw [h358] at b359
              obtain ⟨x360, h361⟩ : ∃ y, FI341 121 68 = y := ⟨_, rfl⟩
              have h361l := congrArg Int32.toInt h361
              have b362 := gI_121_68 hI342; rw [h361] at b362
              show hw base _ _ _ _ _ [.int (r340)] _ _
              refine hw_ifeq (tgt := 158) (aX12_operator 86 rfl) (by decide) rfl (fun cd363 => ?_) (fun cd363 => ?_)
              · omega
              · refine hw_ic (v := (1 : Int32)) (aX12_operator 87 rfl) (by decide) ?_
                refine xw_goto (tgt := 159) (aX12_operator 88 rfl) (by decide) ?_
                refine xw_iret (aX12_operator 90 rfl) rfl (by decide) ?_
                have e364 : ((1 : Int32)).toInt = 1 := (by decide : (1 : Int32).toInt = 1)
                exact ⟨(1 : Int32), rfl, FI341, rfl, hI342, (gf_tr ex_rf (gf_tr ex_rf (gf_f gf_rf u23 (by decide)) f313 rfl rfl rfl) f343 rfl rfl rfl), (by have : ((1 : Int32)).toInt = 1 := (by decide); have := congrArg Int32.toInt (show FI341 121 67 = x4 from (gf_at f343 (c121 hS) (s121 hS) rfl ((gf_at f313 (c121 hS) (s121 hS) rfl ((up_k u23 (by decide) (h5))))))); have := congrArg Int32.toInt (show FI341 121 68 = x360 from h361); omega), (by have : ((1 : Int32)).toInt = 1 := (by decide); have := congrArg Int32.toInt (show FI341 121 68 = x360 from h361); omega), (by have : ((1 : Int32)).toInt = 1 := (by decide); have := congrArg Int32.toInt (show FI341 121 68 = x360 from h361); have := congrArg Int32.toInt (show FI341 121 73 = x357 from h358); have := congrArg Int32.toInt (show FI341 121 90 = x354 from h355); omega), (by have : ((1 : Int32)).toInt = 1 := (by decide); have := congrArg Int32.toInt (show FI341 121 73 = x357 from h358); omega), (by have : ((1 : Int32)).toInt = 1 := (by decide); have := congrArg Int32.toInt (show FI341 121 90 = x354 from h355); omega), (by have : ((1 : Int32)).toInt = 1 := (by decide); have := congrArg Int32.toInt (show FI341 121 68 = x360 from h361); omega), (by have : ((1 : Int32)).toInt = 1 := (by decide); have := congrArg Int32.toInt (show FI341 121 69 = x7 from (gf_at f343 (c121 hS) (s121 hS) rfl ((gf_at f313 (c121 hS) (s121 hS) rfl ((up_k u23 (by decide) (h8))))))); have := congrArg Int32.toInt (show FI341 121 71 = x15 from (gf_at f343 (c121 hS) (s121 hS) rfl ((gf_at f313 (c121 hS) (s121 hS) rfl ((up_k u23 (by decide) (h16))))))); omega), (by have : ((1 : Int32)).toInt = 1 := (by decide); omega), (by have := congrArg Int32.toInt (show FI341 121 68 = x360 from h361); have := congrArg Int32.toInt (show FI341 121 69 = x7 from (gf_at f343 (c121 hS) (s121 hS) rfl ((gf_at f313 (c121 hS) (s121 hS) rfl ((up_k u23 (by decide) (h8))))))); have := congrArg Int32.toInt (show FI341 121 91 = (0 : Int32) from (gf_at f343 (c121 hS) (s121 hS) rfl ((gf_at f313 (c121 hS) (s121 hS) rfl (up_eq u23))))); have := ((by decide : (0 : Int32).toInt = 0) : ((0 : Int32)).toInt = 0); have hz : (((1 : Int32))).toInt = 1 := (by decide : (1 : Int32).toInt = 1); have hm : (sk (FI341 166) (FI341 121 90).toInt.toNat) = 4 :: au_red 4 (sk (FI 166) (FI 121 90).toInt.toNat) := (by have hh := u350; rw [show ((4 : Int32)).toInt = (4 : Int) from by decide] at hh; rw [show FI311 166 = FI22 166 from (gf_row f313 (c166 hS) (s166 hS) rfl (rfl)), show FI311 121 90 = FI311 121 90 from (h322).trans (h322).symm] at hh; have hy5 := u317; rw [show ((5 : Int32)).toInt = (5 : Int) from by decide] at hy5; rw [hy5, au_red_red (by decide)] at hh; rw [show FI22 166 = FI 166 from up_row u23 (by decide) rfl, show FI22 121 90 = FI 121 90 from up_k u23 (by decide) rfl] at hh; exact hh); have hbE := hb; rw [show FI22 149 = FI 149 from up_row u23 (by decide) rfl, show FI22 121 68 = FI 121 68 from up_k u23 (by decide) rfl] at hbE; exact fun _ => ⟨fun _ => Or.inl ⟨by omega, Or.inr (Or.inr (Or.inr (Or.inr (Or.inl ⟨rfl, by rw [hbE]; decide, by omega, rfl, by rw [hbE]; exact hm⟩))))⟩, fun h => absurd h (by omega)⟩), (by have := congrArg Int32.toInt (show FI341 121 69 = x7 from (gf_at f343 (c121 hS) (s121 hS) rfl ((gf_at f313 (c121 hS) (s121 hS) rfl ((up_k u23 (by decide) (h8))))))); have := congrArg Int32.toInt (show FI341 121 71 = x15 from (gf_at f343 (c121 hS) (s121 hS) rfl ((gf_at f313 (c121 hS) (s121 hS) rfl ((up_k u23 (by decide) (h16))))))); have hm : (sk (FI341 166) (FI341 121 90).toInt.toNat) = 4 :: au_red 4 (sk (FI 166) (FI 121 90).toInt.toNat) := (by have hh := u350; rw [show ((4 : Int32)).toInt = (4 : Int) from by decide] at hh; rw [show FI311 166 = FI22 166 from (gf_row f313 (c166 hS) (s166 hS) rfl (rfl)), show FI311 121 90 = FI311 121 90 from (h322).trans (h322).symm] at hh; have hy5 := u317; rw [show ((5 : Int32)).toInt = (5 : Int) from by decide] at hy5; rw [hy5, au_red_red (by decide)] at hh; rw [show FI22 166 = FI 166 from up_row u23 (by decide) rfl, show FI22 121 90 = FI 121 90 from up_k u23 (by decide) rfl] at hh; exact hh); rw [hm]; intro _; simp only [au_op]; rw [if_pos (by decide), au_op_red (by decide) gg0 gg1]; omega), (show rl_pm (FI341 121 90) (FI341 121 73) (FI341 166) (FI341 167) (FI341 168) from rl351)⟩
          · refine hw_aloadn (aX12_operator 76 rfl) rfl ?_
            refine hw_ic (v := (1 : Int32)) (aX12_operator 77 rfl) (by decide) ?_
            refine hw_callV (Bs := [.int ((1 : Int32))]) (rest := []) (aX12_operator 78 rfl) wc_RX12_487 (by decide) rfl wi_yX12_fail wv_yX12_fail (c121 hS) (s121 hS) rfl rfl rfl (Nat.le_of_ble_eq_true rfl) (Nat.le_of_ble_eq_true rfl) (n_fail (d := d + 4) hS hF hI312 ((1 : Int32)) (by have := ((by decide : (1 : Int32).toInt = 1) : ((1 : Int32)).toInt = 1); omega)) (fun v365 sv366 p367 => ?_)
            obtain ⟨rfl, FI369, rfl, hI370, f371, t372⟩ := p367
            have rl373 : rl_e (FI369 149) (FI369 121 67) := by rw [show FI369 149 = FI311 149 from gf_row f371 (c149 hS) (s149 hS) rfl rfl, show FI369 121 67 = FI311 121 67 from gf_at f371 (c121 hS) (s121 hS) rfl rfl]; exact rl319
            have rl374 : rl_t (FI369 149) (FL 150) := by rw [show FI369 149 = FI311 149 from gf_row f371 (c149 hS) (s149 hS) rfl rfl]; exact rl320
            have rl375 : rl_pm (FI369 121 90) (FI369 121 73) (FI369 166) (FI369 167) (FI369 168) := by rw [show FI369 166 = FI311 166 from gf_row f371 (c166 hS) (s166 hS) rfl rfl, show FI369 167 = FI311 167 from gf_row f371 (c167 hS) (s167 hS) rfl rfl, show FI369 168 = FI311 168 from gf_row f371 (c168 hS) (s168 hS) rfl rfl, show FI369 121 90 = FI311 121 90 from gf_at f371 (c121 hS) (s121 hS) rfl rfl, show FI369 121 73 = FI311 121 73 from gf_at f371 (c121 hS) (s121 hS) rfl rfl]; exact rl318
            obtain ⟨x376, h377⟩ : ∃ y, FI369 121 69 = y := ⟨_, rfl⟩
            have h377l := congrArg Int32.toInt h377
            have := i_rng x376
            show hw base _ _ _ _ _ [] _ _
            refine hw_aloadn (aX12_operator 79 rfl) rfl ?_
            refine hw_get (v := .int (x376)) (aX12_operator 80 rfl) wf_RX12_475 (c121 hS) (s121 hS) (by decide) (congrArg Value.int (show FI369 121 69 = x376 from h377)) ?_
            refine hw_ifne (tgt := 158) (aX12_operator 81 rfl) (by decide) rfl (fun cd378 => ?_) (fun cd378 => ?_)
            · refine hw_ic (v := (0 : Int32)) (aX12_operator 89 rfl) (by decide) ?_
              refine xw_iret (aX12_operator 90 rfl) rfl (by decide) ?_
              have e379 : ((0 : Int32)).toInt = 0 := (by decide : (0 : Int32).toInt = 0)
              exact ⟨(0 : Int32), rfl, FI369, rfl, hI370, (gf_tr ex_rf (gf_tr ex_rf (gf_f gf_rf u23 (by decide)) f313 rfl rfl rfl) f371 rfl rfl rfl), (by have : ((0 : Int32)).toInt = 0 := (by decide); have := congrArg Int32.toInt (show FI369 121 67 = x4 from (gf_at f371 (c121 hS) (s121 hS) rfl ((gf_at f313 (c121 hS) (s121 hS) rfl ((up_k u23 (by decide) (h5))))))); have := congrArg Int32.toInt (show FI369 121 68 = x1 from (gf_at f371 (c121 hS) (s121 hS) rfl ((gf_at f313 (c121 hS) (s121 hS) rfl ((up_k u23 (by decide) (h2))))))); omega), (by have : ((0 : Int32)).toInt = 0 := (by decide); have := congrArg Int32.toInt (show FI369 121 68 = x1 from (gf_at f371 (c121 hS) (s121 hS) rfl ((gf_at f313 (c121 hS) (s121 hS) rfl ((up_k u23 (by decide) (h2))))))); omega), (by have : ((0 : Int32)).toInt = 0 := (by decide); have := congrArg Int32.toInt (show FI369 121 68 = x1 from (gf_at f371 (c121 hS) (s121 hS) rfl ((gf_at f313 (c121 hS) (s121 hS) rfl ((up_k u23 (by decide) (h2))))))); have := congrArg Int32.toInt (show FI369 121 73 = x324 from (gf_at f371 (c121 hS) (s121 hS) rfl (h325))); have := congrArg Int32.toInt (show FI369 121 90 = x321 from (gf_at f371 (c121 hS) (s121 hS) rfl (h322))); omega), (by have : ((0 : Int32)).toInt = 0 := (by decide); have := congrArg Int32.toInt (show FI369 121 73 = x324 from (gf_at f371 (c121 hS) (s121 hS) rfl (h325))); omega), (by have : ((0 : Int32)).toInt = 0 := (by decide); have := congrArg Int32.toInt (show FI369 121 90 = x321 from (gf_at f371 (c121 hS) (s121 hS) rfl (h322))); omega), (by have : ((0 : Int32)).toInt = 0 := (by decide); have := congrArg Int32.toInt (show FI369 121 68 = x1 from (gf_at f371 (c121 hS) (s121 hS) rfl ((gf_at f313 (c121 hS) (s121 hS) rfl ((up_k u23 (by decide) (h2))))))); omega), (by have : ((0 : Int32)).toInt = 0 := (by decide); have := congrArg Int32.toInt (show FI369 121 69 = x376 from h377); have := congrArg Int32.toInt (show FI369 121 71 = x15 from (gf_at f371 (c121 hS) (s121 hS) rfl ((gf_at f313 (c121 hS) (s121 hS) rfl ((up_k u23 (by decide) (h16))))))); omega), (by have : ((0 : Int32)).toInt = 0 := (by decide); omega), (by have := congrArg Int32.toInt (show FI369 121 69 = x376 from h377); exact fun h => absurd h (by omega)), (by have := congrArg Int32.toInt (show FI369 121 69 = x376 from h377); exact fun h => absurd h (by omega)), (show rl_pm (FI369 121 90) (FI369 121 73) (FI369 166) (FI369 167) (FI369 168) from rl375)⟩
            · omega
      · have hb : au_bn (kf (FI22 149) (FI22 121 68).toInt.toNat) (wf (FL 150) (FI22 121 68).toInt.toNat) = 5 := by rw [hk1, hw1]; exact au_bn_5.mpr (hid_e t56 (by omega))
        have hlt : (x1).toInt < (x4).toInt - 1 := by have hM := hid_e t56 (by omega); clear hw1; have := hnn (by omega); omega
        refine hw_aloadn (aX12_operator 48 rfl) rfl ?_
        refine xw_iloadn (aX12_operator 49 rfl) rfl ?_
        refine hw_ic (v := (5 : Int32)) (aX12_operator 50 rfl) (by decide) ?_
        refine hw_callV (Bs := [.int (r53), .int ((5 : Int32))]) (rest := []) (aX12_operator 51 rfl) wc_RX12_610 (by decide) rfl wi_yX12_binary wv_yX12_binary (c121 hS) (s121 hS) rfl rfl rfl (Nat.le_of_ble_eq_true rfl) (Nat.le_of_ble_eq_true rfl) (n_binary (d := d + 2) hS hF hI27 (r53) ((5 : Int32)) (by have := congrArg Int32.toInt (show FI22 121 73 = x9 from (up_k u23 (by decide) (h10))); have := congrArg Int32.toInt (show FI22 121 90 = x12 from (up_k u23 (by decide) (h13))); omega) (by have := congrArg Int32.toInt (show FI22 121 90 = x12 from (up_k u23 (by decide) (h13))); omega) (by have := congrArg Int32.toInt (show FI22 121 68 = x1 from (up_k u23 (by decide) (h2))); have := congrArg Int32.toInt (show FI22 121 67 = x4 from (up_k u23 (by decide) (h5))); omega) (by have := ((by decide : (5 : Int32).toInt = 5) : ((5 : Int32)).toInt = 5); have := ((by decide : (5 : Int32).toInt = 5) : ((5 : Int32)).toInt = 5); omega) (show rl_pm (FI22 121 90) (FI22 121 73) (FI22 166) (FI22 167) (FI22 168) from rl26)) (fun v380 sv381 p382 => ?_)
        have := congrArg Int32.toInt (show FI22 121 90 = x12 from (up_k u23 (by decide) (h13)))
        have := congrArg Int32.toInt (show FI22 121 73 = x9 from (up_k u23 (by decide) (h10)))
        have := congrArg Int32.toInt (show FI22 121 90 = x12 from (up_k u23 (by decide) (h13)))
        have := congrArg Int32.toInt (show FI22 121 73 = x9 from (up_k u23 (by decide) (h10)))
        have := congrArg Int32.toInt (show FI22 121 68 = x1 from (up_k u23 (by decide) (h2)))
        obtain ⟨r383, rfl, FI384, rfl, hI385, f386, t387, t388, t389, t390, t391, t392, u393, rl394⟩ := p382
        have rl395 : rl_e (FI384 149) (FI384 121 67) := by rw [show FI384 149 = FI22 149 from gf_row f386 (c149 hS) (s149 hS) rfl rfl, show FI384 121 67 = FI22 121 67 from gf_at f386 (c121 hS) (s121 hS) rfl rfl]; exact rl24
        have rl396 : rl_t (FI384 149) (FL 150) := by rw [show FI384 149 = FI22 149 from gf_row f386 (c149 hS) (s149 hS) rfl rfl]; exact rl25
        obtain ⟨x397, h398⟩ : ∃ y, FI384 121 90 = y := ⟨_, rfl⟩
        have h398l := congrArg Int32.toInt h398
        have b399 := gI_121_90 hI385; rw [h398] at b399
        obtain ⟨x400, h401⟩ : ∃ y, FI384 121 73 = y := ⟨_, rfl⟩
        have h401l := congrArg Int32.toInt h401
        have b402 := gI_121_73 hI385; rw [h401] at b402
        obtain ⟨x403, h404⟩ : ∃ y, FI384 121 68 = y := ⟨_, rfl⟩
        have h404l := congrArg Int32.toInt h404
        have b405 := gI_121_68 hI385; rw [h404] at b405
        show hw base _ _ _ _ _ [.int (r383)] _ _
        refine xw_iret (aX12_operator 52 rfl) rfl (i_nz rfl (by omega) (by omega)) ?_
        exact ⟨r383, rfl, FI384, rfl, hI385, (gf_tr ex_rf (gf_f gf_rf u23 (by decide)) f386 rfl rfl rfl), (by have := congrArg Int32.toInt (show FI384 121 67 = x4 from (gf_at f386 (c121 hS) (s121 hS) rfl ((up_k u23 (by decide) (h5))))); have := congrArg Int32.toInt (show FI384 121 68 = x403 from h404); omega), (by have := congrArg Int32.toInt (show FI384 121 68 = x403 from h404); omega), (by have := congrArg Int32.toInt (show FI384 121 68 = x403 from h404); have := congrArg Int32.toInt (show FI384 121 73 = x400 from h401); have := congrArg Int32.toInt (show FI384 121 90 = x397 from h398); omega), (by have := congrArg Int32.toInt (show FI384 121 73 = x400 from h401); omega), (by have := congrArg Int32.toInt (show FI384 121 90 = x397 from h398); omega), (by have := congrArg Int32.toInt (show FI384 121 68 = x403 from h404); omega), (by have := congrArg Int32.toInt (show FI384 121 69 = x7 from (gf_at f386 (c121 hS) (s121 hS) rfl ((up_k u23 (by decide) (h8))))); have := congrArg Int32.toInt (show FI384 121 71 = x15 from (gf_at f386 (c121 hS) (s121 hS) rfl ((up_k u23 (by decide) (h16))))); omega), (by omega), (by have := congrArg Int32.toInt (show FI384 121 68 = x403 from h404); have := congrArg Int32.toInt (show FI384 121 69 = x7 from (gf_at f386 (c121 hS) (s121 hS) rfl ((up_k u23 (by decide) (h8))))); have := congrArg Int32.toInt (show FI384 121 91 = (0 : Int32) from (gf_at f386 (c121 hS) (s121 hS) rfl (up_eq u23))); have := ((by decide : (0 : Int32).toInt = 0) : ((0 : Int32)).toInt = 0); have hz : ((r383)).toInt = (r383).toInt := rfl; have hm : (sk (FI384 166) (FI384 121 90).toInt.toNat) = 5 :: au_red 5 (sk (FI 166) (FI 121 90).toInt.toNat) := (by have hh := u393; rw [show ((5 : Int32)).toInt = (5 : Int) from by decide] at hh; rw [show FI22 166 = FI 166 from up_row u23 (by decide) rfl, show FI22 121 90 = FI 121 90 from up_k u23 (by decide) rfl] at hh; exact hh); have hbE := hb; rw [show FI22 149 = FI 149 from up_row u23 (by decide) rfl, show FI22 121 68 = FI 121 68 from up_k u23 (by decide) rfl] at hbE; exact fun _ => ⟨fun _ => Or.inl ⟨by omega, Or.inr (Or.inr (Or.inr (Or.inr (Or.inl ⟨rfl, by rw [hbE]; decide, by omega, rfl, by rw [hbE]; exact hm⟩))))⟩, fun h => absurd h (by omega)⟩), (by have := congrArg Int32.toInt (show FI384 121 69 = x7 from (gf_at f386 (c121 hS) (s121 hS) rfl ((up_k u23 (by decide) (h8))))); have := congrArg Int32.toInt (show FI384 121 71 = x15 from (gf_at f386 (c121 hS) (s121 hS) rfl ((up_k u23 (by decide) (h16))))); have hm : (sk (FI384 166) (FI384 121 90).toInt.toNat) = 5 :: au_red 5 (sk (FI 166) (FI 121 90).toInt.toNat) := (by have hh := u393; rw [show ((5 : Int32)).toInt = (5 : Int) from by decide] at hh; rw [show FI22 166 = FI 166 from up_row u23 (by decide) rfl, show FI22 121 90 = FI 121 90 from up_k u23 (by decide) rfl] at hh; exact hh); rw [hm]; intro _; simp only [au_op]; rw [if_pos (by decide), au_op_red (by decide) gg0 gg1]; omega), (show rl_pm (FI384 121 90) (FI384 121 73) (FI384 166) (FI384 167) (FI384 168) from rl394)⟩
    · replace t46 := t46 (by omega)
      have hg5 := u48.mp (by omega); rw [show (x1).toInt.toNat = (FI22 121 68).toInt.toNat from congrArg (fun x : Int32 => x.toInt.toNat) ((up_k u23 (by decide) (h2))).symm] at hg5
      refine hw_aloadn (aX12_operator 29 rfl) rfl ?_
      refine hw_callV (Bs := []) (rest := []) (aX12_operator 30 rfl) wc_RX12_614 (by decide) rfl wi_yX12_added wv_yX12_added (c121 hS) (s121 hS) rfl rfl rfl (Nat.le_of_ble_eq_true rfl) (Nat.le_of_ble_eq_true rfl) (n_added (d := d + 2) hS hF hI27 (by have := congrArg Int32.toInt (show FI22 121 68 = x1 from (up_k u23 (by decide) (h2))); have := congrArg Int32.toInt (show FI22 121 67 = x4 from (up_k u23 (by decide) (h5))); omega) (by have := congrArg Int32.toInt (show FI22 121 69 = x7 from (up_k u23 (by decide) (h8))); omega) (by have := congrArg Int32.toInt (show FI22 121 73 = x9 from (up_k u23 (by decide) (h10))); have := congrArg Int32.toInt (show FI22 121 90 = x12 from (up_k u23 (by decide) (h13))); omega) (by have := congrArg Int32.toInt (show FI22 121 90 = x12 from (up_k u23 (by decide) (h13))); omega) (by have := congrArg Int32.toInt (show FI22 121 91 = (0 : Int32) from up_eq u23); have := ((by decide : (0 : Int32).toInt = 0) : ((0 : Int32)).toInt = 0); omega) (hg5) (by rw [show FI22 166 = FI 166 from up_row u23 (by decide) rfl, show FI22 121 90 = FI 121 90 from up_k u23 (by decide) rfl]; exact gg0) (by rw [show FI22 166 = FI 166 from up_row u23 (by decide) rfl, show FI22 121 90 = FI 121 90 from up_k u23 (by decide) rfl]; exact gg1) (show rl_e (FI22 149) (FI22 121 67) from rl24) (show rl_t (FI22 149) (FL 150) from rl25) (show rl_pm (FI22 121 90) (FI22 121 73) (FI22 166) (FI22 167) (FI22 168) from rl26)) (fun v406 sv407 p408 => ?_)
      have := congrArg Int32.toInt (show FI22 121 68 = x1 from (up_k u23 (by decide) (h2)))
      have := congrArg Int32.toInt (show FI22 121 73 = x9 from (up_k u23 (by decide) (h10)))
      have := congrArg Int32.toInt (show FI22 121 90 = x12 from (up_k u23 (by decide) (h13)))
      have := congrArg Int32.toInt (show FI22 121 68 = x1 from (up_k u23 (by decide) (h2)))
      have := congrArg Int32.toInt (show FI22 121 73 = x9 from (up_k u23 (by decide) (h10)))
      have := congrArg Int32.toInt (show FI22 121 90 = x12 from (up_k u23 (by decide) (h13)))
      have := congrArg Int32.toInt (show FI22 121 68 = x1 from (up_k u23 (by decide) (h2)))
      obtain ⟨r409, rfl, FI410, rfl, hI411, f412, t413, t414, t415, t416, t417, t418, t419, t420, u421, u422, rl423⟩ := p408
      have rl424 : rl_e (FI410 149) (FI410 121 67) := by rw [show FI410 149 = FI22 149 from gf_row f412 (c149 hS) (s149 hS) rfl rfl, show FI410 121 67 = FI22 121 67 from gf_at f412 (c121 hS) (s121 hS) rfl rfl]; exact rl24
      have rl425 : rl_t (FI410 149) (FL 150) := by rw [show FI410 149 = FI22 149 from gf_row f412 (c149 hS) (s149 hS) rfl rfl]; exact rl25
      obtain ⟨x426, h427⟩ : ∃ y, FI410 121 68 = y := ⟨_, rfl⟩
      have h427l := congrArg Int32.toInt h427
      have b428 := gI_121_68 hI411; rw [h427] at b428
      have := congrArg Int32.toInt (show FI410 121 67 = x4 from (gf_at f412 (c121 hS) (s121 hS) rfl ((up_k u23 (by decide) (h5)))))
      obtain ⟨x429, h430⟩ : ∃ y, FI410 121 73 = y := ⟨_, rfl⟩
      have h430l := congrArg Int32.toInt h430
      have b431 := gI_121_73 hI411; rw [h430] at b431
      obtain ⟨x432, h433⟩ : ∃ y, FI410 121 90 = y := ⟨_, rfl⟩
      have h433l := congrArg Int32.toInt h433
      have b434 := gI_121_90 hI411; rw [h433] at b434
      show hw base _ _ _ _ _ [.int (r409)] _ _
      refine xw_iret (aX12_operator 31 rfl) rfl (i_nz rfl (by omega) (by omega)) ?_
      obtain ⟨x435, h436⟩ : ∃ y, FI410 121 91 = y := ⟨_, rfl⟩
      have h436l := congrArg Int32.toInt h436
      have b437 := gI_121_91 hI411; rw [h436] at b437
      exact ⟨r409, rfl, FI410, rfl, hI411, (gf_tr ex_rf (gf_f gf_rf u23 (by decide)) f412 rfl rfl rfl), (by have := congrArg Int32.toInt (show FI410 121 67 = x4 from (gf_at f412 (c121 hS) (s121 hS) rfl ((up_k u23 (by decide) (h5))))); have := congrArg Int32.toInt (show FI410 121 68 = x426 from h427); omega), (by have := congrArg Int32.toInt (show FI410 121 68 = x426 from h427); omega), (by have := congrArg Int32.toInt (show FI410 121 68 = x426 from h427); have := congrArg Int32.toInt (show FI410 121 73 = x429 from h430); have := congrArg Int32.toInt (show FI410 121 90 = x432 from h433); omega), (by have := congrArg Int32.toInt (show FI410 121 73 = x429 from h430); omega), (by have := congrArg Int32.toInt (show FI410 121 90 = x432 from h433); omega), (by have := congrArg Int32.toInt (show FI410 121 68 = x426 from h427); omega), (by have := congrArg Int32.toInt (show FI410 121 69 = x7 from (gf_at f412 (c121 hS) (s121 hS) rfl ((up_k u23 (by decide) (h8))))); have := congrArg Int32.toInt (show FI410 121 71 = x15 from (gf_at f412 (c121 hS) (s121 hS) rfl ((up_k u23 (by decide) (h16))))); omega), (by omega), (by have := congrArg Int32.toInt (show FI410 121 68 = x426 from h427); have := congrArg Int32.toInt (show FI410 121 69 = x7 from (gf_at f412 (c121 hS) (s121 hS) rfl ((up_k u23 (by decide) (h8))))); have := congrArg Int32.toInt (show FI410 121 91 = x435 from h436); have hz : ((r409)).toInt = (r409).toInt := rfl; have hh := u421; rw [show FI22 149 = FI 149 from up_row u23 (by decide) rfl, show FI22 166 = FI 166 from up_row u23 (by decide) rfl, show FI22 121 68 = FI 121 68 from up_k u23 (by decide) rfl, show FI22 121 90 = FI 121 90 from up_k u23 (by decide) rfl] at hh; exact fun _ => ⟨fun _ => hh, fun h => absurd h (by omega)⟩), (by have hh := u422; rw [show FI22 166 = FI 166 from up_row u23 (by decide) rfl, show FI22 121 90 = FI 121 90 from up_k u23 (by decide) rfl, show FI22 121 71 = FI 121 71 from up_k u23 (by decide) rfl] at hh; exact fun _ => hh), (show rl_pm (FI410 121 90) (FI410 121 73) (FI410 166) (FI410 167) (FI410 168) from rl423)⟩
  · have hb : au_bn (kf (FI22 149) (FI22 121 68).toInt.toNat) (wf (FL 150) (FI22 121 68).toInt.toNat) = 7 := by rw [hk1, hw1]; exact au_bn_7.mpr (hid_e t38 (by omega))
    have hlt : (x1).toInt < (x4).toInt - 1 := by have hM := hid_e t38 (by omega); clear hw1; have := hnn (by omega); omega
    refine hw_aloadn (aX12_operator 19 rfl) rfl ?_
    refine xw_iloadn (aX12_operator 20 rfl) rfl ?_
    refine hw_bp (v := (7 : Int32)) (aX12_operator 21 rfl) (by decide) ?_
    refine hw_callV (Bs := [.int (r35), .int ((7 : Int32))]) (rest := []) (aX12_operator 22 rfl) wc_RX12_610 (by decide) rfl wi_yX12_binary wv_yX12_binary (c121 hS) (s121 hS) rfl rfl rfl (Nat.le_of_ble_eq_true rfl) (Nat.le_of_ble_eq_true rfl) (n_binary (d := d + 2) hS hF hI27 (r35) ((7 : Int32)) (by have := congrArg Int32.toInt (show FI22 121 73 = x9 from (up_k u23 (by decide) (h10))); have := congrArg Int32.toInt (show FI22 121 90 = x12 from (up_k u23 (by decide) (h13))); omega) (by have := congrArg Int32.toInt (show FI22 121 90 = x12 from (up_k u23 (by decide) (h13))); omega) (by have := congrArg Int32.toInt (show FI22 121 68 = x1 from (up_k u23 (by decide) (h2))); have := congrArg Int32.toInt (show FI22 121 67 = x4 from (up_k u23 (by decide) (h5))); omega) (by have := ((by decide : (7 : Int32).toInt = 7) : ((7 : Int32)).toInt = 7); have := ((by decide : (7 : Int32).toInt = 7) : ((7 : Int32)).toInt = 7); omega) (show rl_pm (FI22 121 90) (FI22 121 73) (FI22 166) (FI22 167) (FI22 168) from rl26)) (fun v438 sv439 p440 => ?_)
    have := congrArg Int32.toInt (show FI22 121 90 = x12 from (up_k u23 (by decide) (h13)))
    have := congrArg Int32.toInt (show FI22 121 73 = x9 from (up_k u23 (by decide) (h10)))
    have := congrArg Int32.toInt (show FI22 121 90 = x12 from (up_k u23 (by decide) (h13)))
    have := congrArg Int32.toInt (show FI22 121 73 = x9 from (up_k u23 (by decide) (h10)))
    have := congrArg Int32.toInt (show FI22 121 68 = x1 from (up_k u23 (by decide) (h2)))
    obtain ⟨r441, rfl, FI442, rfl, hI443, f444, t445, t446, t447, t448, t449, t450, u451, rl452⟩ := p440
    have rl453 : rl_e (FI442 149) (FI442 121 67) := by rw [show FI442 149 = FI22 149 from gf_row f444 (c149 hS) (s149 hS) rfl rfl, show FI442 121 67 = FI22 121 67 from gf_at f444 (c121 hS) (s121 hS) rfl rfl]; exact rl24
    have rl454 : rl_t (FI442 149) (FL 150) := by rw [show FI442 149 = FI22 149 from gf_row f444 (c149 hS) (s149 hS) rfl rfl]; exact rl25
    obtain ⟨x455, h456⟩ : ∃ y, FI442 121 90 = y := ⟨_, rfl⟩
    have h456l := congrArg Int32.toInt h456
    have b457 := gI_121_90 hI443; rw [h456] at b457
    obtain ⟨x458, h459⟩ : ∃ y, FI442 121 73 = y := ⟨_, rfl⟩
    have h459l := congrArg Int32.toInt h459
    have b460 := gI_121_73 hI443; rw [h459] at b460
    obtain ⟨x461, h462⟩ : ∃ y, FI442 121 68 = y := ⟨_, rfl⟩
    have h462l := congrArg Int32.toInt h462
    have b463 := gI_121_68 hI443; rw [h462] at b463
    show hw base _ _ _ _ _ [.int (r441)] _ _
    refine xw_iret (aX12_operator 23 rfl) rfl (i_nz rfl (by omega) (by omega)) ?_
    exact ⟨r441, rfl, FI442, rfl, hI443, (gf_tr ex_rf (gf_f gf_rf u23 (by decide)) f444 rfl rfl rfl), (by have := congrArg Int32.toInt (show FI442 121 67 = x4 from (gf_at f444 (c121 hS) (s121 hS) rfl ((up_k u23 (by decide) (h5))))); have := congrArg Int32.toInt (show FI442 121 68 = x461 from h462); omega), (by have := congrArg Int32.toInt (show FI442 121 68 = x461 from h462); omega), (by have := congrArg Int32.toInt (show FI442 121 68 = x461 from h462); have := congrArg Int32.toInt (show FI442 121 73 = x458 from h459); have := congrArg Int32.toInt (show FI442 121 90 = x455 from h456); omega), (by have := congrArg Int32.toInt (show FI442 121 73 = x458 from h459); omega), (by have := congrArg Int32.toInt (show FI442 121 90 = x455 from h456); omega), (by have := congrArg Int32.toInt (show FI442 121 68 = x461 from h462); omega), (by have := congrArg Int32.toInt (show FI442 121 69 = x7 from (gf_at f444 (c121 hS) (s121 hS) rfl ((up_k u23 (by decide) (h8))))); have := congrArg Int32.toInt (show FI442 121 71 = x15 from (gf_at f444 (c121 hS) (s121 hS) rfl ((up_k u23 (by decide) (h16))))); omega), (by omega), (by have := congrArg Int32.toInt (show FI442 121 68 = x461 from h462); have := congrArg Int32.toInt (show FI442 121 69 = x7 from (gf_at f444 (c121 hS) (s121 hS) rfl ((up_k u23 (by decide) (h8))))); have := congrArg Int32.toInt (show FI442 121 91 = (0 : Int32) from (gf_at f444 (c121 hS) (s121 hS) rfl (up_eq u23))); have := ((by decide : (0 : Int32).toInt = 0) : ((0 : Int32)).toInt = 0); have hz : ((r441)).toInt = (r441).toInt := rfl; have hm : (sk (FI442 166) (FI442 121 90).toInt.toNat) = 7 :: au_red 7 (sk (FI 166) (FI 121 90).toInt.toNat) := (by have hh := u451; rw [show ((7 : Int32)).toInt = (7 : Int) from by decide] at hh; rw [show FI22 166 = FI 166 from up_row u23 (by decide) rfl, show FI22 121 90 = FI 121 90 from up_k u23 (by decide) rfl] at hh; exact hh); have hbE := hb; rw [show FI22 149 = FI 149 from up_row u23 (by decide) rfl, show FI22 121 68 = FI 121 68 from up_k u23 (by decide) rfl] at hbE; exact fun _ => ⟨fun _ => Or.inl ⟨by omega, Or.inr (Or.inr (Or.inr (Or.inr (Or.inl ⟨rfl, by rw [hbE]; decide, by omega, rfl, by rw [hbE]; exact hm⟩))))⟩, fun h => absurd h (by omega)⟩), (by have := congrArg Int32.toInt (show FI442 121 69 = x7 from (gf_at f444 (c121 hS) (s121 hS) rfl ((up_k u23 (by decide) (h8))))); have := congrArg Int32.toInt (show FI442 121 71 = x15 from (gf_at f444 (c121 hS) (s121 hS) rfl ((up_k u23 (by decide) (h16))))); have hm : (sk (FI442 166) (FI442 121 90).toInt.toNat) = 7 :: au_red 7 (sk (FI 166) (FI 121 90).toInt.toNat) := (by have hh := u451; rw [show ((7 : Int32)).toInt = (7 : Int) from by decide] at hh; rw [show FI22 166 = FI 166 from up_row u23 (by decide) rfl, show FI22 121 90 = FI 121 90 from up_k u23 (by decide) rfl] at hh; exact hh); rw [hm]; intro _; simp only [au_op]; rw [if_pos (by decide), au_op_red (by decide) gg0 gg1]; omega), (show rl_pm (FI442 121 90) (FI442 121 73) (FI442 166) (FI442 167) (FI442 168) from rl452)⟩
