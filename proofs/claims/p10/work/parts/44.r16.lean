def nX12_operator : Nat := 0xac6f02b62aac044f1c64042c02b42aa000b42a4402b6fe10032a1a02b62af901b605092a3ded01b42af001b628102a3602b6042a320099e401b63f102aac6202b60421102a0b0099e401b67c102aac6202b60527102a0b0099e401b65e102aac6202b6061a102a0b0099e401b626102aac030400a7040700996202b6071b2a10009adb01b42ae701b6042a0800a0072f02b62a3602b6082a2b009f021b3c6c02b62fde01b42a6c00b42a2ede01b42a6900b42a2aac6202b6081b2a0a009f021b3c6902b62fde01b42a6c00b42a2ede01b42a6900b42a2aac6602b62a0800995702b6de01b42a2aac6202b607101b2a0b009f021b3c5f02b62fde01b42a6c00b42a2ede01b42a6900b42a2a4102b5032a
theorem bX12_operator : cX12_operator.data.toList.map UInt8.toNat = x_un nX12_operator 272 := by decide +kernel
def iX12_operator : List (Nat × Jvm.ClassFile.Instr × Nat) := [(0, .aload_n 0, 1), (1, .iconst 0, 1), (2, .putfield 577, 3), (5, .aload_n 0, 1), (6, .aload_n 0, 1), (7, .getfield 105, 3), (10, .aload_n 0, 1), (11, .getfield 478, 3), (14, .iaload, 1), (15, .aload_n 0, 1), (16, .getfield 108, 3), (19, .aload_n 0, 1), (20, .getfield 478, 3), (23, .laload, 1), (24, .invokevirtual 607, 3), (27, .istore_n 1, 1), (28, .iload_n 1, 1), (29, .iconst (-1), 1), (30, .if_icmp .eq 11, 3), (33, .aload_n 0, 1), (34, .iload_n 1, 1), (35, .bipush 7, 2), (37, .invokevirtual 610, 3), (40, .ireturn, 1), (41, .aload_n 0, 1), (42, .aload_n 0, 1), (43, .getfield 478, 3), (46, .invokevirtual 599, 3), (49, .ifCond .eq 8, 3), (52, .aload_n 0, 1), (53, .invokevirtual 614, 3), (56, .ireturn, 1), (57, .aload_n 0, 1), (58, .aload_n 0, 1), (59, .getfield 105, 3), (62, .aload_n 0, 1), (63, .getfield 478, 3), (66, .iaload, 1), (67, .aload_n 0, 1), (68, .getfield 108, 3), (71, .aload_n 0, 1), (72, .getfield 478, 3), (75, .laload, 1), (76, .invokevirtual 617, 3), (79, .istore_n 1, 1), (80, .iload_n 1, 1), (81, .iconst (-1), 1), (82, .if_icmp .eq 10, 3), (85, .aload_n 0, 1), (86, .iload_n 1, 1), (87, .iconst 5, 1), (88, .invokevirtual 610, 3), (91, .ireturn, 1), (92, .aload_n 0, 1), (93, .aload_n 0, 1), (94, .getfield 105, 3), (97, .aload_n 0, 1), (98, .getfield 478, 3), (101, .iaload, 1), (102, .aload_n 0, 1), (103, .getfield 108, 3), (106, .aload_n 0, 1), (107, .getfield 478, 3), (110, .laload, 1), (111, .invokevirtual 620, 3), (114, .istore_n 1, 1), (115, .iload_n 1, 1), (116, .iconst (-1), 1), (117, .if_icmp .eq 43, 3), (120, .aload_n 0, 1), (121, .iconst 5, 1), (122, .invokevirtual 566, 3), (125, .aload_n 0, 1), (126, .invokevirtual 559, 3), (129, .iconst 4, 1), (130, .if_icmp .ne 8, 3), (133, .aload_n 0, 1), (134, .iconst 1, 1), (135, .invokevirtual 487, 3), (138, .aload_n 0, 1), (139, .getfield 475, 3), (142, .ifCond .ne 16, 3), (145, .aload_n 0, 1), (146, .iload_n 1, 1), (147, .iconst 4, 1), (148, .invokevirtual 610, 3), (151, .ifCond .eq 7, 3), (154, .iconst 1, 1), (155, .goto 4, 3), (158, .iconst 0, 1), (159, .ireturn, 1), (160, .aload_n 0, 1), (161, .bipush 38, 2), (163, .invokevirtual 484, 3), (166, .ifCond .eq 11, 3), (169, .aload_n 0, 1), (170, .bipush 26, 2), (172, .iconst 3, 1), (173, .invokevirtual 610, 3), (176, .ireturn, 1), (177, .aload_n 0, 1), (178, .bipush 94, 2), (180, .invokevirtual 484, 3), (183, .ifCond .eq 11, 3), (186, .aload_n 0, 1), (187, .bipush 39, 2), (189, .iconst 2, 1), (190, .invokevirtual 610, 3), (193, .ireturn, 1), (194, .aload_n 0, 1), (195, .bipush 124, 2), (197, .invokevirtual 484, 3), (200, .ifCond .eq 11, 3), (203, .aload_n 0, 1), (204, .bipush 33, 2), (206, .iconst 1, 1), (207, .invokevirtual 610, 3), (210, .ireturn, 1), (211, .aload_n 0, 1), (212, .bipush 63, 2), (214, .invokevirtual 484, 3), (217, .ifCond .eq 50, 3), (220, .aload_n 0, 1), (221, .iconst 1, 1), (222, .invokevirtual 566, 3), (225, .aload_n 0, 1), (226, .bipush 40, 2), (228, .invokevirtual 496, 3), (231, .aload_n 0, 1), (232, .getfield 493, 3), (235, .istore_n 2, 1), (236, .aload_n 0, 1), (237, .lconst 0, 1), (238, .iconst 2, 1), (239, .invokevirtual 505, 3), (242, .aload_n 0, 1), (243, .invokevirtual 538, 3), (246, .aload_n 0, 1), (247, .iconst 0, 1), (248, .bipush (-2), 2), (250, .invokevirtual 580, 3), (253, .aload_n 0, 1), (254, .getfield 160, 3), (257, .aload_n 0, 1), (258, .getfield 556, 3), (261, .iconst 1, 1), (262, .isub, 1), (263, .iload_n 2, 1), (264, .iastore, 1), (265, .iconst 1, 1), (266, .ireturn, 1), (267, .aload_n 0, 1), (268, .invokevirtual 623, 3), (271, .ireturn, 1)]
theorem dX12_operator : x_il nX12_operator 272 iX12_operator = true := by decide +kernel
theorem aX12_operator (k : Nat) {pc : Nat} {i : Jvm.ClassFile.Instr} {len : Nat} (hk : iX12_operator[k]? = some (pc, i, len)) : x_at xMM 242 pc i len yX12_operator 3 (some .boolean) := ⟨cX12_operator, rfl, x_il_ok bX12_operator dX12_operator k hk⟩
set_option maxHeartbeats 4000000 in
set_option maxRecDepth 100000 in
theorem n_operator {base d n sl : Nat} {SH : Nat → Nat × Nat} {FI : Nat → Nat → Int32} {FL : Nat → Nat → Int64} {FR : Nat → Nat → Option Nat} (hS : h_S n SH) (hF : h_FR FR) (hI : g_I FI) (g0 : (FI 121 68).toInt ≤ (FI 121 67).toInt - 1) (g1 : (FI 121 69).toInt = 0) (g2 : (FI 121 73).toInt + 4 * (FI 121 90).toInt ≤ 27000) (g3 : (FI 121 90).toInt ≤ 200) (g4 : 0 ≤ (FI 121 71).toInt ∧ (FI 121 71).toInt ≤ 12) (gg0 : au_ok (sk (FI 166) (FI 121 90).toInt.toNat)) (gg1 : ∀ y r, (sk (FI 166) (FI 121 90).toInt.toNat) = y :: r → y ≠ 9) (rel_tend : rl_e (FI 149) (FI 121 67)) (rel_tok : rl_t (FI 149) (FL 150)) (rel_pm : rl_pm (FI 121 90) (FI 121 73) (FI 166) (FI 167) (FI 168)) : hw base (d + 5) none 242 0 [(0, .ref (base + 121))] [] (n, sl, SH, FI, FL, FR) (h_I (fun r s => ∃ FI', s = (n, sl, SH, FI', FL, FR) ∧ g_I FI' ∧ g_fr n SH [(121, 68), (121, 69), (121, 70), (121, 71), (121, 73), (121, 90), (121, 91)] [154, 164, 165, 166, 167, 168] [] FI FI' ∧ ((FI' 121 68).toInt ≤ (FI' 121 67).toInt - 1) ∧ ((FI 121 68).toInt ≤ (FI' 121 68).toInt) ∧ ((FI' 121 73).toInt + 4 * (FI' 121 90).toInt ≤ (FI 121 73).toInt + 4 * (FI 121 90).toInt + 20 * ((FI' 121 68).toInt - (FI 121 68).toInt)) ∧ ((FI 121 73).toInt ≤ (FI' 121 73).toInt) ∧ ((FI' 121 90).toInt ≤ (FI 121 90).toInt + 1) ∧ (r.toInt = 1 → (FI 121 68).toInt < (FI' 121 68).toInt) ∧ ((FI' 121 69).toInt = 0 → (FI' 121 71).toInt ≤ 12) ∧ (hid ((FI' 121 69).toInt = 0 ∧ r.toInt = 0 → (FI' 121 90).toInt = 0)) ∧ (0 ≤ r.toInt ∧ r.toInt ≤ 1) ∧ ((FI' 121 69).toInt = 0 → (r.toInt = 1 → co_opr (kf (FI 149)) (wf (FL 150)) (FI 121 68).toInt.toNat (sk (FI 166) (FI 121 90).toInt.toNat) (FI' 121 68).toInt.toNat (FI' 121 91).toInt (sk (FI' 166) (FI' 121 90).toInt.toNat)) ∧ (r.toInt = 0 → co_end (kf (FI 149)) (wf (FL 150)) (FI 121 68).toInt.toNat (sk (FI 166) (FI 121 90).toInt.toNat) ∧ (FI' 121 68).toInt.toNat = (FI 121 68).toInt.toNat)) ∧ ((FI' 121 69).toInt = 0 → (FI' 121 71).toInt - (au_op (sk (FI' 166) (FI' 121 90).toInt.toNat) : Int) = (FI 121 71).toInt - (au_op (sk (FI 166) (FI 121 90).toInt.toNat) : Int)) ∧ (rl_pm (FI' 121 90) (FI' 121 73) (FI' 166) (FI' 167) (FI' 168)))) := by
  obtain ⟨x1, h2⟩ : ∃ y, FI 121 68 = y := ⟨_, rfl⟩
  have h2l := congrArg Int32.toInt h2
  have b3 := gI_121_68 hI; rw [h2] at b3
  obtain ⟨x4, h5⟩ : ∃ y, FI 121 67 = y := ⟨_, rfl⟩
  have h5l := congrArg Int32.toInt h5
  have b6 := gI_121_67 hI; rw [h5] at b6
  obtain ⟨x7, h8⟩ : ∃ y, FI 121 69 = y := ⟨_, rfl⟩
  have h8l := congrArg Int32.toInt h8
  have := i_rng x7
  obtain ⟨x9, h10⟩ : ∃ y, FI 121 73 = y := ⟨_, rfl⟩
  have h10l := congrArg Int32.toInt h10
  have b11 := gI_121_73 hI; rw [h10] at b11
  obtain ⟨x12, h13⟩ : ∃ y, FI 121 90 = y := ⟨_, rfl⟩
  have h13l := congrArg Int32.toInt h13
  have b14 := gI_121_90 hI; rw [h13] at b14
  obtain ⟨x15, h16⟩ : ∃ y, FI 121 71 = y := ⟨_, rfl⟩
  have h16l := congrArg Int32.toInt h16
  have := i_rng x15
  obtain ⟨x17, h18⟩ : ∃ y, FI 121 91 = y := ⟨_, rfl⟩
  have h18l := congrArg Int32.toInt h18
  have b19 := gI_121_91 hI; rw [h18] at b19
  have e20 : 0 ≤ (x15).toInt ∧ (x15).toInt ≤ 12 := by omega
  have e21 : 0 ≤ (x7).toInt ∧ (x7).toInt ≤ 0 := by omega
  refine hw_aloadn (aX12_operator 0 rfl) rfl ?_
  refine hw_ic (v := (0 : Int32)) (aX12_operator 1 rfl) (by decide) ?_
  refine hv_putz (aX12_operator 2 rfl) wf_RX12_577 (c121 hS) (s121 hS) (by decide) rfl rfl (by decide) (fun FI22 u23 => ?_)
  have rl24 : rl_e (FI22 149) (FI22 121 67) := by rw [show FI22 149 = FI 149 from up_row u23 (by decide) rfl, show FI22 121 67 = FI 121 67 from up_k u23 (by decide) rfl]; exact rel_tend
  have rl25 : rl_t (FI22 149) (FL 150) := by rw [show FI22 149 = FI 149 from up_row u23 (by decide) rfl]; exact rel_tok
  have rl26 : rl_pm (FI22 121 90) (FI22 121 73) (FI22 166) (FI22 167) (FI22 168) := by rw [show FI22 166 = FI 166 from up_row u23 (by decide) rfl, show FI22 167 = FI 167 from up_row u23 (by decide) rfl, show FI22 168 = FI 168 from up_row u23 (by decide) rfl, show FI22 121 90 = FI 121 90 from up_k u23 (by decide) rfl, show FI22 121 73 = FI 121 73 from up_k u23 (by decide) rfl]; exact rel_pm
  have hI27 : g_I FI22 := gU_121_91 hI u23 (by have := ((by decide : (0 : Int32).toInt = 0) : ((0 : Int32)).toInt = 0); omega) (by have := ((by decide : (0 : Int32).toInt = 0) : ((0 : Int32)).toInt = 0); omega)
  refine hw_aloadn (aX12_operator 3 rfl) rfl ?_
  refine hw_aloadn (aX12_operator 4 rfl) rfl ?_
  refine hw_get (v := .ref (base + 149)) (aX12_operator 5 rfl) wf_RX12_105 (c121 hS) (s121 hS) (by decide) (congrArg (fun r => va_rf (h_rf base r)) (r121_62 hF)) ?_
  refine hw_aloadn (aX12_operator 6 rfl) rfl ?_
  refine hw_get (v := .int (x1)) (aX12_operator 7 rfl) wf_RX12_478 (c121 hS) (s121 hS) (by decide) (congrArg Value.int (show FI22 121 68 = x1 from (up_k u23 (by decide) (h2)))) ?_
  obtain ⟨x28, h29⟩ : ∃ y, FI22 149 (x1).toNatClampNeg = y := ⟨_, rfl⟩
  have h29l := congrArg Int32.toInt h29
  have := i_rng x28
  refine hw_iald (v := x28) (aX12_operator 8 rfl) (c149 hS) (s149 hS) (h_in rfl (by omega) (by omega)) (show FI22 149 (x1).toNatClampNeg = x28 from h29) ?_
  refine hw_aloadn (aX12_operator 9 rfl) rfl ?_
  refine hw_get (v := .ref (base + 150)) (aX12_operator 10 rfl) wf_RX12_108 (c121 hS) (s121 hS) (by decide) (congrArg (fun r => va_rf (h_rf base r)) (r121_63 hF)) ?_
  refine hw_aloadn (aX12_operator 11 rfl) rfl ?_
  refine hw_get (v := .int (x1)) (aX12_operator 12 rfl) wf_RX12_478 (c121 hS) (s121 hS) (by decide) (congrArg Value.int (show FI22 121 68 = x1 from (up_k u23 (by decide) (h2)))) ?_
  obtain ⟨x30, h31⟩ : ∃ y, FL 150 (x1).toNatClampNeg = y := ⟨_, rfl⟩
  have h31l := congrArg Int64.toInt h31
  have := l_rng x30
  refine hw_lald (v := x30) (aX12_operator 13 rfl) (c150 hS) (s150 hS) (h_in rfl (by omega) (by omega)) (show FL 150 (x1).toNatClampNeg = x30 from h31) ?_
  refine hw_callV (Bs := [.int (x28), .long (x30)]) (rest := []) (aX12_operator 14 rfl) wc_RX12_607 (by decide) rfl wi_yX12_multiplies wv_yX12_multiplies (c121 hS) (s121 hS) rfl rfl rfl (Nat.le_of_ble_eq_true rfl) (Nat.le_of_ble_eq_true rfl) (n_multiplies (d := d + 4) hS hF hI27 (x28) (x30) ) (fun v32 sv33 p34 => ?_)
  obtain ⟨r35, rfl, rfl, t37, t38, t39⟩ := p34
  have rg_r35 := i_rng r35
  show hw base _ _ _ _ _ [.int (r35)] _ _
  refine xw_istoren (L2 := [(1, .int (r35)), (0, .ref (base + 121))]) (aX12_operator 15 rfl) (by decide) rfl ?_
  have ee1 : (FI22 121 68).toInt.toNat = (x1).toNatClampNeg := (i_cl (congrArg Int32.toInt ((up_k u23 (by decide) (h2)))).symm).symm
  have hk1 : kf (FI22 149) (FI22 121 68).toInt.toNat = (x28).toInt := by unfold kf; rw [ee1, show FI22 149 (x1).toNatClampNeg = x28 from h29]
  have hw1 : wf (FL 150) (FI22 121 68).toInt.toNat = (x30).toInt := by unfold wf; rw [ee1, show FL 150 (x1).toNatClampNeg = x30 from h31]
  have hnn := fun h => rl_e_ne rl24 (t := x1) h
  have := congrArg Int32.toInt (show FI22 121 67 = x4 from (up_k u23 (by decide) (h5)))
  refine xw_iloadn (aX12_operator 16 rfl) rfl ?_
  refine hw_ic (v := ((-1) : Int32)) (aX12_operator 17 rfl) (by decide) ?_
  refine hw_iceq (tgt := 41) (aX12_operator 18 rfl) (by decide) rfl (by decide : ((-1) : Int32).toInt = (-1)) (fun cd40 => ?_) (fun cd40 => ?_)
  · have nb7 : au_bn (kf (FI22 149) (FI22 121 68).toInt.toNat) (wf (FL 150) (FI22 121 68).toInt.toNat) ≠ 7 := fun h => by rw [hk1, hw1] at h; exact absurd (hid_e t39 (au_bn_7.mp h)) (by omega)
    refine hw_aloadn (aX12_operator 24 rfl) rfl ?_
    refine hw_aloadn (aX12_operator 25 rfl) rfl ?_
    refine hw_get (v := .int (x1)) (aX12_operator 26 rfl) wf_RX12_478 (c121 hS) (s121 hS) (by decide) (congrArg Value.int (show FI22 121 68 = x1 from (up_k u23 (by decide) (h2)))) ?_
    refine hw_callV (Bs := [.int (x1)]) (rest := []) (aX12_operator 27 rfl) wc_RX12_599 (by decide) rfl wi_yX12_adds wv_yX12_adds (c121 hS) (s121 hS) rfl rfl rfl (Nat.le_of_ble_eq_true rfl) (Nat.le_of_ble_eq_true rfl) (n_adds (d := d + 4) hS hF hI27 (x1) (by have := congrArg Int32.toInt (show FI22 121 67 = x4 from (up_k u23 (by decide) (h5))); omega) (by omega) (show rl_e (FI22 149) (FI22 121 67) from rl24)) (fun v41 sv42 p43 => ?_)
    have := congrArg Int32.toInt (show FI22 121 67 = x4 from (up_k u23 (by decide) (h5)))
    obtain ⟨r44, rfl, rfl, t46, t47, u48⟩ := p43
    show hw base _ _ _ _ _ [.int (r44)] _ _
    refine hw_ifeq (tgt := 57) (aX12_operator 28 rfl) (by decide) rfl (fun cd49 => ?_) (fun cd49 => ?_)
    · clear t46
      have nb6 : au_bn (kf (FI22 149) (FI22 121 68).toInt.toNat) (wf (FL 150) (FI22 121 68).toInt.toNat) ≠ 6 := fun h => by have hh := au_bn_6.mp h; have := u48.mpr (by rw [show (x1).toInt.toNat = (FI22 121 68).toInt.toNat from congrArg (fun x : Int32 => x.toInt.toNat) ((up_k u23 (by decide) (h2))).symm]; exact hh); omega
      refine hw_aloadn (aX12_operator 32 rfl) rfl ?_
      refine hw_aloadn (aX12_operator 33 rfl) rfl ?_
      refine hw_get (v := .ref (base + 149)) (aX12_operator 34 rfl) wf_RX12_105 (c121 hS) (s121 hS) (by decide) (congrArg (fun r => va_rf (h_rf base r)) (r121_62 hF)) ?_
      refine hw_aloadn (aX12_operator 35 rfl) rfl ?_
      refine hw_get (v := .int (x1)) (aX12_operator 36 rfl) wf_RX12_478 (c121 hS) (s121 hS) (by decide) (congrArg Value.int (show FI22 121 68 = x1 from (up_k u23 (by decide) (h2)))) ?_
      refine hw_iald (v := x28) (aX12_operator 37 rfl) (c149 hS) (s149 hS) (h_in rfl (by omega) (by omega)) (show FI22 149 (x1).toNatClampNeg = x28 from h29) ?_
      refine hw_aloadn (aX12_operator 38 rfl) rfl ?_
      refine hw_get (v := .ref (base + 150)) (aX12_operator 39 rfl) wf_RX12_108 (c121 hS) (s121 hS) (by decide) (congrArg (fun r => va_rf (h_rf base r)) (r121_63 hF)) ?_
      refine hw_aloadn (aX12_operator 40 rfl) rfl ?_
      refine hw_get (v := .int (x1)) (aX12_operator 41 rfl) wf_RX12_478 (c121 hS) (s121 hS) (by decide) (congrArg Value.int (show FI22 121 68 = x1 from (up_k u23 (by decide) (h2)))) ?_
      refine hw_lald (v := x30) (aX12_operator 42 rfl) (c150 hS) (s150 hS) (h_in rfl (by omega) (by omega)) (show FL 150 (x1).toNatClampNeg = x30 from h31) ?_
      refine hw_callV (Bs := [.int (x28), .long (x30)]) (rest := []) (aX12_operator 43 rfl) wc_RX12_617 (by decide) rfl wi_yX12_shifts wv_yX12_shifts (c121 hS) (s121 hS) rfl rfl rfl (Nat.le_of_ble_eq_true rfl) (Nat.le_of_ble_eq_true rfl) (n_shifts (d := d + 4) hS hF hI27 (x28) (x30) ) (fun v50 sv51 p52 => ?_)
      obtain ⟨r53, rfl, rfl, t55, t56, t57⟩ := p52
      have rg_r53 := i_rng r53
      show hw base _ _ _ _ _ [.int (r53)] _ _
      refine xw_istoren (L2 := [(1, .int (r53)), (0, .ref (base + 121))]) (aX12_operator 44 rfl) (by decide) rfl ?_
      refine xw_iloadn (aX12_operator 45 rfl) rfl ?_
      refine hw_ic (v := ((-1) : Int32)) (aX12_operator 46 rfl) (by decide) ?_
      refine hw_iceq (tgt := 92) (aX12_operator 47 rfl) (by decide) rfl (by decide : ((-1) : Int32).toInt = (-1)) (fun cd58 => ?_) (fun cd58 => ?_)
      · have nb5 : au_bn (kf (FI22 149) (FI22 121 68).toInt.toNat) (wf (FL 150) (FI22 121 68).toInt.toNat) ≠ 5 := fun h => by rw [hk1, hw1] at h; exact absurd (hid_e t57 (au_bn_5.mp h)) (by omega)
        refine hw_aloadn (aX12_operator 53 rfl) rfl ?_
        refine hw_aloadn (aX12_operator 54 rfl) rfl ?_
        refine hw_get (v := .ref (base + 149)) (aX12_operator 55 rfl) wf_RX12_105 (c121 hS) (s121 hS) (by decide) (congrArg (fun r => va_rf (h_rf base r)) (r121_62 hF)) ?_
        refine hw_aloadn (aX12_operator 56 rfl) rfl ?_
        refine hw_get (v := .int (x1)) (aX12_operator 57 rfl) wf_RX12_478 (c121 hS) (s121 hS) (by decide) (congrArg Value.int (show FI22 121 68 = x1 from (up_k u23 (by decide) (h2)))) ?_
        refine hw_iald (v := x28) (aX12_operator 58 rfl) (c149 hS) (s149 hS) (h_in rfl (by omega) (by omega)) (show FI22 149 (x1).toNatClampNeg = x28 from h29) ?_
        refine hw_aloadn (aX12_operator 59 rfl) rfl ?_
        refine hw_get (v := .ref (base + 150)) (aX12_operator 60 rfl) wf_RX12_108 (c121 hS) (s121 hS) (by decide) (congrArg (fun r => va_rf (h_rf base r)) (r121_63 hF)) ?_
        refine hw_aloadn (aX12_operator 61 rfl) rfl ?_
        refine hw_get (v := .int (x1)) (aX12_operator 62 rfl) wf_RX12_478 (c121 hS) (s121 hS) (by decide) (congrArg Value.int (show FI22 121 68 = x1 from (up_k u23 (by decide) (h2)))) ?_
        refine hw_lald (v := x30) (aX12_operator 63 rfl) (c150 hS) (s150 hS) (h_in rfl (by omega) (by omega)) (show FL 150 (x1).toNatClampNeg = x30 from h31) ?_
        refine hw_callV (Bs := [.int (x28), .long (x30)]) (rest := []) (aX12_operator 64 rfl) wc_RX12_620 (by decide) rfl wi_yX12_compares wv_yX12_compares (c121 hS) (s121 hS) rfl rfl rfl (Nat.le_of_ble_eq_true rfl) (Nat.le_of_ble_eq_true rfl) (n_compares (d := d + 4) hS hF hI27 (x28) (x30) ) (fun v59 sv60 p61 => ?_)
        obtain ⟨r62, rfl, rfl, t64, t65, t66⟩ := p61
        have rg_r62 := i_rng r62
        show hw base _ _ _ _ _ [.int (r62)] _ _
        refine xw_istoren (L2 := [(1, .int (r62)), (0, .ref (base + 121))]) (aX12_operator 65 rfl) (by decide) rfl ?_
        refine xw_iloadn (aX12_operator 66 rfl) rfl ?_
        refine hw_ic (v := ((-1) : Int32)) (aX12_operator 67 rfl) (by decide) ?_
        refine hw_iceq (tgt := 160) (aX12_operator 68 rfl) (by decide) rfl (by decide : ((-1) : Int32).toInt = (-1)) (fun cd67 => ?_) (fun cd67 => ?_)
        · have nb4 : au_bn (kf (FI22 149) (FI22 121 68).toInt.toNat) (wf (FL 150) (FI22 121 68).toInt.toNat) ≠ 4 := fun h => by rw [hk1, hw1] at h; exact absurd (hid_e t66 (au_bn_4.mp h)) (by omega)
          refine hw_aloadn (aX12_operator 91 rfl) rfl ?_
          refine hw_bp (v := (38 : Int32)) (aX12_operator 92 rfl) (by decide) ?_
          refine hw_callV (Bs := [.int ((38 : Int32))]) (rest := []) (aX12_operator 93 rfl) wc_RX12_484 (by decide) rfl wi_yX12_isSign wv_yX12_isSign (c121 hS) (s121 hS) rfl rfl rfl (Nat.le_of_ble_eq_true rfl) (Nat.le_of_ble_eq_true rfl) (n_isSign (d := d + 4) hS hF hI27 ((38 : Int32)) (by have := congrArg Int32.toInt (show FI22 121 68 = x1 from (up_k u23 (by decide) (h2))); have := congrArg Int32.toInt (show FI22 121 67 = x4 from (up_k u23 (by decide) (h5))); omega) (show rl_e (FI22 149) (FI22 121 67) from rl24)) (fun v68 sv69 p70 => ?_)
          have := congrArg Int32.toInt (show FI22 121 68 = x1 from (up_k u23 (by decide) (h2)))
          have := congrArg Int32.toInt (show FI22 121 67 = x4 from (up_k u23 (by decide) (h5)))
          obtain ⟨r71, rfl, rfl, t73, t74, u75⟩ := p70
          show hw base _ _ _ _ _ [.int (r71)] _ _
          refine hw_ifeq (tgt := 177) (aX12_operator 94 rfl) (by decide) rfl (fun cd76 => ?_) (fun cd76 => ?_)
          · clear t73
            have nb3 : au_bn (kf (FI22 149) (FI22 121 68).toInt.toNat) (wf (FL 150) (FI22 121 68).toInt.toNat) ≠ 3 := fun h => by have hh := au_bn_3.mp h; have := u75.mpr (by rw [show ((38 : Int32)).toInt = (38 : Int) from by decide]; exact hh); omega
            refine hw_aloadn (aX12_operator 100 rfl) rfl ?_
            refine hw_bp (v := (94 : Int32)) (aX12_operator 101 rfl) (by decide) ?_
            refine hw_callV (Bs := [.int ((94 : Int32))]) (rest := []) (aX12_operator 102 rfl) wc_RX12_484 (by decide) rfl wi_yX12_isSign wv_yX12_isSign (c121 hS) (s121 hS) rfl rfl rfl (Nat.le_of_ble_eq_true rfl) (Nat.le_of_ble_eq_true rfl) (n_isSign (d := d + 4) hS hF hI27 ((94 : Int32)) (by have := congrArg Int32.toInt (show FI22 121 68 = x1 from (up_k u23 (by decide) (h2))); have := congrArg Int32.toInt (show FI22 121 67 = x4 from (up_k u23 (by decide) (h5))); omega) (show rl_e (FI22 149) (FI22 121 67) from rl24)) (fun v77 sv78 p79 => ?_)
            have := congrArg Int32.toInt (show FI22 121 68 = x1 from (up_k u23 (by decide) (h2)))
            have := congrArg Int32.toInt (show FI22 121 67 = x4 from (up_k u23 (by decide) (h5)))
            obtain ⟨r80, rfl, rfl, t82, t83, u84⟩ := p79
            show hw base _ _ _ _ _ [.int (r80)] _ _
            refine hw_ifeq (tgt := 194) (aX12_operator 103 rfl) (by decide) rfl (fun cd85 => ?_) (fun cd85 => ?_)
            · clear t82
              have nb2 : au_bn (kf (FI22 149) (FI22 121 68).toInt.toNat) (wf (FL 150) (FI22 121 68).toInt.toNat) ≠ 2 := fun h => by have hh := au_bn_2.mp h; have := u84.mpr (by rw [show ((94 : Int32)).toInt = (94 : Int) from by decide]; exact hh); omega
              refine hw_aloadn (aX12_operator 109 rfl) rfl ?_
              refine hw_bp (v := (124 : Int32)) (aX12_operator 110 rfl) (by decide) ?_
              refine hw_callV (Bs := [.int ((124 : Int32))]) (rest := []) (aX12_operator 111 rfl) wc_RX12_484 (by decide) rfl wi_yX12_isSign wv_yX12_isSign (c121 hS) (s121 hS) rfl rfl rfl (Nat.le_of_ble_eq_true rfl) (Nat.le_of_ble_eq_true rfl) (n_isSign (d := d + 4) hS hF hI27 ((124 : Int32)) (by have := congrArg Int32.toInt (show FI22 121 68 = x1 from (up_k u23 (by decide) (h2))); have := congrArg Int32.toInt (show FI22 121 67 = x4 from (up_k u23 (by decide) (h5))); omega) (show rl_e (FI22 149) (FI22 121 67) from rl24)) (fun v86 sv87 p88 => ?_)
              have := congrArg Int32.toInt (show FI22 121 68 = x1 from (up_k u23 (by decide) (h2)))
              have := congrArg Int32.toInt (show FI22 121 67 = x4 from (up_k u23 (by decide) (h5)))
              obtain ⟨r89, rfl, rfl, t91, t92, u93⟩ := p88
              show hw base _ _ _ _ _ [.int (r89)] _ _
              refine hw_ifeq (tgt := 211) (aX12_operator 112 rfl) (by decide) rfl (fun cd94 => ?_) (fun cd94 => ?_)
              · clear t91
                have nb1 : au_bn (kf (FI22 149) (FI22 121 68).toInt.toNat) (wf (FL 150) (FI22 121 68).toInt.toNat) ≠ 1 := fun h => by have hh := au_bn_1.mp h; have := u93.mpr (by rw [show ((124 : Int32)).toInt = (124 : Int) from by decide]; exact hh); omega
                refine hw_aloadn (aX12_operator 118 rfl) rfl ?_
                refine hw_bp (v := (63 : Int32)) (aX12_operator 119 rfl) (by decide) ?_
                refine hw_callV (Bs := [.int ((63 : Int32))]) (rest := []) (aX12_operator 120 rfl) wc_RX12_484 (by decide) rfl wi_yX12_isSign wv_yX12_isSign (c121 hS) (s121 hS) rfl rfl rfl (Nat.le_of_ble_eq_true rfl) (Nat.le_of_ble_eq_true rfl) (n_isSign (d := d + 4) hS hF hI27 ((63 : Int32)) (by have := congrArg Int32.toInt (show FI22 121 68 = x1 from (up_k u23 (by decide) (h2))); have := congrArg Int32.toInt (show FI22 121 67 = x4 from (up_k u23 (by decide) (h5))); omega) (show rl_e (FI22 149) (FI22 121 67) from rl24)) (fun v95 sv96 p97 => ?_)
                have := congrArg Int32.toInt (show FI22 121 68 = x1 from (up_k u23 (by decide) (h2)))
                have := congrArg Int32.toInt (show FI22 121 67 = x4 from (up_k u23 (by decide) (h5)))
                obtain ⟨r98, rfl, rfl, t100, t101, u102⟩ := p97
                show hw base _ _ _ _ _ [.int (r98)] _ _
                refine hw_ifeq (tgt := 267) (aX12_operator 121 rfl) (by decide) rfl (fun cd103 => ?_) (fun cd103 => ?_)
                · clear t100
                  have hbn0 := au_bn_0 nb7 nb6 nb5 nb4 nb3 nb2 nb1
                  have hnq : ¬ (kf (FI22 149) (FI22 121 68).toInt.toNat = 5 ∧ wf (FL 150) (FI22 121 68).toInt.toNat = 63) := fun h => by have := u102.mpr (by rw [show ((63 : Int32)).toInt = (63 : Int) from by decide]; exact h); omega
                  refine hw_aloadn (aX12_operator 151 rfl) rfl ?_
                  refine hw_callV (Bs := []) (rest := []) (aX12_operator 152 rfl) wc_RX12_623 (by decide) rfl wi_yX12_ended wv_yX12_ended (c121 hS) (s121 hS) rfl rfl rfl (Nat.le_of_ble_eq_true rfl) (Nat.le_of_ble_eq_true rfl) (n_ended (d := d) hS hF hI27 (by have := congrArg Int32.toInt (show FI22 121 68 = x1 from (up_k u23 (by decide) (h2))); have := congrArg Int32.toInt (show FI22 121 67 = x4 from (up_k u23 (by decide) (h5))); omega) (by have := congrArg Int32.toInt (show FI22 121 69 = x7 from (up_k u23 (by decide) (h8))); omega) (by have := congrArg Int32.toInt (show FI22 121 73 = x9 from (up_k u23 (by decide) (h10))); have := congrArg Int32.toInt (show FI22 121 90 = x12 from (up_k u23 (by decide) (h13))); omega) (by have := congrArg Int32.toInt (show FI22 121 90 = x12 from (up_k u23 (by decide) (h13))); omega) (by have := congrArg Int32.toInt (show FI22 121 91 = (0 : Int32) from up_eq u23); have := ((by decide : (0 : Int32).toInt = 0) : ((0 : Int32)).toInt = 0); omega) (by have := congrArg Int32.toInt (show FI22 121 71 = x15 from (up_k u23 (by decide) (h16))); have := congrArg Int32.toInt (show FI22 121 71 = x15 from (up_k u23 (by decide) (h16))); omega) (hbn0) (hnq) (by rw [show FI22 166 = FI 166 from up_row u23 (by decide) rfl, show FI22 121 90 = FI 121 90 from up_k u23 (by decide) rfl]; exact gg0) (by rw [show FI22 166 = FI 166 from up_row u23 (by decide) rfl, show FI22 121 90 = FI 121 90 from up_k u23 (by decide) rfl]; exact gg1) (show rl_e (FI22 149) (FI22 121 67) from rl24) (show rl_t (FI22 149) (FL 150) from rl25) (show rl_pm (FI22 121 90) (FI22 121 73) (FI22 166) (FI22 167) (FI22 168) from rl26)) (fun v104 sv105 p106 => ?_)
                  have := congrArg Int32.toInt (show FI22 121 68 = x1 from (up_k u23 (by decide) (h2)))
                  have := congrArg Int32.toInt (show FI22 121 73 = x9 from (up_k u23 (by decide) (h10)))
                  have := congrArg Int32.toInt (show FI22 121 90 = x12 from (up_k u23 (by decide) (h13)))
                  have := congrArg Int32.toInt (show FI22 121 68 = x1 from (up_k u23 (by decide) (h2)))
                  have := congrArg Int32.toInt (show FI22 121 73 = x9 from (up_k u23 (by decide) (h10)))
                  have := congrArg Int32.toInt (show FI22 121 90 = x12 from (up_k u23 (by decide) (h13)))
                  have := congrArg Int32.toInt (show FI22 121 68 = x1 from (up_k u23 (by decide) (h2)))
                  have := congrArg Int32.toInt (show FI22 121 71 = x15 from (up_k u23 (by decide) (h16)))
                  obtain ⟨r107, rfl, FI108, rfl, hI109, f110, t111, t112, t113, t114, t115, t116, t117, t118, t119, u120, u121, rl122⟩ := p106
                  have rl123 : rl_e (FI108 149) (FI108 121 67) := by rw [show FI108 149 = FI22 149 from gf_row f110 (c149 hS) (s149 hS) rfl rfl, show FI108 121 67 = FI22 121 67 from gf_at f110 (c121 hS) (s121 hS) rfl rfl]; exact rl24
                  have rl124 : rl_t (FI108 149) (FL 150) := by rw [show FI108 149 = FI22 149 from gf_row f110 (c149 hS) (s149 hS) rfl rfl]; exact rl25
                  obtain ⟨x125, h126⟩ : ∃ y, FI108 121 68 = y := ⟨_, rfl⟩
                  have h126l := congrArg Int32.toInt h126
                  have b127 := gI_121_68 hI109; rw [h126] at b127
                  have := congrArg Int32.toInt (show FI108 121 67 = x4 from (gf_at f110 (c121 hS) (s121 hS) rfl ((up_k u23 (by decide) (h5)))))
                  obtain ⟨x128, h129⟩ : ∃ y, FI108 121 73 = y := ⟨_, rfl⟩
                  have h129l := congrArg Int32.toInt h129
                  have b130 := gI_121_73 hI109; rw [h129] at b130
                  obtain ⟨x131, h132⟩ : ∃ y, FI108 121 90 = y := ⟨_, rfl⟩
                  have h132l := congrArg Int32.toInt h132
                  have b133 := gI_121_90 hI109; rw [h132] at b133
                  obtain ⟨x134, h135⟩ : ∃ y, FI108 121 71 = y := ⟨_, rfl⟩
                  have h135l := congrArg Int32.toInt h135
                  have := i_rng x134
                  obtain ⟨x136, h137⟩ : ∃ y, FI108 121 69 = y := ⟨_, rfl⟩
                  have h137l := congrArg Int32.toInt h137
                  have := i_rng x136
                  show hw base _ _ _ _ _ [.int (r107)] _ _
                  have hz90 := hid_e t118
                  refine xw_iret (aX12_operator 153 rfl) rfl (i_nz rfl (by omega) (by omega)) ?_
                  exact ⟨r107, rfl, FI108, rfl, hI109, (gf_tr ex_rf (gf_f gf_rf u23 (by decide)) f110 rfl rfl rfl), (by have := congrArg Int32.toInt (show FI108 121 67 = x4 from (gf_at f110 (c121 hS) (s121 hS) rfl ((up_k u23 (by decide) (h5))))); have := congrArg Int32.toInt (show FI108 121 68 = x125 from h126); omega), (by have := congrArg Int32.toInt (show FI108 121 68 = x125 from h126); omega), (by have := congrArg Int32.toInt (show FI108 121 68 = x125 from h126); have := congrArg Int32.toInt (show FI108 121 73 = x128 from h129); have := congrArg Int32.toInt (show FI108 121 90 = x131 from h132); omega), (by have := congrArg Int32.toInt (show FI108 121 73 = x128 from h129); omega), (by have := congrArg Int32.toInt (show FI108 121 90 = x131 from h132); omega), (by have := congrArg Int32.toInt (show FI108 121 68 = x125 from h126); omega), (by have := congrArg Int32.toInt (show FI108 121 69 = x136 from h137); have := congrArg Int32.toInt (show FI108 121 71 = x134 from h135); omega), (by unfold hid; have := congrArg Int32.toInt (show FI108 121 69 = x136 from h137); have := congrArg Int32.toInt (show FI108 121 90 = x131 from h132); omega), (by omega), (by have hh := u120; rw [show FI22 149 = FI 149 from up_row u23 (by decide) rfl, show FI22 166 = FI 166 from up_row u23 (by decide) rfl, show FI22 121 68 = FI 121 68 from up_k u23 (by decide) rfl, show FI22 121 90 = FI 121 90 from up_k u23 (by decide) rfl] at hh; exact hh), (by have hh := u121; rw [show FI22 166 = FI 166 from up_row u23 (by decide) rfl, show FI22 121 90 = FI 121 90 from up_k u23 (by decide) rfl, show FI22 121 71 = FI 121 71 from up_k u23 (by decide) rfl] at hh; exact hh), (show rl_pm (FI108 121 90) (FI108 121 73) (FI108 166) (FI108 167) (FI108 168) from rl122)⟩
                · replace t100 := t100 (by omega)
                  have hqm := u102.mp (by omega); rw [show ((63 : Int32)).toInt = (63 : Int) from by decide] at hqm
                  refine hw_aloadn (aX12_operator 122 rfl) rfl ?_
                  refine hw_ic (v := (1 : Int32)) (aX12_operator 123 rfl) (by decide) ?_
                  refine hw_callV (Bs := [.int ((1 : Int32))]) (rest := []) (aX12_operator 124 rfl) wc_RX12_566 (by decide) rfl wi_yX12_reduced wv_yX12_reduced (c121 hS) (s121 hS) rfl rfl rfl (Nat.le_of_ble_eq_true rfl) (Nat.le_of_ble_eq_true rfl) (n_reduced (d := d + 3) hS hF hI27 ((1 : Int32)) (by have := congrArg Int32.toInt (show FI22 121 73 = x9 from (up_k u23 (by decide) (h10))); have := congrArg Int32.toInt (show FI22 121 90 = x12 from (up_k u23 (by decide) (h13))); omega) (by have := ((by decide : (1 : Int32).toInt = 1) : ((1 : Int32)).toInt = 1); have := ((by decide : (1 : Int32).toInt = 1) : ((1 : Int32)).toInt = 1); omega) (show rl_pm (FI22 121 90) (FI22 121 73) (FI22 166) (FI22 167) (FI22 168) from rl26)) (fun v138 sv139 p140 => ?_)
                  have := congrArg Int32.toInt (show FI22 121 90 = x12 from (up_k u23 (by decide) (h13)))
                  have := congrArg Int32.toInt (show FI22 121 73 = x9 from (up_k u23 (by decide) (h10)))
                  have := congrArg Int32.toInt (show FI22 121 90 = x12 from (up_k u23 (by decide) (h13)))
                  have := congrArg Int32.toInt (show FI22 121 73 = x9 from (up_k u23 (by decide) (h10)))
                  obtain ⟨rfl, FI142, rfl, hI143, f144, t145, t146, t147, u148, rl149⟩ := p140
                  have rl150 : rl_e (FI142 149) (FI142 121 67) := by rw [show FI142 149 = FI22 149 from gf_row f144 (c149 hS) (s149 hS) rfl rfl, show FI142 121 67 = FI22 121 67 from gf_at f144 (c121 hS) (s121 hS) rfl rfl]; exact rl24
                  have rl151 : rl_t (FI142 149) (FL 150) := by rw [show FI142 149 = FI22 149 from gf_row f144 (c149 hS) (s149 hS) rfl rfl]; exact rl25
                  obtain ⟨x152, h153⟩ : ∃ y, FI142 121 90 = y := ⟨_, rfl⟩
                  have h153l := congrArg Int32.toInt h153
                  have b154 := gI_121_90 hI143; rw [h153] at b154
                  obtain ⟨x155, h156⟩ : ∃ y, FI142 121 73 = y := ⟨_, rfl⟩
                  have h156l := congrArg Int32.toInt h156
                  have b157 := gI_121_73 hI143; rw [h156] at b157
                  show hw base _ _ _ _ _ [] _ _
                  refine hw_aloadn (aX12_operator 125 rfl) rfl ?_
                  refine hw_bp (v := (40 : Int32)) (aX12_operator 126 rfl) (by decide) ?_
                  refine hw_callV (Bs := [.int ((40 : Int32))]) (rest := []) (aX12_operator 127 rfl) wc_RX12_496 (by decide) rfl wi_yX12_emit wv_yX12_emit (c121 hS) (s121 hS) rfl rfl rfl (Nat.le_of_ble_eq_true rfl) (Nat.le_of_ble_eq_true rfl) (n_emit (d := d + 4) hS hF hI143 ((40 : Int32)) (by have := congrArg Int32.toInt (show FI142 121 73 = x155 from h156); omega) (show rl_pm (FI142 121 90) (FI142 121 73) (FI142 166) (FI142 167) (FI142 168) from rl149)) (fun v158 sv159 p160 => ?_)
                  have := congrArg Int32.toInt (show FI142 121 73 = x155 from h156)
                  obtain ⟨rfl, FI162, rfl, hI163, f164, t165, rl166⟩ := p160
                  have rl167 : rl_e (FI162 149) (FI162 121 67) := by rw [show FI162 149 = FI142 149 from gf_row f164 (c149 hS) (s149 hS) rfl rfl, show FI162 121 67 = FI142 121 67 from gf_at f164 (c121 hS) (s121 hS) rfl rfl]; exact rl150
                  have rl168 : rl_t (FI162 149) (FL 150) := by rw [show FI162 149 = FI142 149 from gf_row f164 (c149 hS) (s149 hS) rfl rfl]; exact rl151
                  obtain ⟨x169, h170⟩ : ∃ y, FI162 121 73 = y := ⟨_, rfl⟩
                  have h170l := congrArg Int32.toInt h170
                  have b171 := gI_121_73 hI163; rw [h170] at b171
                  show hw base _ _ _ _ _ [] _ _
                  refine hw_aloadn (aX12_operator 128 rfl) rfl ?_
                  refine hw_get (v := .int (x169)) (aX12_operator 129 rfl) wf_RX12_493 (c121 hS) (s121 hS) (by decide) (congrArg Value.int (show FI162 121 73 = x169 from h170)) ?_
                  refine xw_istoren (L2 := [(2, .int (x169)), (1, .int (r62)), (0, .ref (base + 121))]) (aX12_operator 130 rfl) (by decide) rfl ?_
                  refine hw_aloadn (aX12_operator 131 rfl) rfl ?_
                  refine hw_lc (v := (0 : Int64)) (aX12_operator 132 rfl) (by decide) ?_
                  refine hw_ic (v := (2 : Int32)) (aX12_operator 133 rfl) (by decide) ?_
                  refine hw_callV (Bs := [.long ((0 : Int64)), .int ((2 : Int32))]) (rest := []) (aX12_operator 134 rfl) wc_RX12_505 (by decide) rfl wi_yX12_emits wv_yX12_emits (c121 hS) (s121 hS) rfl rfl rfl (Nat.le_of_ble_eq_true rfl) (Nat.le_of_ble_eq_true rfl) (n_emits (d := d + 3) hS hF hI163 ((0 : Int64)) ((2 : Int32)) (by have := congrArg Int32.toInt (show FI162 121 73 = x169 from h170); omega) (by have := ((by decide : (2 : Int32).toInt = 2) : ((2 : Int32)).toInt = 2); have := ((by decide : (2 : Int32).toInt = 2) : ((2 : Int32)).toInt = 2); omega) (show rl_pm (FI162 121 90) (FI162 121 73) (FI162 166) (FI162 167) (FI162 168) from rl166)) (fun v172 sv173 p174 => ?_)
                  have := congrArg Int32.toInt (show FI162 121 73 = x169 from h170)
                  have := ((by decide : (2 : Int32).toInt = 2) : ((2 : Int32)).toInt = 2)
                  obtain ⟨rfl, FI176, rfl, hI177, f178, t179, rl180⟩ := p174
                  have rl181 : rl_e (FI176 149) (FI176 121 67) := by rw [show FI176 149 = FI162 149 from gf_row f178 (c149 hS) (s149 hS) rfl rfl, show FI176 121 67 = FI162 121 67 from gf_at f178 (c121 hS) (s121 hS) rfl rfl]; exact rl167
                  have rl182 : rl_t (FI176 149) (FL 150) := by rw [show FI176 149 = FI162 149 from gf_row f178 (c149 hS) (s149 hS) rfl rfl]; exact rl168
                  obtain ⟨x183, h184⟩ : ∃ y, FI176 121 73 = y := ⟨_, rfl⟩
                  have h184l := congrArg Int32.toInt h184
                  have b185 := gI_121_73 hI177; rw [h184] at b185
                  show hw base _ _ _ _ _ [] _ _
                  refine hw_aloadn (aX12_operator 135 rfl) rfl ?_
                  refine hw_callV (Bs := []) (rest := []) (aX12_operator 136 rfl) wc_RX12_538 (by decide) rfl wi_yX12_opens wv_yX12_opens (c121 hS) (s121 hS) rfl rfl rfl (Nat.le_of_ble_eq_true rfl) (Nat.le_of_ble_eq_true rfl) (n_opens (d := d + 3) hS hF hI177 (by have := congrArg Int32.toInt (show FI176 121 68 = x1 from (gf_at f178 (c121 hS) (s121 hS) rfl ((gf_at f164 (c121 hS) (s121 hS) rfl ((gf_at f144 (c121 hS) (s121 hS) rfl ((up_k u23 (by decide) (h2))))))))); have := congrArg Int32.toInt (show FI176 121 67 = x4 from (gf_at f178 (c121 hS) (s121 hS) rfl ((gf_at f164 (c121 hS) (s121 hS) rfl ((gf_at f144 (c121 hS) (s121 hS) rfl ((up_k u23 (by decide) (h5))))))))); omega) (by have := congrArg Int32.toInt (show FI176 121 71 = x15 from (gf_at f178 (c121 hS) (s121 hS) rfl ((gf_at f164 (c121 hS) (s121 hS) rfl ((gf_at f144 (c121 hS) (s121 hS) rfl ((up_k u23 (by decide) (h16))))))))); have := congrArg Int32.toInt (show FI176 121 71 = x15 from (gf_at f178 (c121 hS) (s121 hS) rfl ((gf_at f164 (c121 hS) (s121 hS) rfl ((gf_at f144 (c121 hS) (s121 hS) rfl ((up_k u23 (by decide) (h16))))))))); omega)) (fun v186 sv187 p188 => ?_)
                  have := congrArg Int32.toInt (show FI176 121 68 = x1 from (gf_at f178 (c121 hS) (s121 hS) rfl ((gf_at f164 (c121 hS) (s121 hS) rfl ((gf_at f144 (c121 hS) (s121 hS) rfl ((up_k u23 (by decide) (h2)))))))))
                  have := congrArg Int32.toInt (show FI176 121 71 = x15 from (gf_at f178 (c121 hS) (s121 hS) rfl ((gf_at f164 (c121 hS) (s121 hS) rfl ((gf_at f144 (c121 hS) (s121 hS) rfl ((up_k u23 (by decide) (h16)))))))))
                  have := congrArg Int32.toInt (show FI176 121 71 = x15 from (gf_at f178 (c121 hS) (s121 hS) rfl ((gf_at f164 (c121 hS) (s121 hS) rfl ((gf_at f144 (c121 hS) (s121 hS) rfl ((up_k u23 (by decide) (h16)))))))))
                  have := congrArg Int32.toInt (show FI176 121 69 = x7 from (gf_at f178 (c121 hS) (s121 hS) rfl ((gf_at f164 (c121 hS) (s121 hS) rfl ((gf_at f144 (c121 hS) (s121 hS) rfl ((up_k u23 (by decide) (h8)))))))))
                  obtain ⟨rfl, FI190, rfl, hI191, f192, t193, t194, t195⟩ := p188
                  have rl196 : rl_e (FI190 149) (FI190 121 67) := by rw [show FI190 149 = FI176 149 from gf_row f192 (c149 hS) (s149 hS) rfl rfl, show FI190 121 67 = FI176 121 67 from gf_at f192 (c121 hS) (s121 hS) rfl rfl]; exact rl181
                  have rl197 : rl_t (FI190 149) (FL 150) := by rw [show FI190 149 = FI176 149 from gf_row f192 (c149 hS) (s149 hS) rfl rfl]; exact rl182
                  have rl198 : rl_pm (FI190 121 90) (FI190 121 73) (FI190 166) (FI190 167) (FI190 168) := by rw [show FI190 166 = FI176 166 from gf_row f192 (c166 hS) (s166 hS) rfl rfl, show FI190 167 = FI176 167 from gf_row f192 (c167 hS) (s167 hS) rfl rfl, show FI190 168 = FI176 168 from gf_row f192 (c168 hS) (s168 hS) rfl rfl, show FI190 121 90 = FI176 121 90 from gf_at f192 (c121 hS) (s121 hS) rfl rfl, show FI190 121 73 = FI176 121 73 from gf_at f192 (c121 hS) (s121 hS) rfl rfl]; exact rl180
                  obtain ⟨x199, h200⟩ : ∃ y, FI190 121 68 = y := ⟨_, rfl⟩
                  have h200l := congrArg Int32.toInt h200
                  have b201 := gI_121_68 hI191; rw [h200] at b201
                  obtain ⟨x202, h203⟩ : ∃ y, FI190 121 71 = y := ⟨_, rfl⟩
                  have h203l := congrArg Int32.toInt h203
                  have := i_rng x202
                  obtain ⟨x204, h205⟩ : ∃ y, FI190 121 69 = y := ⟨_, rfl⟩
                  have h205l := congrArg Int32.toInt h205
                  have := i_rng x204
                  show hw base _ _ _ _ _ [] _ _
                  refine hw_aloadn (aX12_operator 137 rfl) rfl ?_
                  refine hw_ic (v := (0 : Int32)) (aX12_operator 138 rfl) (by decide) ?_
                  refine hw_bp (v := ((-2) : Int32)) (aX12_operator 139 rfl) (by decide) ?_
                  refine hw_callV (Bs := [.int ((0 : Int32)), .int (((-2) : Int32))]) (rest := []) (aX12_operator 140 rfl) wc_RX12_580 (by decide) rfl wi_yX12_later wv_yX12_later (c121 hS) (s121 hS) rfl rfl rfl (Nat.le_of_ble_eq_true rfl) (Nat.le_of_ble_eq_true rfl) (n_laterq (d := d + 4) hS hF hI191 ((0 : Int32)) (by have := congrArg Int32.toInt (show FI190 121 90 = x152 from (gf_at f192 (c121 hS) (s121 hS) rfl ((gf_at f178 (c121 hS) (s121 hS) rfl ((gf_at f164 (c121 hS) (s121 hS) rfl (h153))))))); omega)) (fun v206 sv207 p208 => ?_)
                  have := congrArg Int32.toInt (show FI190 121 90 = x152 from (gf_at f192 (c121 hS) (s121 hS) rfl ((gf_at f178 (c121 hS) (s121 hS) rfl ((gf_at f164 (c121 hS) (s121 hS) rfl (h153)))))))
                  obtain ⟨rfl, FI210, rfl, hI211, f212, t213, u214, u215⟩ := p208
                  have rl216 : rl_e (FI210 149) (FI210 121 67) := by rw [show FI210 149 = FI190 149 from gf_row f212 (c149 hS) (s149 hS) rfl rfl, show FI210 121 67 = FI190 121 67 from gf_at f212 (c121 hS) (s121 hS) rfl rfl]; exact rl196
                  have rl217 : rl_t (FI210 149) (FL 150) := by rw [show FI210 149 = FI190 149 from gf_row f212 (c149 hS) (s149 hS) rfl rfl]; exact rl197
                  obtain ⟨x218, h219⟩ : ∃ y, FI210 121 90 = y := ⟨_, rfl⟩
                  have h219l := congrArg Int32.toInt h219
                  have b220 := gI_121_90 hI211; rw [h219] at b220
                  show hw base _ _ _ _ _ [] _ _
                  refine hw_aloadn (aX12_operator 141 rfl) rfl ?_
                  refine hw_get (v := .ref (base + 167)) (aX12_operator 142 rfl) wf_RX12_160 (c121 hS) (s121 hS) (by decide) (congrArg (fun r => va_rf (h_rf base r)) (r121_88 hF)) ?_
                  refine hw_aloadn (aX12_operator 143 rfl) rfl ?_
                  refine hw_get (v := .int (x218)) (aX12_operator 144 rfl) wf_RX12_556 (c121 hS) (s121 hS) (by decide) (congrArg Value.int (show FI210 121 90 = x218 from h219)) ?_
                  refine hw_ic (v := (1 : Int32)) (aX12_operator 145 rfl) (by decide) ?_
                  refine xw_isub (aX12_operator 146 rfl) ?_
                  refine hw_tie (A := ((x218).toInt) - (1)) (i_sub rfl (by decide : (1 : Int32).toInt = 1) (by omega) (by omega)) (fun x221 e222 => ?_)
                  refine xw_iloadn (aX12_operator 147 rfl) rfl ?_
                  refine hv_iast (k := (x221).toNatClampNeg) (aX12_operator 148 rfl) (c167 hS) (s167 hS) (h_in e222 (by omega) (by omega)) rfl (fun FI223 u224 => ?_)
                  have rl225 : rl_e (FI223 149) (FI223 121 67) := by rw [show FI223 149 = FI210 149 from up_row u224 (by decide) rfl, show FI223 121 67 = FI210 121 67 from up_c u224 (by decide) rfl]; exact rl216
                  have rl226 : rl_t (FI223 149) (FL 150) := by rw [show FI223 149 = FI210 149 from up_row u224 (by decide) rfl]; exact rl217
                  have hI227 : g_I FI223 := gU_F hI211 u224 rfl
                  have rl228 : rl_pm (FI223 121 90) (FI223 121 73) (FI223 166) (FI223 167) (FI223 168) := by have z0 := congrArg Int32.toInt (show FI223 121 90 = x218 from (up_c u224 (by decide) (h219))); have z1 := congrArg Int32.toInt (show FI190 121 90 = x152 from (gf_at f192 (c121 hS) (s121 hS) rfl ((gf_at f178 (c121 hS) (s121 hS) rfl ((gf_at f164 (c121 hS) (s121 hS) rfl (h153))))))); have z2 := congrArg Int32.toInt (show FI223 121 73 = x183 from (up_c u224 (by decide) ((gf_at f212 (c121 hS) (s121 hS) rfl ((gf_at f192 (c121 hS) (s121 hS) rfl (h184))))))); have z3 := congrArg Int32.toInt (show FI190 121 73 = x183 from (gf_at f192 (c121 hS) (s121 hS) rfl (h184))); have := (e222 : (x221).toInt = ((x218).toInt) - (1)); rw [show FI223 166 = va_up (FI190 166) (FI190 121 90).toNatClampNeg (-2) from ((up_row u224 (by decide) (rfl))).trans u214, show FI223 167 = va_up (FI190 167) ((x221).toNatClampNeg) (x169) from (up_va u224 ((gf_row f212 (c167 hS) (s167 hS) rfl (rfl)))), show FI223 168 = FI190 168 from (up_row u224 (by decide) ((gf_row f212 (c168 hS) (s168 hS) rfl (rfl))))]; exact rl_pm_ask rl198 (fun _ _ => trivial) (by omega) (by omega) (by omega) (by omega) (by omega)
                  refine hw_ic (v := (1 : Int32)) (aX12_operator 149 rfl) (by decide) ?_
                  refine xw_iret (aX12_operator 150 rfl) rfl (by decide) ?_
                  have e229 : ((1 : Int32)).toInt = 1 := (by decide : (1 : Int32).toInt = 1)
                  exact ⟨(1 : Int32), rfl, FI223, rfl, hI227, (gf_a (gf_tr ex_rf (gf_tr ex_rf (gf_tr ex_rf (gf_tr ex_rf (gf_tr ex_rf (gf_f gf_rf u23 (by decide)) f144 rfl rfl rfl) f164 rfl rfl rfl) f178 rfl rfl rfl) f192 rfl rfl rfl) f212 rfl rfl rfl) u224 (by decide)), (by have : ((1 : Int32)).toInt = 1 := (by decide); have := congrArg Int32.toInt (show FI223 121 67 = x4 from (up_c u224 (by decide) ((gf_at f212 (c121 hS) (s121 hS) rfl ((gf_at f192 (c121 hS) (s121 hS) rfl ((gf_at f178 (c121 hS) (s121 hS) rfl ((gf_at f164 (c121 hS) (s121 hS) rfl ((gf_at f144 (c121 hS) (s121 hS) rfl ((up_k u23 (by decide) (h5))))))))))))))); have := congrArg Int32.toInt (show FI223 121 68 = x199 from (up_c u224 (by decide) ((gf_at f212 (c121 hS) (s121 hS) rfl (h200))))); omega), (by have : ((1 : Int32)).toInt = 1 := (by decide); have := congrArg Int32.toInt (show FI223 121 68 = x199 from (up_c u224 (by decide) ((gf_at f212 (c121 hS) (s121 hS) rfl (h200))))); omega), (by have : ((1 : Int32)).toInt = 1 := (by decide); have := congrArg Int32.toInt (show FI223 121 68 = x199 from (up_c u224 (by decide) ((gf_at f212 (c121 hS) (s121 hS) rfl (h200))))); have := congrArg Int32.toInt (show FI223 121 73 = x183 from (up_c u224 (by decide) ((gf_at f212 (c121 hS) (s121 hS) rfl ((gf_at f192 (c121 hS) (s121 hS) rfl (h184))))))); have := congrArg Int32.toInt (show FI223 121 90 = x218 from (up_c u224 (by decide) (h219))); omega), (by have : ((1 : Int32)).toInt = 1 := (by decide); have := congrArg Int32.toInt (show FI223 121 73 = x183 from (up_c u224 (by decide) ((gf_at f212 (c121 hS) (s121 hS) rfl ((gf_at f192 (c121 hS) (s121 hS) rfl (h184))))))); omega), (by have : ((1 : Int32)).toInt = 1 := (by decide); have := congrArg Int32.toInt (show FI223 121 90 = x218 from (up_c u224 (by decide) (h219))); omega), (by have : ((1 : Int32)).toInt = 1 := (by decide); have := congrArg Int32.toInt (show FI223 121 68 = x199 from (up_c u224 (by decide) ((gf_at f212 (c121 hS) (s121 hS) rfl (h200))))); omega), (by have : ((1 : Int32)).toInt = 1 := (by decide); have := congrArg Int32.toInt (show FI223 121 69 = x204 from (up_c u224 (by decide) ((gf_at f212 (c121 hS) (s121 hS) rfl (h205))))); have := congrArg Int32.toInt (show FI223 121 71 = x202 from (up_c u224 (by decide) ((gf_at f212 (c121 hS) (s121 hS) rfl (h203))))); omega), (by unfold hid; have : ((1 : Int32)).toInt = 1 := (by decide); have := congrArg Int32.toInt (show FI223 121 69 = x204 from (up_c u224 (by decide) ((gf_at f212 (c121 hS) (s121 hS) rfl (h205))))); have := congrArg Int32.toInt (show FI223 121 90 = x218 from (up_c u224 (by decide) (h219))); omega), (by have : ((1 : Int32)).toInt = 1 := (by decide); omega), (by have := congrArg Int32.toInt (show FI223 121 68 = x199 from (up_c u224 (by decide) ((gf_at f212 (c121 hS) (s121 hS) rfl (h200))))); have := congrArg Int32.toInt (show FI223 121 69 = x204 from (up_c u224 (by decide) ((gf_at f212 (c121 hS) (s121 hS) rfl (h205))))); have := congrArg Int32.toInt (show FI223 121 91 = (0 : Int32) from (up_c u224 (by decide) ((gf_at f212 (c121 hS) (s121 hS) rfl ((gf_at f192 (c121 hS) (s121 hS) rfl ((gf_at f178 (c121 hS) (s121 hS) rfl ((gf_at f164 (c121 hS) (s121 hS) rfl ((gf_at f144 (c121 hS) (s121 hS) rfl (up_eq u23))))))))))))); have := ((by decide : (0 : Int32).toInt = 0) : ((0 : Int32)).toInt = 0); have hz : (((1 : Int32))).toInt = 1 := (by decide : (1 : Int32).toInt = 1); have hm : (sk (FI223 166) (FI223 121 90).toInt.toNat) = -2 :: au_red 1 (sk (FI 166) (FI 121 90).toInt.toNat) := (by rw [show FI223 166 = FI210 166 from (up_row u224 (by decide) (rfl)), show FI223 121 90 = FI210 121 90 from ((up_c u224 (by decide) (h219))).trans (h219).symm, u215, show FI190 166 = FI22 166 from (gf_row f192 (c166 hS) (s166 hS) rfl ((gf_row f178 (c166 hS) (s166 hS) rfl ((gf_row f164 (c166 hS) (s166 hS) rfl ((gf_row f144 (c166 hS) (s166 hS) rfl (rfl)))))))), show FI190 121 90 = FI142 121 90 from ((gf_at f192 (c121 hS) (s121 hS) rfl ((gf_at f178 (c121 hS) (s121 hS) rfl ((gf_at f164 (c121 hS) (s121 hS) rfl (h153))))))).trans (h153).symm]; have hy5 := u148; rw [show ((1 : Int32)).toInt = (1 : Int) from by decide] at hy5; rw [hy5, show FI22 166 = FI 166 from up_row u23 (by decide) rfl, show FI22 121 90 = FI 121 90 from up_k u23 (by decide) rfl]); have hqq := hqm; rw [show FI22 149 = FI 149 from up_row u23 (by decide) rfl, show FI22 121 68 = FI 121 68 from up_k u23 (by decide) rfl] at hqq; exact fun _ => ⟨fun _ => Or.inl ⟨by omega, Or.inr (Or.inr (Or.inr (Or.inr (Or.inr (Or.inl ⟨rfl, hqq.1, hqq.2, by omega, rfl, hm⟩)))))⟩, fun h => absurd h (by omega)⟩), (by have := congrArg Int32.toInt (show FI223 121 69 = x204 from (up_c u224 (by decide) ((gf_at f212 (c121 hS) (s121 hS) rfl (h205))))); have := congrArg Int32.toInt (show FI223 121 71 = x202 from (up_c u224 (by decide) ((gf_at f212 (c121 hS) (s121 hS) rfl (h203))))); have hm : (sk (FI223 166) (FI223 121 90).toInt.toNat) = -2 :: au_red 1 (sk (FI 166) (FI 121 90).toInt.toNat) := (by rw [show FI223 166 = FI210 166 from (up_row u224 (by decide) (rfl)), show FI223 121 90 = FI210 121 90 from ((up_c u224 (by decide) (h219))).trans (h219).symm, u215, show FI190 166 = FI22 166 from (gf_row f192 (c166 hS) (s166 hS) rfl ((gf_row f178 (c166 hS) (s166 hS) rfl ((gf_row f164 (c166 hS) (s166 hS) rfl ((gf_row f144 (c166 hS) (s166 hS) rfl (rfl)))))))), show FI190 121 90 = FI142 121 90 from ((gf_at f192 (c121 hS) (s121 hS) rfl ((gf_at f178 (c121 hS) (s121 hS) rfl ((gf_at f164 (c121 hS) (s121 hS) rfl (h153))))))).trans (h153).symm]; have hy5 := u148; rw [show ((1 : Int32)).toInt = (1 : Int) from by decide] at hy5; rw [hy5, show FI22 166 = FI 166 from up_row u23 (by decide) rfl, show FI22 121 90 = FI 121 90 from up_k u23 (by decide) rfl]); rw [hm]; intro _; simp only [au_op]; rw [if_neg (by decide), au_op_red (by decide) gg0 gg1]; omega), (show rl_pm (FI223 121 90) (FI223 121 73) (FI223 166) (FI223 167) (FI223 168) from rl228)⟩
              · replace t91 := t91 (by omega)
                have hq := u93.mp (by omega); rw [show ((124 : Int32)).toInt = (124 : Int) from by decide] at hq; have hb : au_bn (kf (FI22 149) (FI22 121 68).toInt.toNat) (wf (FL 150) (FI22 121 68).toInt.toNat) = 1 := au_bn_1.mpr hq
                refine hw_aloadn (aX12_operator 113 rfl) rfl ?_
                refine hw_bp (v := (33 : Int32)) (aX12_operator 114 rfl) (by decide) ?_
                refine hw_ic (v := (1 : Int32)) (aX12_operator 115 rfl) (by decide) ?_
                refine hw_callV (Bs := [.int ((33 : Int32)), .int ((1 : Int32))]) (rest := []) (aX12_operator 116 rfl) wc_RX12_610 (by decide) rfl wi_yX12_binary wv_yX12_binary (c121 hS) (s121 hS) rfl rfl rfl (Nat.le_of_ble_eq_true rfl) (Nat.le_of_ble_eq_true rfl) (n_binary (d := d + 2) hS hF hI27 ((33 : Int32)) ((1 : Int32)) (by have := congrArg Int32.toInt (show FI22 121 73 = x9 from (up_k u23 (by decide) (h10))); have := congrArg Int32.toInt (show FI22 121 90 = x12 from (up_k u23 (by decide) (h13))); omega) (by have := congrArg Int32.toInt (show FI22 121 90 = x12 from (up_k u23 (by decide) (h13))); omega) (by have := congrArg Int32.toInt (show FI22 121 68 = x1 from (up_k u23 (by decide) (h2))); have := congrArg Int32.toInt (show FI22 121 67 = x4 from (up_k u23 (by decide) (h5))); omega) (by have := ((by decide : (1 : Int32).toInt = 1) : ((1 : Int32)).toInt = 1); have := ((by decide : (1 : Int32).toInt = 1) : ((1 : Int32)).toInt = 1); omega) (show rl_pm (FI22 121 90) (FI22 121 73) (FI22 166) (FI22 167) (FI22 168) from rl26)) (fun v230 sv231 p232 => ?_)
                have := congrArg Int32.toInt (show FI22 121 90 = x12 from (up_k u23 (by decide) (h13)))
                have := congrArg Int32.toInt (show FI22 121 73 = x9 from (up_k u23 (by decide) (h10)))
                have := congrArg Int32.toInt (show FI22 121 90 = x12 from (up_k u23 (by decide) (h13)))
                have := congrArg Int32.toInt (show FI22 121 73 = x9 from (up_k u23 (by decide) (h10)))
                have := congrArg Int32.toInt (show FI22 121 68 = x1 from (up_k u23 (by decide) (h2)))
                obtain ⟨r233, rfl, FI234, rfl, hI235, f236, t237, t238, t239, t240, t241, t242, u243, rl244⟩ := p232
                have rl245 : rl_e (FI234 149) (FI234 121 67) := by rw [show FI234 149 = FI22 149 from gf_row f236 (c149 hS) (s149 hS) rfl rfl, show FI234 121 67 = FI22 121 67 from gf_at f236 (c121 hS) (s121 hS) rfl rfl]; exact rl24
                have rl246 : rl_t (FI234 149) (FL 150) := by rw [show FI234 149 = FI22 149 from gf_row f236 (c149 hS) (s149 hS) rfl rfl]; exact rl25
                obtain ⟨x247, h248⟩ : ∃ y, FI234 121 90 = y := ⟨_, rfl⟩
                have h248l := congrArg Int32.toInt h248
                have b249 := gI_121_90 hI235; rw [h248] at b249
                obtain ⟨x250, h251⟩ : ∃ y, FI234 121 73 = y := ⟨_, rfl⟩
                have h251l := congrArg Int32.toInt h251
                have b252 := gI_121_73 hI235; rw [h251] at b252
                obtain ⟨x253, h254⟩ : ∃ y, FI234 121 68 = y := ⟨_, rfl⟩
                have h254l := congrArg Int32.toInt h254
                have b255 := gI_121_68 hI235; rw [h254] at b255
                show hw base _ _ _ _ _ [.int (r233)] _ _
                refine xw_iret (aX12_operator 117 rfl) rfl (i_nz rfl (by omega) (by omega)) ?_
                exact ⟨r233, rfl, FI234, rfl, hI235, (gf_tr ex_rf (gf_f gf_rf u23 (by decide)) f236 rfl rfl rfl), (by have := congrArg Int32.toInt (show FI234 121 67 = x4 from (gf_at f236 (c121 hS) (s121 hS) rfl ((up_k u23 (by decide) (h5))))); have := congrArg Int32.toInt (show FI234 121 68 = x253 from h254); omega), (by have := congrArg Int32.toInt (show FI234 121 68 = x253 from h254); omega), (by have := congrArg Int32.toInt (show FI234 121 68 = x253 from h254); have := congrArg Int32.toInt (show FI234 121 73 = x250 from h251); have := congrArg Int32.toInt (show FI234 121 90 = x247 from h248); omega), (by have := congrArg Int32.toInt (show FI234 121 73 = x250 from h251); omega), (by have := congrArg Int32.toInt (show FI234 121 90 = x247 from h248); omega), (by have := congrArg Int32.toInt (show FI234 121 68 = x253 from h254); omega), (by have := congrArg Int32.toInt (show FI234 121 69 = x7 from (gf_at f236 (c121 hS) (s121 hS) rfl ((up_k u23 (by decide) (h8))))); have := congrArg Int32.toInt (show FI234 121 71 = x15 from (gf_at f236 (c121 hS) (s121 hS) rfl ((up_k u23 (by decide) (h16))))); omega), (by unfold hid; have := congrArg Int32.toInt (show FI234 121 69 = x7 from (gf_at f236 (c121 hS) (s121 hS) rfl ((up_k u23 (by decide) (h8))))); have := congrArg Int32.toInt (show FI234 121 90 = x247 from h248); omega), (by omega), (by have := congrArg Int32.toInt (show FI234 121 68 = x253 from h254); have := congrArg Int32.toInt (show FI234 121 69 = x7 from (gf_at f236 (c121 hS) (s121 hS) rfl ((up_k u23 (by decide) (h8))))); have := congrArg Int32.toInt (show FI234 121 91 = (0 : Int32) from (gf_at f236 (c121 hS) (s121 hS) rfl (up_eq u23))); have := ((by decide : (0 : Int32).toInt = 0) : ((0 : Int32)).toInt = 0); have hz : ((r233)).toInt = (r233).toInt := rfl; have hm : (sk (FI234 166) (FI234 121 90).toInt.toNat) = 1 :: au_red 1 (sk (FI 166) (FI 121 90).toInt.toNat) := (by have hh := u243; rw [show ((1 : Int32)).toInt = (1 : Int) from by decide] at hh; rw [show FI22 166 = FI 166 from up_row u23 (by decide) rfl, show FI22 121 90 = FI 121 90 from up_k u23 (by decide) rfl] at hh; exact hh); have hbE := hb; rw [show FI22 149 = FI 149 from up_row u23 (by decide) rfl, show FI22 121 68 = FI 121 68 from up_k u23 (by decide) rfl] at hbE; exact fun _ => ⟨fun _ => Or.inl ⟨by omega, Or.inr (Or.inr (Or.inr (Or.inr (Or.inl ⟨rfl, by rw [hbE]; decide, by omega, rfl, by rw [hbE]; exact hm⟩))))⟩, fun h => absurd h (by omega)⟩), (by have := congrArg Int32.toInt (show FI234 121 69 = x7 from (gf_at f236 (c121 hS) (s121 hS) rfl ((up_k u23 (by decide) (h8))))); have := congrArg Int32.toInt (show FI234 121 71 = x15 from (gf_at f236 (c121 hS) (s121 hS) rfl ((up_k u23 (by decide) (h16))))); have hm : (sk (FI234 166) (FI234 121 90).toInt.toNat) = 1 :: au_red 1 (sk (FI 166) (FI 121 90).toInt.toNat) := (by have hh := u243; rw [show ((1 : Int32)).toInt = (1 : Int) from by decide] at hh; rw [show FI22 166 = FI 166 from up_row u23 (by decide) rfl, show FI22 121 90 = FI 121 90 from up_k u23 (by decide) rfl] at hh; exact hh); rw [hm]; intro _; simp only [au_op]; rw [if_pos (by decide), au_op_red (by decide) gg0 gg1]; omega), (show rl_pm (FI234 121 90) (FI234 121 73) (FI234 166) (FI234 167) (FI234 168) from rl244)⟩
            · replace t82 := t82 (by omega)
              have hq := u84.mp (by omega); rw [show ((94 : Int32)).toInt = (94 : Int) from by decide] at hq; have hb : au_bn (kf (FI22 149) (FI22 121 68).toInt.toNat) (wf (FL 150) (FI22 121 68).toInt.toNat) = 2 := au_bn_2.mpr hq
              refine hw_aloadn (aX12_operator 104 rfl) rfl ?_
              refine hw_bp (v := (39 : Int32)) (aX12_operator 105 rfl) (by decide) ?_
              refine hw_ic (v := (2 : Int32)) (aX12_operator 106 rfl) (by decide) ?_
              refine hw_callV (Bs := [.int ((39 : Int32)), .int ((2 : Int32))]) (rest := []) (aX12_operator 107 rfl) wc_RX12_610 (by decide) rfl wi_yX12_binary wv_yX12_binary (c121 hS) (s121 hS) rfl rfl rfl (Nat.le_of_ble_eq_true rfl) (Nat.le_of_ble_eq_true rfl) (n_binary (d := d + 2) hS hF hI27 ((39 : Int32)) ((2 : Int32)) (by have := congrArg Int32.toInt (show FI22 121 73 = x9 from (up_k u23 (by decide) (h10))); have := congrArg Int32.toInt (show FI22 121 90 = x12 from (up_k u23 (by decide) (h13))); omega) (by have := congrArg Int32.toInt (show FI22 121 90 = x12 from (up_k u23 (by decide) (h13))); omega) (by have := congrArg Int32.toInt (show FI22 121 68 = x1 from (up_k u23 (by decide) (h2))); have := congrArg Int32.toInt (show FI22 121 67 = x4 from (up_k u23 (by decide) (h5))); omega) (by have := ((by decide : (2 : Int32).toInt = 2) : ((2 : Int32)).toInt = 2); have := ((by decide : (2 : Int32).toInt = 2) : ((2 : Int32)).toInt = 2); omega) (show rl_pm (FI22 121 90) (FI22 121 73) (FI22 166) (FI22 167) (FI22 168) from rl26)) (fun v256 sv257 p258 => ?_)
              have := congrArg Int32.toInt (show FI22 121 90 = x12 from (up_k u23 (by decide) (h13)))
              have := congrArg Int32.toInt (show FI22 121 73 = x9 from (up_k u23 (by decide) (h10)))
              have := congrArg Int32.toInt (show FI22 121 90 = x12 from (up_k u23 (by decide) (h13)))
              have := congrArg Int32.toInt (show FI22 121 73 = x9 from (up_k u23 (by decide) (h10)))
              have := congrArg Int32.toInt (show FI22 121 68 = x1 from (up_k u23 (by decide) (h2)))
              obtain ⟨r259, rfl, FI260, rfl, hI261, f262, t263, t264, t265, t266, t267, t268, u269, rl270⟩ := p258
              have rl271 : rl_e (FI260 149) (FI260 121 67) := by rw [show FI260 149 = FI22 149 from gf_row f262 (c149 hS) (s149 hS) rfl rfl, show FI260 121 67 = FI22 121 67 from gf_at f262 (c121 hS) (s121 hS) rfl rfl]; exact rl24
              have rl272 : rl_t (FI260 149) (FL 150) := by rw [show FI260 149 = FI22 149 from gf_row f262 (c149 hS) (s149 hS) rfl rfl]; exact rl25
              obtain ⟨x273, h274⟩ : ∃ y, FI260 121 90 = y := ⟨_, rfl⟩
              have h274l := congrArg Int32.toInt h274
              have b275 := gI_121_90 hI261; rw [h274] at b275
              obtain ⟨x276, h277⟩ : ∃ y, FI260 121 73 = y := ⟨_, rfl⟩
              have h277l := congrArg Int32.toInt h277
              have b278 := gI_121_73 hI261; rw [h277] at b278
              obtain ⟨x279, h280⟩ : ∃ y, FI260 121 68 = y := ⟨_, rfl⟩
              have h280l := congrArg Int32.toInt h280
              have b281 := gI_121_68 hI261; rw [h280] at b281
              show hw base _ _ _ _ _ [.int (r259)] _ _
              refine xw_iret (aX12_operator 108 rfl) rfl (i_nz rfl (by omega) (by omega)) ?_
              exact ⟨r259, rfl, FI260, rfl, hI261, (gf_tr ex_rf (gf_f gf_rf u23 (by decide)) f262 rfl rfl rfl), (by have := congrArg Int32.toInt (show FI260 121 67 = x4 from (gf_at f262 (c121 hS) (s121 hS) rfl ((up_k u23 (by decide) (h5))))); have := congrArg Int32.toInt (show FI260 121 68 = x279 from h280); omega), (by have := congrArg Int32.toInt (show FI260 121 68 = x279 from h280); omega), (by have := congrArg Int32.toInt (show FI260 121 68 = x279 from h280); have := congrArg Int32.toInt (show FI260 121 73 = x276 from h277); have := congrArg Int32.toInt (show FI260 121 90 = x273 from h274); omega), (by have := congrArg Int32.toInt (show FI260 121 73 = x276 from h277); omega), (by have := congrArg Int32.toInt (show FI260 121 90 = x273 from h274); omega), (by have := congrArg Int32.toInt (show FI260 121 68 = x279 from h280); omega), (by have := congrArg Int32.toInt (show FI260 121 69 = x7 from (gf_at f262 (c121 hS) (s121 hS) rfl ((up_k u23 (by decide) (h8))))); have := congrArg Int32.toInt (show FI260 121 71 = x15 from (gf_at f262 (c121 hS) (s121 hS) rfl ((up_k u23 (by decide) (h16))))); omega), (by unfold hid; have := congrArg Int32.toInt (show FI260 121 69 = x7 from (gf_at f262 (c121 hS) (s121 hS) rfl ((up_k u23 (by decide) (h8))))); have := congrArg Int32.toInt (show FI260 121 90 = x273 from h274); omega), (by omega), (by have := congrArg Int32.toInt (show FI260 121 68 = x279 from h280); have := congrArg Int32.toInt (show FI260 121 69 = x7 from (gf_at f262 (c121 hS) (s121 hS) rfl ((up_k u23 (by decide) (h8))))); have := congrArg Int32.toInt (show FI260 121 91 = (0 : Int32) from (gf_at f262 (c121 hS) (s121 hS) rfl (up_eq u23))); have := ((by decide : (0 : Int32).toInt = 0) : ((0 : Int32)).toInt = 0); have hz : ((r259)).toInt = (r259).toInt := rfl; have hm : (sk (FI260 166) (FI260 121 90).toInt.toNat) = 2 :: au_red 2 (sk (FI 166) (FI 121 90).toInt.toNat) := (by have hh := u269; rw [show ((2 : Int32)).toInt = (2 : Int) from by decide] at hh; rw [show FI22 166 = FI 166 from up_row u23 (by decide) rfl, show FI22 121 90 = FI 121 90 from up_k u23 (by decide) rfl] at hh; exact hh); have hbE := hb; rw [show FI22 149 = FI 149 from up_row u23 (by decide) rfl, show FI22 121 68 = FI 121 68 from up_k u23 (by decide) rfl] at hbE; exact fun _ => ⟨fun _ => Or.inl ⟨by omega, Or.inr (Or.inr (Or.inr (Or.inr (Or.inl ⟨rfl, by rw [hbE]; decide, by omega, rfl, by rw [hbE]; exact hm⟩))))⟩, fun h => absurd h (by omega)⟩), (by have := congrArg Int32.toInt (show FI260 121 69 = x7 from (gf_at f262 (c121 hS) (s121 hS) rfl ((up_k u23 (by decide) (h8))))); have := congrArg Int32.toInt (show FI260 121 71 = x15 from (gf_at f262 (c121 hS) (s121 hS) rfl ((up_k u23 (by decide) (h16))))); have hm : (sk (FI260 166) (FI260 121 90).toInt.toNat) = 2 :: au_red 2 (sk (FI 166) (FI 121 90).toInt.toNat) := (by have hh := u269; rw [show ((2 : Int32)).toInt = (2 : Int) from by decide] at hh; rw [show FI22 166 = FI 166 from up_row u23 (by decide) rfl, show FI22 121 90 = FI 121 90 from up_k u23 (by decide) rfl] at hh; exact hh); rw [hm]; intro _; simp only [au_op]; rw [if_pos (by decide), au_op_red (by decide) gg0 gg1]; omega), (show rl_pm (FI260 121 90) (FI260 121 73) (FI260 166) (FI260 167) (FI260 168) from rl270)⟩
          · replace t73 := t73 (by omega)
            have hq := u75.mp (by omega); rw [show ((38 : Int32)).toInt = (38 : Int) from by decide] at hq; have hb : au_bn (kf (FI22 149) (FI22 121 68).toInt.toNat) (wf (FL 150) (FI22 121 68).toInt.toNat) = 3 := au_bn_3.mpr hq
            refine hw_aloadn (aX12_operator 95 rfl) rfl ?_
            refine hw_bp (v := (26 : Int32)) (aX12_operator 96 rfl) (by decide) ?_
            refine hw_ic (v := (3 : Int32)) (aX12_operator 97 rfl) (by decide) ?_
            refine hw_callV (Bs := [.int ((26 : Int32)), .int ((3 : Int32))]) (rest := []) (aX12_operator 98 rfl) wc_RX12_610 (by decide) rfl wi_yX12_binary wv_yX12_binary (c121 hS) (s121 hS) rfl rfl rfl (Nat.le_of_ble_eq_true rfl) (Nat.le_of_ble_eq_true rfl) (n_binary (d := d + 2) hS hF hI27 ((26 : Int32)) ((3 : Int32)) (by have := congrArg Int32.toInt (show FI22 121 73 = x9 from (up_k u23 (by decide) (h10))); have := congrArg Int32.toInt (show FI22 121 90 = x12 from (up_k u23 (by decide) (h13))); omega) (by have := congrArg Int32.toInt (show FI22 121 90 = x12 from (up_k u23 (by decide) (h13))); omega) (by have := congrArg Int32.toInt (show FI22 121 68 = x1 from (up_k u23 (by decide) (h2))); have := congrArg Int32.toInt (show FI22 121 67 = x4 from (up_k u23 (by decide) (h5))); omega) (by have := ((by decide : (3 : Int32).toInt = 3) : ((3 : Int32)).toInt = 3); have := ((by decide : (3 : Int32).toInt = 3) : ((3 : Int32)).toInt = 3); omega) (show rl_pm (FI22 121 90) (FI22 121 73) (FI22 166) (FI22 167) (FI22 168) from rl26)) (fun v282 sv283 p284 => ?_)
            have := congrArg Int32.toInt (show FI22 121 90 = x12 from (up_k u23 (by decide) (h13)))
            have := congrArg Int32.toInt (show FI22 121 73 = x9 from (up_k u23 (by decide) (h10)))
            have := congrArg Int32.toInt (show FI22 121 90 = x12 from (up_k u23 (by decide) (h13)))
            have := congrArg Int32.toInt (show FI22 121 73 = x9 from (up_k u23 (by decide) (h10)))
            have := congrArg Int32.toInt (show FI22 121 68 = x1 from (up_k u23 (by decide) (h2)))
            obtain ⟨r285, rfl, FI286, rfl, hI287, f288, t289, t290, t291, t292, t293, t294, u295, rl296⟩ := p284
            have rl297 : rl_e (FI286 149) (FI286 121 67) := by rw [show FI286 149 = FI22 149 from gf_row f288 (c149 hS) (s149 hS) rfl rfl, show FI286 121 67 = FI22 121 67 from gf_at f288 (c121 hS) (s121 hS) rfl rfl]; exact rl24
            have rl298 : rl_t (FI286 149) (FL 150) := by rw [show FI286 149 = FI22 149 from gf_row f288 (c149 hS) (s149 hS) rfl rfl]; exact rl25
            obtain ⟨x299, h300⟩ : ∃ y, FI286 121 90 = y := ⟨_, rfl⟩
            have h300l := congrArg Int32.toInt h300
            have b301 := gI_121_90 hI287; rw [h300] at b301
            obtain ⟨x302, h303⟩ : ∃ y, FI286 121 73 = y := ⟨_, rfl⟩
            have h303l := congrArg Int32.toInt h303
            have b304 := gI_121_73 hI287; rw [h303] at b304
            obtain ⟨x305, h306⟩ : ∃ y, FI286 121 68 = y := ⟨_, rfl⟩
            have h306l := congrArg Int32.toInt h306
            have b307 := gI_121_68 hI287; rw [h306] at b307
            show hw base _ _ _ _ _ [.int (r285)] _ _
            refine xw_iret (aX12_operator 99 rfl) rfl (i_nz rfl (by omega) (by omega)) ?_
            exact ⟨r285, rfl, FI286, rfl, hI287, (gf_tr ex_rf (gf_f gf_rf u23 (by decide)) f288 rfl rfl rfl), (by have := congrArg Int32.toInt (show FI286 121 67 = x4 from (gf_at f288 (c121 hS) (s121 hS) rfl ((up_k u23 (by decide) (h5))))); have := congrArg Int32.toInt (show FI286 121 68 = x305 from h306); omega), (by have := congrArg Int32.toInt (show FI286 121 68 = x305 from h306); omega), (by have := congrArg Int32.toInt (show FI286 121 68 = x305 from h306); have := congrArg Int32.toInt (show FI286 121 73 = x302 from h303); have := congrArg Int32.toInt (show FI286 121 90 = x299 from h300); omega), (by have := congrArg Int32.toInt (show FI286 121 73 = x302 from h303); omega), (by have := congrArg Int32.toInt (show FI286 121 90 = x299 from h300); omega), (by have := congrArg Int32.toInt (show FI286 121 68 = x305 from h306); omega), (by have := congrArg Int32.toInt (show FI286 121 69 = x7 from (gf_at f288 (c121 hS) (s121 hS) rfl ((up_k u23 (by decide) (h8))))); have := congrArg Int32.toInt (show FI286 121 71 = x15 from (gf_at f288 (c121 hS) (s121 hS) rfl ((up_k u23 (by decide) (h16))))); omega), (by unfold hid; have := congrArg Int32.toInt (show FI286 121 69 = x7 from (gf_at f288 (c121 hS) (s121 hS) rfl ((up_k u23 (by decide) (h8))))); have := congrArg Int32.toInt (show FI286 121 90 = x299 from h300); omega), (by omega), (by have := congrArg Int32.toInt (show FI286 121 68 = x305 from h306); have := congrArg Int32.toInt (show FI286 121 69 = x7 from (gf_at f288 (c121 hS) (s121 hS) rfl ((up_k u23 (by decide) (h8))))); have := congrArg Int32.toInt (show FI286 121 91 = (0 : Int32) from (gf_at f288 (c121 hS) (s121 hS) rfl (up_eq u23))); have := ((by decide : (0 : Int32).toInt = 0) : ((0 : Int32)).toInt = 0); have hz : ((r285)).toInt = (r285).toInt := rfl; have hm : (sk (FI286 166) (FI286 121 90).toInt.toNat) = 3 :: au_red 3 (sk (FI 166) (FI 121 90).toInt.toNat) := (by have hh := u295; rw [show ((3 : Int32)).toInt = (3 : Int) from by decide] at hh; rw [show FI22 166 = FI 166 from up_row u23 (by decide) rfl, show FI22 121 90 = FI 121 90 from up_k u23 (by decide) rfl] at hh; exact hh); have hbE := hb; rw [show FI22 149 = FI 149 from up_row u23 (by decide) rfl, show FI22 121 68 = FI 121 68 from up_k u23 (by decide) rfl] at hbE; exact fun _ => ⟨fun _ => Or.inl ⟨by omega, Or.inr (Or.inr (Or.inr (Or.inr (Or.inl ⟨rfl, by rw [hbE]; decide, by omega, rfl, by rw [hbE]; exact hm⟩))))⟩, fun h => absurd h (by omega)⟩), (by have := congrArg Int32.toInt (show FI286 121 69 = x7 from (gf_at f288 (c121 hS) (s121 hS) rfl ((up_k u23 (by decide) (h8))))); have := congrArg Int32.toInt (show FI286 121 71 = x15 from (gf_at f288 (c121 hS) (s121 hS) rfl ((up_k u23 (by decide) (h16))))); have hm : (sk (FI286 166) (FI286 121 90).toInt.toNat) = 3 :: au_red 3 (sk (FI 166) (FI 121 90).toInt.toNat) := (by have hh := u295; rw [show ((3 : Int32)).toInt = (3 : Int) from by decide] at hh; rw [show FI22 166 = FI 166 from up_row u23 (by decide) rfl, show FI22 121 90 = FI 121 90 from up_k u23 (by decide) rfl] at hh; exact hh); rw [hm]; intro _; simp only [au_op]; rw [if_pos (by decide), au_op_red (by decide) gg0 gg1]; omega), (show rl_pm (FI286 121 90) (FI286 121 73) (FI286 166) (FI286 167) (FI286 168) from rl296)⟩
        · have hb : au_bn (kf (FI22 149) (FI22 121 68).toInt.toNat) (wf (FL 150) (FI22 121 68).toInt.toNat) = 4 := by rw [hk1, hw1]; exact au_bn_4.mpr (hid_e t65 (by omega))
          have hlt : (x1).toInt < (x4).toInt - 1 := by have hM := hid_e t65 (by omega); clear hw1; have := hnn (by omega); omega
          refine hw_aloadn (aX12_operator 69 rfl) rfl ?_
          refine hw_ic (v := (5 : Int32)) (aX12_operator 70 rfl) (by decide) ?_
          refine hw_callV (Bs := [.int ((5 : Int32))]) (rest := []) (aX12_operator 71 rfl) wc_RX12_566 (by decide) rfl wi_yX12_reduced wv_yX12_reduced (c121 hS) (s121 hS) rfl rfl rfl (Nat.le_of_ble_eq_true rfl) (Nat.le_of_ble_eq_true rfl) (n_reduced (d := d + 3) hS hF hI27 ((5 : Int32)) (by have := congrArg Int32.toInt (show FI22 121 73 = x9 from (up_k u23 (by decide) (h10))); have := congrArg Int32.toInt (show FI22 121 90 = x12 from (up_k u23 (by decide) (h13))); omega) (by have := ((by decide : (5 : Int32).toInt = 5) : ((5 : Int32)).toInt = 5); have := ((by decide : (5 : Int32).toInt = 5) : ((5 : Int32)).toInt = 5); omega) (show rl_pm (FI22 121 90) (FI22 121 73) (FI22 166) (FI22 167) (FI22 168) from rl26)) (fun v308 sv309 p310 => ?_)
          have := congrArg Int32.toInt (show FI22 121 90 = x12 from (up_k u23 (by decide) (h13)))
          have := congrArg Int32.toInt (show FI22 121 73 = x9 from (up_k u23 (by decide) (h10)))
          have := congrArg Int32.toInt (show FI22 121 90 = x12 from (up_k u23 (by decide) (h13)))
          have := congrArg Int32.toInt (show FI22 121 73 = x9 from (up_k u23 (by decide) (h10)))
          obtain ⟨rfl, FI312, rfl, hI313, f314, t315, t316, t317, u318, rl319⟩ := p310
          have rl320 : rl_e (FI312 149) (FI312 121 67) := by rw [show FI312 149 = FI22 149 from gf_row f314 (c149 hS) (s149 hS) rfl rfl, show FI312 121 67 = FI22 121 67 from gf_at f314 (c121 hS) (s121 hS) rfl rfl]; exact rl24
          have rl321 : rl_t (FI312 149) (FL 150) := by rw [show FI312 149 = FI22 149 from gf_row f314 (c149 hS) (s149 hS) rfl rfl]; exact rl25
          obtain ⟨x322, h323⟩ : ∃ y, FI312 121 90 = y := ⟨_, rfl⟩
          have h323l := congrArg Int32.toInt h323
          have b324 := gI_121_90 hI313; rw [h323] at b324
          obtain ⟨x325, h326⟩ : ∃ y, FI312 121 73 = y := ⟨_, rfl⟩
          have h326l := congrArg Int32.toInt h326
          have b327 := gI_121_73 hI313; rw [h326] at b327
          show hw base _ _ _ _ _ [] _ _
          refine hw_aloadn (aX12_operator 72 rfl) rfl ?_
          refine hw_callV (Bs := []) (rest := []) (aX12_operator 73 rfl) wc_RX12_559 (by decide) rfl wi_yX12_tops wv_yX12_tops (c121 hS) (s121 hS) rfl rfl rfl (Nat.le_of_ble_eq_true rfl) (Nat.le_of_ble_eq_true rfl) (n_tops (d := d + 4) hS hF hI313 ) (fun v328 sv329 p330 => ?_)
          have := congrArg Int32.toInt (show FI312 121 90 = x322 from h323)
          obtain ⟨r331, rfl, rfl, t333, u334, u335⟩ := p330
          have rg_r331 := i_rng r331
          show hw base _ _ _ _ _ [.int (r331)] _ _
          refine hw_ic (v := (4 : Int32)) (aX12_operator 74 rfl) (by decide) ?_
          refine hw_icne (tgt := 138) (aX12_operator 75 rfl) (by decide) rfl (by decide : (4 : Int32).toInt = 4) (fun cd336 => ?_) (fun cd336 => ?_)
          · refine hw_aloadn (aX12_operator 79 rfl) rfl ?_
            refine hw_get (v := .int (x7)) (aX12_operator 80 rfl) wf_RX12_475 (c121 hS) (s121 hS) (by decide) (congrArg Value.int (show FI312 121 69 = x7 from (gf_at f314 (c121 hS) (s121 hS) rfl ((up_k u23 (by decide) (h8)))))) ?_
            refine hw_ifne (tgt := 158) (aX12_operator 81 rfl) (by decide) rfl (fun cd337 => ?_) (fun cd337 => ?_)
            · omega
            · refine hw_aloadn (aX12_operator 82 rfl) rfl ?_
              refine xw_iloadn (aX12_operator 83 rfl) rfl ?_
              refine hw_ic (v := (4 : Int32)) (aX12_operator 84 rfl) (by decide) ?_
              refine hw_callV (Bs := [.int (r62), .int ((4 : Int32))]) (rest := []) (aX12_operator 85 rfl) wc_RX12_610 (by decide) rfl wi_yX12_binary wv_yX12_binary (c121 hS) (s121 hS) rfl rfl rfl (Nat.le_of_ble_eq_true rfl) (Nat.le_of_ble_eq_true rfl) (n_binary (d := d + 2) hS hF hI313 (r62) ((4 : Int32)) (by have := congrArg Int32.toInt (show FI312 121 73 = x325 from h326); have := congrArg Int32.toInt (show FI312 121 90 = x322 from h323); omega) (by have := congrArg Int32.toInt (show FI312 121 90 = x322 from h323); omega) (by have := congrArg Int32.toInt (show FI312 121 68 = x1 from (gf_at f314 (c121 hS) (s121 hS) rfl ((up_k u23 (by decide) (h2))))); have := congrArg Int32.toInt (show FI312 121 67 = x4 from (gf_at f314 (c121 hS) (s121 hS) rfl ((up_k u23 (by decide) (h5))))); omega) (by have := ((by decide : (4 : Int32).toInt = 4) : ((4 : Int32)).toInt = 4); have := ((by decide : (4 : Int32).toInt = 4) : ((4 : Int32)).toInt = 4); omega) (show rl_pm (FI312 121 90) (FI312 121 73) (FI312 166) (FI312 167) (FI312 168) from rl319)) (fun v338 sv339 p340 => ?_)
              have := congrArg Int32.toInt (show FI312 121 90 = x322 from h323)
              have := congrArg Int32.toInt (show FI312 121 73 = x325 from h326)
              have := congrArg Int32.toInt (show FI312 121 90 = x322 from h323)
              have := congrArg Int32.toInt (show FI312 121 73 = x325 from h326)
              have := congrArg Int32.toInt (show FI312 121 68 = x1 from (gf_at f314 (c121 hS) (s121 hS) rfl ((up_k u23 (by decide) (h2)))))
              obtain ⟨r341, rfl, FI342, rfl, hI343, f344, t345, t346, t347, t348, t349, t350, u351, rl352⟩ := p340
              have rl353 : rl_e (FI342 149) (FI342 121 67) := by rw [show FI342 149 = FI312 149 from gf_row f344 (c149 hS) (s149 hS) rfl rfl, show FI342 121 67 = FI312 121 67 from gf_at f344 (c121 hS) (s121 hS) rfl rfl]; exact rl320
              have rl354 : rl_t (FI342 149) (FL 150) := by rw [show FI342 149 = FI312 149 from gf_row f344 (c149 hS) (s149 hS) rfl rfl]; exact rl321
              obtain ⟨x355, h356⟩ : ∃ y, FI342 121 90 = y := ⟨_, rfl⟩
              have h356l := congrArg Int32.toInt h356
              have b357 := gI_121_90 hI343; rw [h356] at b357
              obtain ⟨x358, h359⟩ : ∃ y, FI342 121 73 = y := ⟨_, rfl⟩
              have h359l := congrArg Int32.toInt h359
              have b360 := gI_121_73 hI343; rw [h359] at b360
              obtain ⟨x361, h362⟩ : ∃ y, FI342 121 68 = y := ⟨_, rfl⟩
              have h362l := congrArg Int32.toInt h362
              have b363 := gI_121_68 hI343; rw [h362] at b363
              show hw base _ _ _ _ _ [.int (r341)] _ _
              refine hw_ifeq (tgt := 158) (aX12_operator 86 rfl) (by decide) rfl (fun cd364 => ?_) (fun cd364 => ?_)
              · omega
              · refine hw_ic (v := (1 : Int32)) (aX12_operator 87 rfl) (by decide) ?_
                refine xw_goto (tgt := 159) (aX12_operator 88 rfl) (by decide) ?_
                refine xw_iret (aX12_operator 90 rfl) rfl (by decide) ?_
                have e365 : ((1 : Int32)).toInt = 1 := (by decide : (1 : Int32).toInt = 1)
                exact ⟨(1 : Int32), rfl, FI342, rfl, hI343, (gf_tr ex_rf (gf_tr ex_rf (gf_f gf_rf u23 (by decide)) f314 rfl rfl rfl) f344 rfl rfl rfl), (by have : ((1 : Int32)).toInt = 1 := (by decide); have := congrArg Int32.toInt (show FI342 121 67 = x4 from (gf_at f344 (c121 hS) (s121 hS) rfl ((gf_at f314 (c121 hS) (s121 hS) rfl ((up_k u23 (by decide) (h5))))))); have := congrArg Int32.toInt (show FI342 121 68 = x361 from h362); omega), (by have : ((1 : Int32)).toInt = 1 := (by decide); have := congrArg Int32.toInt (show FI342 121 68 = x361 from h362); omega), (by have : ((1 : Int32)).toInt = 1 := (by decide); have := congrArg Int32.toInt (show FI342 121 68 = x361 from h362); have := congrArg Int32.toInt (show FI342 121 73 = x358 from h359); have := congrArg Int32.toInt (show FI342 121 90 = x355 from h356); omega), (by have : ((1 : Int32)).toInt = 1 := (by decide); have := congrArg Int32.toInt (show FI342 121 73 = x358 from h359); omega), (by have : ((1 : Int32)).toInt = 1 := (by decide); have := congrArg Int32.toInt (show FI342 121 90 = x355 from h356); omega), (by have : ((1 : Int32)).toInt = 1 := (by decide); have := congrArg Int32.toInt (show FI342 121 68 = x361 from h362); omega), (by have : ((1 : Int32)).toInt = 1 := (by decide); have := congrArg Int32.toInt (show FI342 121 69 = x7 from (gf_at f344 (c121 hS) (s121 hS) rfl ((gf_at f314 (c121 hS) (s121 hS) rfl ((up_k u23 (by decide) (h8))))))); have := congrArg Int32.toInt (show FI342 121 71 = x15 from (gf_at f344 (c121 hS) (s121 hS) rfl ((gf_at f314 (c121 hS) (s121 hS) rfl ((up_k u23 (by decide) (h16))))))); omega), (by unfold hid; have : ((1 : Int32)).toInt = 1 := (by decide); have := congrArg Int32.toInt (show FI342 121 69 = x7 from (gf_at f344 (c121 hS) (s121 hS) rfl ((gf_at f314 (c121 hS) (s121 hS) rfl ((up_k u23 (by decide) (h8))))))); have := congrArg Int32.toInt (show FI342 121 90 = x355 from h356); omega), (by have : ((1 : Int32)).toInt = 1 := (by decide); omega), (by have := congrArg Int32.toInt (show FI342 121 68 = x361 from h362); have := congrArg Int32.toInt (show FI342 121 69 = x7 from (gf_at f344 (c121 hS) (s121 hS) rfl ((gf_at f314 (c121 hS) (s121 hS) rfl ((up_k u23 (by decide) (h8))))))); have := congrArg Int32.toInt (show FI342 121 91 = (0 : Int32) from (gf_at f344 (c121 hS) (s121 hS) rfl ((gf_at f314 (c121 hS) (s121 hS) rfl (up_eq u23))))); have := ((by decide : (0 : Int32).toInt = 0) : ((0 : Int32)).toInt = 0); have hz : (((1 : Int32))).toInt = 1 := (by decide : (1 : Int32).toInt = 1); have hm : (sk (FI342 166) (FI342 121 90).toInt.toNat) = 4 :: au_red 4 (sk (FI 166) (FI 121 90).toInt.toNat) := (by have hh := u351; rw [show ((4 : Int32)).toInt = (4 : Int) from by decide] at hh; rw [show FI312 166 = FI22 166 from (gf_row f314 (c166 hS) (s166 hS) rfl (rfl)), show FI312 121 90 = FI312 121 90 from (h323).trans (h323).symm] at hh; have hy5 := u318; rw [show ((5 : Int32)).toInt = (5 : Int) from by decide] at hy5; rw [hy5, au_red_red (by decide)] at hh; rw [show FI22 166 = FI 166 from up_row u23 (by decide) rfl, show FI22 121 90 = FI 121 90 from up_k u23 (by decide) rfl] at hh; exact hh); have hbE := hb; rw [show FI22 149 = FI 149 from up_row u23 (by decide) rfl, show FI22 121 68 = FI 121 68 from up_k u23 (by decide) rfl] at hbE; exact fun _ => ⟨fun _ => Or.inl ⟨by omega, Or.inr (Or.inr (Or.inr (Or.inr (Or.inl ⟨rfl, by rw [hbE]; decide, by omega, rfl, by rw [hbE]; exact hm⟩))))⟩, fun h => absurd h (by omega)⟩), (by have := congrArg Int32.toInt (show FI342 121 69 = x7 from (gf_at f344 (c121 hS) (s121 hS) rfl ((gf_at f314 (c121 hS) (s121 hS) rfl ((up_k u23 (by decide) (h8))))))); have := congrArg Int32.toInt (show FI342 121 71 = x15 from (gf_at f344 (c121 hS) (s121 hS) rfl ((gf_at f314 (c121 hS) (s121 hS) rfl ((up_k u23 (by decide) (h16))))))); have hm : (sk (FI342 166) (FI342 121 90).toInt.toNat) = 4 :: au_red 4 (sk (FI 166) (FI 121 90).toInt.toNat) := (by have hh := u351; rw [show ((4 : Int32)).toInt = (4 : Int) from by decide] at hh; rw [show FI312 166 = FI22 166 from (gf_row f314 (c166 hS) (s166 hS) rfl (rfl)), show FI312 121 90 = FI312 121 90 from (h323).trans (h323).symm] at hh; have hy5 := u318; rw [show ((5 : Int32)).toInt = (5 : Int) from by decide] at hy5; rw [hy5, au_red_red (by decide)] at hh; rw [show FI22 166 = FI 166 from up_row u23 (by decide) rfl, show FI22 121 90 = FI 121 90 from up_k u23 (by decide) rfl] at hh; exact hh); rw [hm]; intro _; simp only [au_op]; rw [if_pos (by decide), au_op_red (by decide) gg0 gg1]; omega), (show rl_pm (FI342 121 90) (FI342 121 73) (FI342 166) (FI342 167) (FI342 168) from rl352)⟩
          · refine hw_aloadn (aX12_operator 76 rfl) rfl ?_
            refine hw_ic (v := (1 : Int32)) (aX12_operator 77 rfl) (by decide) ?_
            refine hw_callV (Bs := [.int ((1 : Int32))]) (rest := []) (aX12_operator 78 rfl) wc_RX12_487 (by decide) rfl wi_yX12_fail wv_yX12_fail (c121 hS) (s121 hS) rfl rfl rfl (Nat.le_of_ble_eq_true rfl) (Nat.le_of_ble_eq_true rfl) (n_fail (d := d + 4) hS hF hI313 ((1 : Int32)) (by have := ((by decide : (1 : Int32).toInt = 1) : ((1 : Int32)).toInt = 1); omega)) (fun v366 sv367 p368 => ?_)
            obtain ⟨rfl, FI370, rfl, hI371, f372, t373⟩ := p368
            have rl374 : rl_e (FI370 149) (FI370 121 67) := by rw [show FI370 149 = FI312 149 from gf_row f372 (c149 hS) (s149 hS) rfl rfl, show FI370 121 67 = FI312 121 67 from gf_at f372 (c121 hS) (s121 hS) rfl rfl]; exact rl320
            have rl375 : rl_t (FI370 149) (FL 150) := by rw [show FI370 149 = FI312 149 from gf_row f372 (c149 hS) (s149 hS) rfl rfl]; exact rl321
            have rl376 : rl_pm (FI370 121 90) (FI370 121 73) (FI370 166) (FI370 167) (FI370 168) := by rw [show FI370 166 = FI312 166 from gf_row f372 (c166 hS) (s166 hS) rfl rfl, show FI370 167 = FI312 167 from gf_row f372 (c167 hS) (s167 hS) rfl rfl, show FI370 168 = FI312 168 from gf_row f372 (c168 hS) (s168 hS) rfl rfl, show FI370 121 90 = FI312 121 90 from gf_at f372 (c121 hS) (s121 hS) rfl rfl, show FI370 121 73 = FI312 121 73 from gf_at f372 (c121 hS) (s121 hS) rfl rfl]; exact rl319
            obtain ⟨x377, h378⟩ : ∃ y, FI370 121 69 = y := ⟨_, rfl⟩
            have h378l := congrArg Int32.toInt h378
            have := i_rng x377
            show hw base _ _ _ _ _ [] _ _
            refine hw_aloadn (aX12_operator 79 rfl) rfl ?_
            refine hw_get (v := .int (x377)) (aX12_operator 80 rfl) wf_RX12_475 (c121 hS) (s121 hS) (by decide) (congrArg Value.int (show FI370 121 69 = x377 from h378)) ?_
            refine hw_ifne (tgt := 158) (aX12_operator 81 rfl) (by decide) rfl (fun cd379 => ?_) (fun cd379 => ?_)
            · refine hw_ic (v := (0 : Int32)) (aX12_operator 89 rfl) (by decide) ?_
              refine xw_iret (aX12_operator 90 rfl) rfl (by decide) ?_
              have e380 : ((0 : Int32)).toInt = 0 := (by decide : (0 : Int32).toInt = 0)
              exact ⟨(0 : Int32), rfl, FI370, rfl, hI371, (gf_tr ex_rf (gf_tr ex_rf (gf_f gf_rf u23 (by decide)) f314 rfl rfl rfl) f372 rfl rfl rfl), (by have : ((0 : Int32)).toInt = 0 := (by decide); have := congrArg Int32.toInt (show FI370 121 67 = x4 from (gf_at f372 (c121 hS) (s121 hS) rfl ((gf_at f314 (c121 hS) (s121 hS) rfl ((up_k u23 (by decide) (h5))))))); have := congrArg Int32.toInt (show FI370 121 68 = x1 from (gf_at f372 (c121 hS) (s121 hS) rfl ((gf_at f314 (c121 hS) (s121 hS) rfl ((up_k u23 (by decide) (h2))))))); omega), (by have : ((0 : Int32)).toInt = 0 := (by decide); have := congrArg Int32.toInt (show FI370 121 68 = x1 from (gf_at f372 (c121 hS) (s121 hS) rfl ((gf_at f314 (c121 hS) (s121 hS) rfl ((up_k u23 (by decide) (h2))))))); omega), (by have : ((0 : Int32)).toInt = 0 := (by decide); have := congrArg Int32.toInt (show FI370 121 68 = x1 from (gf_at f372 (c121 hS) (s121 hS) rfl ((gf_at f314 (c121 hS) (s121 hS) rfl ((up_k u23 (by decide) (h2))))))); have := congrArg Int32.toInt (show FI370 121 73 = x325 from (gf_at f372 (c121 hS) (s121 hS) rfl (h326))); have := congrArg Int32.toInt (show FI370 121 90 = x322 from (gf_at f372 (c121 hS) (s121 hS) rfl (h323))); omega), (by have : ((0 : Int32)).toInt = 0 := (by decide); have := congrArg Int32.toInt (show FI370 121 73 = x325 from (gf_at f372 (c121 hS) (s121 hS) rfl (h326))); omega), (by have : ((0 : Int32)).toInt = 0 := (by decide); have := congrArg Int32.toInt (show FI370 121 90 = x322 from (gf_at f372 (c121 hS) (s121 hS) rfl (h323))); omega), (by have : ((0 : Int32)).toInt = 0 := (by decide); have := congrArg Int32.toInt (show FI370 121 68 = x1 from (gf_at f372 (c121 hS) (s121 hS) rfl ((gf_at f314 (c121 hS) (s121 hS) rfl ((up_k u23 (by decide) (h2))))))); omega), (by have : ((0 : Int32)).toInt = 0 := (by decide); have := congrArg Int32.toInt (show FI370 121 69 = x377 from h378); have := congrArg Int32.toInt (show FI370 121 71 = x15 from (gf_at f372 (c121 hS) (s121 hS) rfl ((gf_at f314 (c121 hS) (s121 hS) rfl ((up_k u23 (by decide) (h16))))))); omega), (by unfold hid; have : ((0 : Int32)).toInt = 0 := (by decide); have := congrArg Int32.toInt (show FI370 121 69 = x377 from h378); have := congrArg Int32.toInt (show FI370 121 90 = x322 from (gf_at f372 (c121 hS) (s121 hS) rfl (h323))); omega), (by have : ((0 : Int32)).toInt = 0 := (by decide); omega), (by have := congrArg Int32.toInt (show FI370 121 69 = x377 from h378); exact fun h => absurd h (by omega)), (by have := congrArg Int32.toInt (show FI370 121 69 = x377 from h378); exact fun h => absurd h (by omega)), (show rl_pm (FI370 121 90) (FI370 121 73) (FI370 166) (FI370 167) (FI370 168) from rl376)⟩
            · omega
      · have hb : au_bn (kf (FI22 149) (FI22 121 68).toInt.toNat) (wf (FL 150) (FI22 121 68).toInt.toNat) = 5 := by rw [hk1, hw1]; exact au_bn_5.mpr (hid_e t56 (by omega))
        have hlt : (x1).toInt < (x4).toInt - 1 := by have hM := hid_e t56 (by omega); clear hw1; have := hnn (by omega); omega
        refine hw_aloadn (aX12_operator 48 rfl) rfl ?_
        refine xw_iloadn (aX12_operator 49 rfl) rfl ?_
        refine hw_ic (v := (5 : Int32)) (aX12_operator 50 rfl) (by decide) ?_
        refine hw_callV (Bs := [.int (r53), .int ((5 : Int32))]) (rest := []) (aX12_operator 51 rfl) wc_RX12_610 (by decide) rfl wi_yX12_binary wv_yX12_binary (c121 hS) (s121 hS) rfl rfl rfl (Nat.le_of_ble_eq_true rfl) (Nat.le_of_ble_eq_true rfl) (n_binary (d := d + 2) hS hF hI27 (r53) ((5 : Int32)) (by have := congrArg Int32.toInt (show FI22 121 73 = x9 from (up_k u23 (by decide) (h10))); have := congrArg Int32.toInt (show FI22 121 90 = x12 from (up_k u23 (by decide) (h13))); omega) (by have := congrArg Int32.toInt (show FI22 121 90 = x12 from (up_k u23 (by decide) (h13))); omega) (by have := congrArg Int32.toInt (show FI22 121 68 = x1 from (up_k u23 (by decide) (h2))); have := congrArg Int32.toInt (show FI22 121 67 = x4 from (up_k u23 (by decide) (h5))); omega) (by have := ((by decide : (5 : Int32).toInt = 5) : ((5 : Int32)).toInt = 5); have := ((by decide : (5 : Int32).toInt = 5) : ((5 : Int32)).toInt = 5); omega) (show rl_pm (FI22 121 90) (FI22 121 73) (FI22 166) (FI22 167) (FI22 168) from rl26)) (fun v381 sv382 p383 => ?_)
        have := congrArg Int32.toInt (show FI22 121 90 = x12 from (up_k u23 (by decide) (h13)))
        have := congrArg Int32.toInt (show FI22 121 73 = x9 from (up_k u23 (by decide) (h10)))
        have := congrArg Int32.toInt (show FI22 121 90 = x12 from (up_k u23 (by decide) (h13)))
        have := congrArg Int32.toInt (show FI22 121 73 = x9 from (up_k u23 (by decide) (h10)))
        have := congrArg Int32.toInt (show FI22 121 68 = x1 from (up_k u23 (by decide) (h2)))
        obtain ⟨r384, rfl, FI385, rfl, hI386, f387, t388, t389, t390, t391, t392, t393, u394, rl395⟩ := p383
        have rl396 : rl_e (FI385 149) (FI385 121 67) := by rw [show FI385 149 = FI22 149 from gf_row f387 (c149 hS) (s149 hS) rfl rfl, show FI385 121 67 = FI22 121 67 from gf_at f387 (c121 hS) (s121 hS) rfl rfl]; exact rl24
        have rl397 : rl_t (FI385 149) (FL 150) := by rw [show FI385 149 = FI22 149 from gf_row f387 (c149 hS) (s149 hS) rfl rfl]; exact rl25
        obtain ⟨x398, h399⟩ : ∃ y, FI385 121 90 = y := ⟨_, rfl⟩
        have h399l := congrArg Int32.toInt h399
        have b400 := gI_121_90 hI386; rw [h399] at b400
        obtain ⟨x401, h402⟩ : ∃ y, FI385 121 73 = y := ⟨_, rfl⟩
        have h402l := congrArg Int32.toInt h402
        have b403 := gI_121_73 hI386; rw [h402] at b403
        obtain ⟨x404, h405⟩ : ∃ y, FI385 121 68 = y := ⟨_, rfl⟩
        have h405l := congrArg Int32.toInt h405
        have b406 := gI_121_68 hI386; rw [h405] at b406
        show hw base _ _ _ _ _ [.int (r384)] _ _
        refine xw_iret (aX12_operator 52 rfl) rfl (i_nz rfl (by omega) (by omega)) ?_
        exact ⟨r384, rfl, FI385, rfl, hI386, (gf_tr ex_rf (gf_f gf_rf u23 (by decide)) f387 rfl rfl rfl), (by have := congrArg Int32.toInt (show FI385 121 67 = x4 from (gf_at f387 (c121 hS) (s121 hS) rfl ((up_k u23 (by decide) (h5))))); have := congrArg Int32.toInt (show FI385 121 68 = x404 from h405); omega), (by have := congrArg Int32.toInt (show FI385 121 68 = x404 from h405); omega), (by have := congrArg Int32.toInt (show FI385 121 68 = x404 from h405); have := congrArg Int32.toInt (show FI385 121 73 = x401 from h402); have := congrArg Int32.toInt (show FI385 121 90 = x398 from h399); omega), (by have := congrArg Int32.toInt (show FI385 121 73 = x401 from h402); omega), (by have := congrArg Int32.toInt (show FI385 121 90 = x398 from h399); omega), (by have := congrArg Int32.toInt (show FI385 121 68 = x404 from h405); omega), (by have := congrArg Int32.toInt (show FI385 121 69 = x7 from (gf_at f387 (c121 hS) (s121 hS) rfl ((up_k u23 (by decide) (h8))))); have := congrArg Int32.toInt (show FI385 121 71 = x15 from (gf_at f387 (c121 hS) (s121 hS) rfl ((up_k u23 (by decide) (h16))))); omega), (by unfold hid; have := congrArg Int32.toInt (show FI385 121 69 = x7 from (gf_at f387 (c121 hS) (s121 hS) rfl ((up_k u23 (by decide) (h8))))); have := congrArg Int32.toInt (show FI385 121 90 = x398 from h399); omega), (by omega), (by have := congrArg Int32.toInt (show FI385 121 68 = x404 from h405); have := congrArg Int32.toInt (show FI385 121 69 = x7 from (gf_at f387 (c121 hS) (s121 hS) rfl ((up_k u23 (by decide) (h8))))); have := congrArg Int32.toInt (show FI385 121 91 = (0 : Int32) from (gf_at f387 (c121 hS) (s121 hS) rfl (up_eq u23))); have := ((by decide : (0 : Int32).toInt = 0) : ((0 : Int32)).toInt = 0); have hz : ((r384)).toInt = (r384).toInt := rfl; have hm : (sk (FI385 166) (FI385 121 90).toInt.toNat) = 5 :: au_red 5 (sk (FI 166) (FI 121 90).toInt.toNat) := (by have hh := u394; rw [show ((5 : Int32)).toInt = (5 : Int) from by decide] at hh; rw [show FI22 166 = FI 166 from up_row u23 (by decide) rfl, show FI22 121 90 = FI 121 90 from up_k u23 (by decide) rfl] at hh; exact hh); have hbE := hb; rw [show FI22 149 = FI 149 from up_row u23 (by decide) rfl, show FI22 121 68 = FI 121 68 from up_k u23 (by decide) rfl] at hbE; exact fun _ => ⟨fun _ => Or.inl ⟨by omega, Or.inr (Or.inr (Or.inr (Or.inr (Or.inl ⟨rfl, by rw [hbE]; decide, by omega, rfl, by rw [hbE]; exact hm⟩))))⟩, fun h => absurd h (by omega)⟩), (by have := congrArg Int32.toInt (show FI385 121 69 = x7 from (gf_at f387 (c121 hS) (s121 hS) rfl ((up_k u23 (by decide) (h8))))); have := congrArg Int32.toInt (show FI385 121 71 = x15 from (gf_at f387 (c121 hS) (s121 hS) rfl ((up_k u23 (by decide) (h16))))); have hm : (sk (FI385 166) (FI385 121 90).toInt.toNat) = 5 :: au_red 5 (sk (FI 166) (FI 121 90).toInt.toNat) := (by have hh := u394; rw [show ((5 : Int32)).toInt = (5 : Int) from by decide] at hh; rw [show FI22 166 = FI 166 from up_row u23 (by decide) rfl, show FI22 121 90 = FI 121 90 from up_k u23 (by decide) rfl] at hh; exact hh); rw [hm]; intro _; simp only [au_op]; rw [if_pos (by decide), au_op_red (by decide) gg0 gg1]; omega), (show rl_pm (FI385 121 90) (FI385 121 73) (FI385 166) (FI385 167) (FI385 168) from rl395)⟩
    · replace t46 := t46 (by omega)
      have hg5 := u48.mp (by omega); rw [show (x1).toInt.toNat = (FI22 121 68).toInt.toNat from congrArg (fun x : Int32 => x.toInt.toNat) ((up_k u23 (by decide) (h2))).symm] at hg5
      refine hw_aloadn (aX12_operator 29 rfl) rfl ?_
      refine hw_callV (Bs := []) (rest := []) (aX12_operator 30 rfl) wc_RX12_614 (by decide) rfl wi_yX12_added wv_yX12_added (c121 hS) (s121 hS) rfl rfl rfl (Nat.le_of_ble_eq_true rfl) (Nat.le_of_ble_eq_true rfl) (n_added (d := d + 2) hS hF hI27 (by have := congrArg Int32.toInt (show FI22 121 68 = x1 from (up_k u23 (by decide) (h2))); have := congrArg Int32.toInt (show FI22 121 67 = x4 from (up_k u23 (by decide) (h5))); omega) (by have := congrArg Int32.toInt (show FI22 121 69 = x7 from (up_k u23 (by decide) (h8))); omega) (by have := congrArg Int32.toInt (show FI22 121 73 = x9 from (up_k u23 (by decide) (h10))); have := congrArg Int32.toInt (show FI22 121 90 = x12 from (up_k u23 (by decide) (h13))); omega) (by have := congrArg Int32.toInt (show FI22 121 90 = x12 from (up_k u23 (by decide) (h13))); omega) (by have := congrArg Int32.toInt (show FI22 121 91 = (0 : Int32) from up_eq u23); have := ((by decide : (0 : Int32).toInt = 0) : ((0 : Int32)).toInt = 0); omega) (hg5) (by rw [show FI22 166 = FI 166 from up_row u23 (by decide) rfl, show FI22 121 90 = FI 121 90 from up_k u23 (by decide) rfl]; exact gg0) (by rw [show FI22 166 = FI 166 from up_row u23 (by decide) rfl, show FI22 121 90 = FI 121 90 from up_k u23 (by decide) rfl]; exact gg1) (show rl_e (FI22 149) (FI22 121 67) from rl24) (show rl_t (FI22 149) (FL 150) from rl25) (show rl_pm (FI22 121 90) (FI22 121 73) (FI22 166) (FI22 167) (FI22 168) from rl26)) (fun v407 sv408 p409 => ?_)
      have := congrArg Int32.toInt (show FI22 121 68 = x1 from (up_k u23 (by decide) (h2)))
      have := congrArg Int32.toInt (show FI22 121 73 = x9 from (up_k u23 (by decide) (h10)))
      have := congrArg Int32.toInt (show FI22 121 90 = x12 from (up_k u23 (by decide) (h13)))
      have := congrArg Int32.toInt (show FI22 121 68 = x1 from (up_k u23 (by decide) (h2)))
      have := congrArg Int32.toInt (show FI22 121 73 = x9 from (up_k u23 (by decide) (h10)))
      have := congrArg Int32.toInt (show FI22 121 90 = x12 from (up_k u23 (by decide) (h13)))
      have := congrArg Int32.toInt (show FI22 121 68 = x1 from (up_k u23 (by decide) (h2)))
      obtain ⟨r410, rfl, FI411, rfl, hI412, f413, t414, t415, t416, t417, t418, t419, t420, t421, u422, u423, rl424⟩ := p409
      have rl425 : rl_e (FI411 149) (FI411 121 67) := by rw [show FI411 149 = FI22 149 from gf_row f413 (c149 hS) (s149 hS) rfl rfl, show FI411 121 67 = FI22 121 67 from gf_at f413 (c121 hS) (s121 hS) rfl rfl]; exact rl24
      have rl426 : rl_t (FI411 149) (FL 150) := by rw [show FI411 149 = FI22 149 from gf_row f413 (c149 hS) (s149 hS) rfl rfl]; exact rl25
      obtain ⟨x427, h428⟩ : ∃ y, FI411 121 68 = y := ⟨_, rfl⟩
      have h428l := congrArg Int32.toInt h428
      have b429 := gI_121_68 hI412; rw [h428] at b429
      have := congrArg Int32.toInt (show FI411 121 67 = x4 from (gf_at f413 (c121 hS) (s121 hS) rfl ((up_k u23 (by decide) (h5)))))
      obtain ⟨x430, h431⟩ : ∃ y, FI411 121 73 = y := ⟨_, rfl⟩
      have h431l := congrArg Int32.toInt h431
      have b432 := gI_121_73 hI412; rw [h431] at b432
      obtain ⟨x433, h434⟩ : ∃ y, FI411 121 90 = y := ⟨_, rfl⟩
      have h434l := congrArg Int32.toInt h434
      have b435 := gI_121_90 hI412; rw [h434] at b435
      show hw base _ _ _ _ _ [.int (r410)] _ _
      refine xw_iret (aX12_operator 31 rfl) rfl (i_nz rfl (by omega) (by omega)) ?_
      obtain ⟨x436, h437⟩ : ∃ y, FI411 121 91 = y := ⟨_, rfl⟩
      have h437l := congrArg Int32.toInt h437
      have b438 := gI_121_91 hI412; rw [h437] at b438
      exact ⟨r410, rfl, FI411, rfl, hI412, (gf_tr ex_rf (gf_f gf_rf u23 (by decide)) f413 rfl rfl rfl), (by have := congrArg Int32.toInt (show FI411 121 67 = x4 from (gf_at f413 (c121 hS) (s121 hS) rfl ((up_k u23 (by decide) (h5))))); have := congrArg Int32.toInt (show FI411 121 68 = x427 from h428); omega), (by have := congrArg Int32.toInt (show FI411 121 68 = x427 from h428); omega), (by have := congrArg Int32.toInt (show FI411 121 68 = x427 from h428); have := congrArg Int32.toInt (show FI411 121 73 = x430 from h431); have := congrArg Int32.toInt (show FI411 121 90 = x433 from h434); omega), (by have := congrArg Int32.toInt (show FI411 121 73 = x430 from h431); omega), (by have := congrArg Int32.toInt (show FI411 121 90 = x433 from h434); omega), (by have := congrArg Int32.toInt (show FI411 121 68 = x427 from h428); omega), (by have := congrArg Int32.toInt (show FI411 121 69 = x7 from (gf_at f413 (c121 hS) (s121 hS) rfl ((up_k u23 (by decide) (h8))))); have := congrArg Int32.toInt (show FI411 121 71 = x15 from (gf_at f413 (c121 hS) (s121 hS) rfl ((up_k u23 (by decide) (h16))))); omega), (by unfold hid; have := congrArg Int32.toInt (show FI411 121 69 = x7 from (gf_at f413 (c121 hS) (s121 hS) rfl ((up_k u23 (by decide) (h8))))); have := congrArg Int32.toInt (show FI411 121 90 = x433 from h434); omega), (by omega), (by have := congrArg Int32.toInt (show FI411 121 68 = x427 from h428); have := congrArg Int32.toInt (show FI411 121 69 = x7 from (gf_at f413 (c121 hS) (s121 hS) rfl ((up_k u23 (by decide) (h8))))); have := congrArg Int32.toInt (show FI411 121 91 = x436 from h437); have hz : ((r410)).toInt = (r410).toInt := rfl; have hh := u422; rw [show FI22 149 = FI 149 from up_row u23 (by decide) rfl, show FI22 166 = FI 166 from up_row u23 (by decide) rfl, show FI22 121 68 = FI 121 68 from up_k u23 (by decide) rfl, show FI22 121 90 = FI 121 90 from up_k u23 (by decide) rfl] at hh; exact fun _ => ⟨fun _ => hh, fun h => absurd h (by omega)⟩), (by have hh := u423; rw [show FI22 166 = FI 166 from up_row u23 (by decide) rfl, show FI22 121 90 = FI 121 90 from up_k u23 (by decide) rfl, show FI22 121 71 = FI 121 71 from up_k u23 (by decide) rfl] at hh; exact fun _ => hh), (show rl_pm (FI411 121 90) (FI411 121 73) (FI411 166) (FI411 167) (FI411 168) from rl424)⟩
  · have hb : au_bn (kf (FI22 149) (FI22 121 68).toInt.toNat) (wf (FL 150) (FI22 121 68).toInt.toNat) = 7 := by rw [hk1, hw1]; exact au_bn_7.mpr (hid_e t38 (by omega))
    have hlt : (x1).toInt < (x4).toInt - 1 := by have hM := hid_e t38 (by omega); clear hw1; have := hnn (by omega); omega
    refine hw_aloadn (aX12_operator 19 rfl) rfl ?_
    refine xw_iloadn (aX12_operator 20 rfl) rfl ?_
    refine hw_bp (v := (7 : Int32)) (aX12_operator 21 rfl) (by decide) ?_
    refine hw_callV (Bs := [.int (r35), .int ((7 : Int32))]) (rest := []) (aX12_operator 22 rfl) wc_RX12_610 (by decide) rfl wi_yX12_binary wv_yX12_binary (c121 hS) (s121 hS) rfl rfl rfl (Nat.le_of_ble_eq_true rfl) (Nat.le_of_ble_eq_true rfl) (n_binary (d := d + 2) hS hF hI27 (r35) ((7 : Int32)) (by have := congrArg Int32.toInt (show FI22 121 73 = x9 from (up_k u23 (by decide) (h10))); have := congrArg Int32.toInt (show FI22 121 90 = x12 from (up_k u23 (by decide) (h13))); omega) (by have := congrArg Int32.toInt (show FI22 121 90 = x12 from (up_k u23 (by decide) (h13))); omega) (by have := congrArg Int32.toInt (show FI22 121 68 = x1 from (up_k u23 (by decide) (h2))); have := congrArg Int32.toInt (show FI22 121 67 = x4 from (up_k u23 (by decide) (h5))); omega) (by have := ((by decide : (7 : Int32).toInt = 7) : ((7 : Int32)).toInt = 7); have := ((by decide : (7 : Int32).toInt = 7) : ((7 : Int32)).toInt = 7); omega) (show rl_pm (FI22 121 90) (FI22 121 73) (FI22 166) (FI22 167) (FI22 168) from rl26)) (fun v439 sv440 p441 => ?_)
    have := congrArg Int32.toInt (show FI22 121 90 = x12 from (up_k u23 (by decide) (h13)))
    have := congrArg Int32.toInt (show FI22 121 73 = x9 from (up_k u23 (by decide) (h10)))
    have := congrArg Int32.toInt (show FI22 121 90 = x12 from (up_k u23 (by decide) (h13)))
    have := congrArg Int32.toInt (show FI22 121 73 = x9 from (up_k u23 (by decide) (h10)))
    have := congrArg Int32.toInt (show FI22 121 68 = x1 from (up_k u23 (by decide) (h2)))
    obtain ⟨r442, rfl, FI443, rfl, hI444, f445, t446, t447, t448, t449, t450, t451, u452, rl453⟩ := p441
    have rl454 : rl_e (FI443 149) (FI443 121 67) := by rw [show FI443 149 = FI22 149 from gf_row f445 (c149 hS) (s149 hS) rfl rfl, show FI443 121 67 = FI22 121 67 from gf_at f445 (c121 hS) (s121 hS) rfl rfl]; exact rl24
    have rl455 : rl_t (FI443 149) (FL 150) := by rw [show FI443 149 = FI22 149 from gf_row f445 (c149 hS) (s149 hS) rfl rfl]; exact rl25
    obtain ⟨x456, h457⟩ : ∃ y, FI443 121 90 = y := ⟨_, rfl⟩
    have h457l := congrArg Int32.toInt h457
    have b458 := gI_121_90 hI444; rw [h457] at b458
    obtain ⟨x459, h460⟩ : ∃ y, FI443 121 73 = y := ⟨_, rfl⟩
    have h460l := congrArg Int32.toInt h460
    have b461 := gI_121_73 hI444; rw [h460] at b461
    obtain ⟨x462, h463⟩ : ∃ y, FI443 121 68 = y := ⟨_, rfl⟩
    have h463l := congrArg Int32.toInt h463
    have b464 := gI_121_68 hI444; rw [h463] at b464
    show hw base _ _ _ _ _ [.int (r442)] _ _
    refine xw_iret (aX12_operator 23 rfl) rfl (i_nz rfl (by omega) (by omega)) ?_
    exact ⟨r442, rfl, FI443, rfl, hI444, (gf_tr ex_rf (gf_f gf_rf u23 (by decide)) f445 rfl rfl rfl), (by have := congrArg Int32.toInt (show FI443 121 67 = x4 from (gf_at f445 (c121 hS) (s121 hS) rfl ((up_k u23 (by decide) (h5))))); have := congrArg Int32.toInt (show FI443 121 68 = x462 from h463); omega), (by have := congrArg Int32.toInt (show FI443 121 68 = x462 from h463); omega), (by have := congrArg Int32.toInt (show FI443 121 68 = x462 from h463); have := congrArg Int32.toInt (show FI443 121 73 = x459 from h460); have := congrArg Int32.toInt (show FI443 121 90 = x456 from h457); omega), (by have := congrArg Int32.toInt (show FI443 121 73 = x459 from h460); omega), (by have := congrArg Int32.toInt (show FI443 121 90 = x456 from h457); omega), (by have := congrArg Int32.toInt (show FI443 121 68 = x462 from h463); omega), (by have := congrArg Int32.toInt (show FI443 121 69 = x7 from (gf_at f445 (c121 hS) (s121 hS) rfl ((up_k u23 (by decide) (h8))))); have := congrArg Int32.toInt (show FI443 121 71 = x15 from (gf_at f445 (c121 hS) (s121 hS) rfl ((up_k u23 (by decide) (h16))))); omega), (by unfold hid; have := congrArg Int32.toInt (show FI443 121 69 = x7 from (gf_at f445 (c121 hS) (s121 hS) rfl ((up_k u23 (by decide) (h8))))); have := congrArg Int32.toInt (show FI443 121 90 = x456 from h457); omega), (by omega), (by have := congrArg Int32.toInt (show FI443 121 68 = x462 from h463); have := congrArg Int32.toInt (show FI443 121 69 = x7 from (gf_at f445 (c121 hS) (s121 hS) rfl ((up_k u23 (by decide) (h8))))); have := congrArg Int32.toInt (show FI443 121 91 = (0 : Int32) from (gf_at f445 (c121 hS) (s121 hS) rfl (up_eq u23))); have := ((by decide : (0 : Int32).toInt = 0) : ((0 : Int32)).toInt = 0); have hz : ((r442)).toInt = (r442).toInt := rfl; have hm : (sk (FI443 166) (FI443 121 90).toInt.toNat) = 7 :: au_red 7 (sk (FI 166) (FI 121 90).toInt.toNat) := (by have hh := u452; rw [show ((7 : Int32)).toInt = (7 : Int) from by decide] at hh; rw [show FI22 166 = FI 166 from up_row u23 (by decide) rfl, show FI22 121 90 = FI 121 90 from up_k u23 (by decide) rfl] at hh; exact hh); have hbE := hb; rw [show FI22 149 = FI 149 from up_row u23 (by decide) rfl, show FI22 121 68 = FI 121 68 from up_k u23 (by decide) rfl] at hbE; exact fun _ => ⟨fun _ => Or.inl ⟨by omega, Or.inr (Or.inr (Or.inr (Or.inr (Or.inl ⟨rfl, by rw [hbE]; decide, by omega, rfl, by rw [hbE]; exact hm⟩))))⟩, fun h => absurd h (by omega)⟩), (by have := congrArg Int32.toInt (show FI443 121 69 = x7 from (gf_at f445 (c121 hS) (s121 hS) rfl ((up_k u23 (by decide) (h8))))); have := congrArg Int32.toInt (show FI443 121 71 = x15 from (gf_at f445 (c121 hS) (s121 hS) rfl ((up_k u23 (by decide) (h16))))); have hm : (sk (FI443 166) (FI443 121 90).toInt.toNat) = 7 :: au_red 7 (sk (FI 166) (FI 121 90).toInt.toNat) := (by have hh := u452; rw [show ((7 : Int32)).toInt = (7 : Int) from by decide] at hh; rw [show FI22 166 = FI 166 from up_row u23 (by decide) rfl, show FI22 121 90 = FI 121 90 from up_k u23 (by decide) rfl] at hh; exact hh); rw [hm]; intro _; simp only [au_op]; rw [if_pos (by decide), au_op_red (by decide) gg0 gg1]; omega), (show rl_pm (FI443 121 90) (FI443 121 73) (FI443 166) (FI443 167) (FI443 168) from rl453)⟩
