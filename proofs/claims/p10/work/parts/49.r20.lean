def nX12_location : Nat := 0xb154040302b42a9300b42a0d00a42c0111641bed01b42ae701b6042a0800a72002b62a0a00991d02b62a1600a7ea01b56404ea01b42a2a0f02b67d102a54ffa7de01b56004de01b42a2a61ff991d3ee401b62c102a3d60041cde01b56004de01b42a2a2502b62fde01b42a6c00b42a2af001b69300112ab1040099db01b42ae701b6062a08009e942302142fde01b42a6c00b42a18009adb01b42ae701b6042a08009f062ede01b42a6900b42a15009adb01b42a0f02b62f102a2002b62ab1040099db01b42ae701b606102a0900a008101c0f00a7e701b6042a0b009a1d02b62aa7009adb01b42aae00991d3e043d031a02b62acd0099e401b67b102a3ced01b42a
theorem bX12_location : cX12_location.data.toList.map UInt8.toNat = x_un nX12_location 258 := by decide +kernel
def iX12_location : List (Nat × Jvm.ClassFile.Instr × Nat) := [(0, .aload_n 0, 1), (1, .getfield 493, 3), (4, .istore_n 1, 1), (5, .aload_n 0, 1), (6, .bipush 123, 2), (8, .invokevirtual 484, 3), (11, .ifCond .eq 205, 3), (14, .aload_n 0, 1), (15, .invokevirtual 538, 3), (18, .iconst 0, 1), (19, .istore_n 2, 1), (20, .iconst 1, 1), (21, .istore_n 3, 1), (22, .iload_n 3, 1), (23, .ifCond .eq 174, 3), (26, .aload_n 0, 1), (27, .getfield 475, 3), (30, .ifCond .ne 167, 3), (33, .aload_n 0, 1), (34, .invokevirtual 541, 3), (37, .ifCond .ne 11, 3), (40, .aload_n 0, 1), (41, .iconst 1, 1), (42, .invokevirtual 487, 3), (45, .goto 15, 3), (48, .iload_n 2, 1), (49, .bipush 8, 2), (51, .if_icmp .ne 9, 3), (54, .aload_n 0, 1), (55, .bipush 6, 2), (57, .invokevirtual 487, 3), (60, .aload_n 0, 1), (61, .getfield 475, 3), (64, .ifCond .eq 4, 3), (67, .return_, 1), (68, .aload_n 0, 1), (69, .invokevirtual 544, 3), (72, .aload_n 0, 1), (73, .bipush 47, 2), (75, .invokevirtual 527, 3), (78, .aload_n 0, 1), (79, .getfield 475, 3), (82, .ifCond .ne 21, 3), (85, .aload_n 0, 1), (86, .getfield 105, 3), (89, .aload_n 0, 1), (90, .getfield 478, 3), (93, .iaload, 1), (94, .iconst 3, 1), (95, .if_icmp .eq 8, 3), (98, .aload_n 0, 1), (99, .iconst 1, 1), (100, .invokevirtual 487, 3), (103, .aload_n 0, 1), (104, .getfield 475, 3), (107, .ifCond .ne 24, 3), (110, .aload_n 0, 1), (111, .getfield 108, 3), (114, .aload_n 0, 1), (115, .getfield 478, 3), (118, .laload, 1), (119, .ldc2_w 547, 3), (122, .lcmp, 1), (123, .ifCond .le 8, 3), (126, .aload_n 0, 1), (127, .iconst 3, 1), (128, .invokevirtual 487, 3), (131, .aload_n 0, 1), (132, .getfield 475, 3), (135, .ifCond .eq 4, 3), (138, .return_, 1), (139, .aload_n 0, 1), (140, .sipush 147, 3), (143, .invokevirtual 496, 3), (146, .aload_n 0, 1), (147, .aload_n 0, 1), (148, .getfield 108, 3), (151, .aload_n 0, 1), (152, .getfield 478, 3), (155, .laload, 1), (156, .invokevirtual 549, 3), (159, .aload_n 0, 1), (160, .aload_n 0, 1), (161, .getfield 478, 3), (164, .iconst 1, 1), (165, .iadd, 1), (166, .putfield 478, 3), (169, .iload_n 2, 1), (170, .iconst 1, 1), (171, .iadd, 1), (172, .istore_n 2, 1), (173, .aload_n 0, 1), (174, .bipush 44, 2), (176, .invokevirtual 484, 3), (179, .istore_n 3, 1), (180, .iload_n 3, 1), (181, .ifCond .eq (-159), 3), (184, .aload_n 0, 1), (185, .aload_n 0, 1), (186, .getfield 478, 3), (189, .iconst 1, 1), (190, .iadd, 1), (191, .putfield 478, 3), (194, .goto (-172), 3), (197, .aload_n 0, 1), (198, .bipush 125, 2), (200, .invokevirtual 527, 3), (203, .aload_n 0, 1), (204, .aload_n 0, 1), (205, .getfield 490, 3), (208, .iconst 1, 1), (209, .isub, 1), (210, .putfield 490, 3), (213, .goto 22, 3), (216, .aload_n 0, 1), (217, .invokevirtual 541, 3), (220, .ifCond .eq 10, 3), (223, .aload_n 0, 1), (224, .invokevirtual 544, 3), (227, .goto 8, 3), (230, .aload_n 0, 1), (231, .iconst 1, 1), (232, .invokevirtual 487, 3), (235, .aload_n 0, 1), (236, .getfield 493, 3), (239, .iload_n 1, 1), (240, .isub, 1), (241, .sipush 300, 3), (244, .if_icmp .le 13, 3), (247, .aload_n 0, 1), (248, .getfield 147, 3), (251, .aload_n 0, 1), (252, .getfield 515, 3), (255, .iconst 1, 1), (256, .bastore, 1), (257, .return_, 1)]
theorem dX12_location : x_il nX12_location 258 iX12_location = true := by decide +kernel
theorem aX12_location (k : Nat) {pc : Nat} {i : Jvm.ClassFile.Instr} {len : Nat} (hk : iX12_location[k]? = some (pc, i, len)) : x_at xMM 229 pc i len yX12_location 4 none := ⟨cX12_location, rfl, x_il_ok bX12_location dX12_location k hk⟩
set_option maxHeartbeats 4000000 in
set_option maxRecDepth 100000 in
theorem n_location {base d n sl : Nat} {SH : Nat → Nat × Nat} {FI : Nat → Nat → Int32} {FL : Nat → Nat → Int64} {FR : Nat → Nat → Option Nat} (hS : h_S n SH) (hF : h_FR FR) (hI : g_I FI) (g0 : (FI 121 68).toInt ≤ (FI 121 67).toInt - 1) (g1 : (FI 121 69).toInt = 0) (g2 : (FI 121 73).toInt ≤ 20 * (FI 121 68).toInt + 100) (g3 : (FI 121 71).toInt = 0) (g4 : (FI 121 78).toInt ≤ 11) (rel_tend : rl_e (FI 149) (FI 121 67)) (rel_tok : rl_t (FI 149) (FL 150)) (rel_pm : rl_pm (FI 121 90) (FI 121 73) (FI 166) (FI 167) (FI 168)) : hw base (d + 8) none 229 0 [(0, .ref (base + 121))] [] (n, sl, SH, FI, FL, FR) (h_V (fun s => ∃ FI', s = (n, sl, SH, FI', FL, FR) ∧ g_I FI' ∧ g_fr n SH [(121, 68), (121, 69), (121, 70), (121, 71), (121, 73), (121, 90), (121, 91)] [154, 163, 164, 165, 166, 167, 168] [] FI FI' ∧ ((FI' 121 68).toInt ≤ (FI' 121 67).toInt - 1) ∧ ((FI 121 68).toInt ≤ (FI' 121 68).toInt) ∧ ((FI' 121 73).toInt ≤ (FI 121 73).toInt + 20 * ((FI' 121 68).toInt - (FI 121 68).toInt)) ∧ ((FI 121 73).toInt ≤ (FI' 121 73).toInt) ∧ (-900 ≤ (FI' 121 71).toInt ∧ (FI' 121 71).toInt ≤ 100) ∧ ((FI' 121 69).toInt = 0 → gr_loc (kf (FI 149)) (wf (FL 150)) (FI 121 68).toInt.toNat (FI' 121 68).toInt.toNat) ∧ ((FI' 121 69).toInt = 0 → (FI' 121 71).toInt = (FI 121 71).toInt) ∧ (rl_pm (FI' 121 90) (FI' 121 73) (FI' 166) (FI' 167) (FI' 168)))) := by
  obtain ⟨x1, h2⟩ : ∃ y, FI 121 68 = y := ⟨_, rfl⟩
  have h2l := congrArg Int32.toInt h2
  have b3 := gI_121_68 hI; rw [h2] at b3
  obtain ⟨x4, h5⟩ : ∃ y, FI 121 67 = y := ⟨_, rfl⟩
  have h5l := congrArg Int32.toInt h5
  have b6 := gI_121_67 hI; rw [h5] at b6
  obtain ⟨x7, h8⟩ : ∃ y, FI 121 69 = y := ⟨_, rfl⟩
  have h8l := congrArg Int32.toInt h8
  have := i_rng x7
  obtain ⟨x9, h10⟩ : ∃ y, FI 121 73 = y := ⟨_, rfl⟩
  have h10l := congrArg Int32.toInt h10
  have b11 := gI_121_73 hI; rw [h10] at b11
  obtain ⟨x12, h13⟩ : ∃ y, FI 121 71 = y := ⟨_, rfl⟩
  have h13l := congrArg Int32.toInt h13
  have := i_rng x12
  obtain ⟨x14, h15⟩ : ∃ y, FI 121 78 = y := ⟨_, rfl⟩
  have h15l := congrArg Int32.toInt h15
  have b16 := gI_121_78 hI; rw [h15] at b16
  have e17 : 0 ≤ (x12).toInt ∧ (x12).toInt ≤ 0 := by omega
  have e18 : 0 ≤ (x7).toInt ∧ (x7).toInt ≤ 0 := by omega
  refine hw_aloadn (aX12_location 0 rfl) rfl ?_
  refine hw_get (v := .int (x9)) (aX12_location 1 rfl) wf_RX12_493 (c121 hS) (s121 hS) (by decide) (congrArg Value.int (show FI 121 73 = x9 from h10)) ?_
  refine xw_istoren (L2 := [(1, .int (x9)), (0, .ref (base + 121))]) (aX12_location 2 rfl) (by decide) rfl ?_
  refine hw_aloadn (aX12_location 3 rfl) rfl ?_
  refine hw_bp (v := (123 : Int32)) (aX12_location 4 rfl) (by decide) ?_
  refine hw_callV (Bs := [.int ((123 : Int32))]) (rest := []) (aX12_location 5 rfl) wc_RX12_484 (by decide) rfl wi_yX12_isSign wv_yX12_isSign (c121 hS) (s121 hS) rfl rfl rfl (Nat.le_of_ble_eq_true rfl) (Nat.le_of_ble_eq_true rfl) (n_isSign (d := d + 7) hS hF hI ((123 : Int32)) (by have := congrArg Int32.toInt (show FI 121 68 = x1 from h2); have := congrArg Int32.toInt (show FI 121 67 = x4 from h5); omega) (show rl_e (FI 149) (FI 121 67) from rel_tend)) (fun v19 sv20 p21 => ?_)
  have := congrArg Int32.toInt (show FI 121 68 = x1 from h2)
  have := congrArg Int32.toInt (show FI 121 67 = x4 from h5)
  obtain ⟨r22, rfl, rfl, t24, t25, u26⟩ := p21
  show hw base _ _ _ _ _ [.int (r22)] _ _
  refine hw_ifeq (tgt := 216) (aX12_location 6 rfl) (by decide) rfl (fun cd27 => ?_) (fun cd27 => ?_)
  · clear t24
    have hncu : ¬ gr_cu (kf (FI 149)) (wf (FL 150)) (FI 121 68).toInt.toNat := fun h => absurd (u26.mpr (by rw [show ((123 : Int32)).toInt = (123 : Int) from by decide]; exact h)) (by omega)
    refine hw_aloadn (aX12_location 114 rfl) rfl ?_
    refine hw_callV (Bs := []) (rest := []) (aX12_location 115 rfl) wc_RX12_541 (by decide) rfl wi_yX12_isPlace wv_yX12_isPlace (c121 hS) (s121 hS) rfl rfl rfl (Nat.le_of_ble_eq_true rfl) (Nat.le_of_ble_eq_true rfl) (n_isPlace (d := d + 6) hS hF hI (by have := congrArg Int32.toInt (show FI 121 68 = x1 from h2); have := congrArg Int32.toInt (show FI 121 67 = x4 from h5); omega) (show rl_e (FI 149) (FI 121 67) from rel_tend)) (fun v28 sv29 p30 => ?_)
    have := congrArg Int32.toInt (show FI 121 68 = x1 from h2)
    have := congrArg Int32.toInt (show FI 121 67 = x4 from h5)
    obtain ⟨r31, rfl, rfl, t33, t34, u35⟩ := p30
    show hw base _ _ _ _ _ [.int (r31)] _ _
    refine hw_ifeq (tgt := 230) (aX12_location 116 rfl) (by decide) rfl (fun cd36 => ?_) (fun cd36 => ?_)
    · clear t33
      refine hw_aloadn (aX12_location 120 rfl) rfl ?_
      refine hw_ic (v := (1 : Int32)) (aX12_location 121 rfl) (by decide) ?_
      refine hw_callV (Bs := [.int ((1 : Int32))]) (rest := []) (aX12_location 122 rfl) wc_RX12_487 (by decide) rfl wi_yX12_fail wv_yX12_fail (c121 hS) (s121 hS) rfl rfl rfl (Nat.le_of_ble_eq_true rfl) (Nat.le_of_ble_eq_true rfl) (n_fail (d := d + 7) hS hF hI ((1 : Int32)) (by have := ((by decide : (1 : Int32).toInt = 1) : ((1 : Int32)).toInt = 1); omega)) (fun v37 sv38 p39 => ?_)
      obtain ⟨rfl, FI41, rfl, hI42, f43, t44⟩ := p39
      have rl45 : rl_e (FI41 149) (FI41 121 67) := by rw [show FI41 149 = FI 149 from gf_row f43 (c149 hS) (s149 hS) rfl rfl, show FI41 121 67 = FI 121 67 from gf_at f43 (c121 hS) (s121 hS) rfl rfl]; exact rel_tend
      have rl46 : rl_t (FI41 149) (FL 150) := by rw [show FI41 149 = FI 149 from gf_row f43 (c149 hS) (s149 hS) rfl rfl]; exact rel_tok
      have rl47 : rl_pm (FI41 121 90) (FI41 121 73) (FI41 166) (FI41 167) (FI41 168) := by rw [show FI41 166 = FI 166 from gf_row f43 (c166 hS) (s166 hS) rfl rfl, show FI41 167 = FI 167 from gf_row f43 (c167 hS) (s167 hS) rfl rfl, show FI41 168 = FI 168 from gf_row f43 (c168 hS) (s168 hS) rfl rfl, show FI41 121 90 = FI 121 90 from gf_at f43 (c121 hS) (s121 hS) rfl rfl, show FI41 121 73 = FI 121 73 from gf_at f43 (c121 hS) (s121 hS) rfl rfl]; exact rel_pm
      obtain ⟨x48, h49⟩ : ∃ y, FI41 121 69 = y := ⟨_, rfl⟩
      have h49l := congrArg Int32.toInt h49
      have := i_rng x48
      show hw base _ _ _ _ _ [] _ _
      refine hw_aloadn (aX12_location 123 rfl) rfl ?_
      refine hw_get (v := .int (x9)) (aX12_location 124 rfl) wf_RX12_493 (c121 hS) (s121 hS) (by decide) (congrArg Value.int (show FI41 121 73 = x9 from (gf_at f43 (c121 hS) (s121 hS) rfl (h10)))) ?_
      refine xw_iloadn (aX12_location 125 rfl) rfl ?_
      refine xw_isub (aX12_location 126 rfl) ?_
      refine hw_tie (A := ((x9).toInt) - ((x9).toInt)) (i_sub rfl rfl (by omega) (by omega)) (fun x50 e51 => ?_)
      refine hw_sp (v := (300 : Int32)) (aX12_location 127 rfl) (by decide) ?_
      refine hw_icle (tgt := 257) (aX12_location 128 rfl) (by decide) e51 (by decide : (300 : Int32).toInt = 300) (fun cd52 => ?_) (fun cd52 => ?_)
      · refine xw_vret (aX12_location 135 rfl) rfl ?_
        exact ⟨rfl, FI41, rfl, hI42, (gf_tr ex_rf gf_rf f43 rfl rfl rfl), (by have := congrArg Int32.toInt (show FI41 121 67 = x4 from (gf_at f43 (c121 hS) (s121 hS) rfl (h5))); have := congrArg Int32.toInt (show FI41 121 68 = x1 from (gf_at f43 (c121 hS) (s121 hS) rfl (h2))); omega), (by have := congrArg Int32.toInt (show FI41 121 68 = x1 from (gf_at f43 (c121 hS) (s121 hS) rfl (h2))); omega), (by have := congrArg Int32.toInt (show FI41 121 68 = x1 from (gf_at f43 (c121 hS) (s121 hS) rfl (h2))); have := congrArg Int32.toInt (show FI41 121 73 = x9 from (gf_at f43 (c121 hS) (s121 hS) rfl (h10))); omega), (by have := congrArg Int32.toInt (show FI41 121 73 = x9 from (gf_at f43 (c121 hS) (s121 hS) rfl (h10))); omega), (by have := congrArg Int32.toInt (show FI41 121 71 = x12 from (gf_at f43 (c121 hS) (s121 hS) rfl (h13))); omega), (by have := congrArg Int32.toInt (show FI41 121 69 = x48 from h49); exact fun h => absurd h (by omega)), (by have := congrArg Int32.toInt (show FI41 121 69 = x48 from h49); exact fun h => absurd h (by omega)), (show rl_pm (FI41 121 90) (FI41 121 73) (FI41 166) (FI41 167) (FI41 168) from rl47)⟩
      · refine hw_aloadn (aX12_location 129 rfl) rfl ?_
        refine hw_get (v := .ref (base + 163)) (aX12_location 130 rfl) wf_RX12_147 (c121 hS) (s121 hS) (by decide) (congrArg (fun r => va_rf (h_rf base r)) (r121_84 hF)) ?_
        refine hw_aloadn (aX12_location 131 rfl) rfl ?_
        refine hw_get (v := .int (x14)) (aX12_location 132 rfl) wf_RX12_515 (c121 hS) (s121 hS) (by decide) (congrArg Value.int (show FI41 121 78 = x14 from (gf_at f43 (c121 hS) (s121 hS) rfl (h15)))) ?_
        refine hw_ic (v := (1 : Int32)) (aX12_location 133 rfl) (by decide) ?_
        refine hv_zast (w := (1 : Int32)) (k := (x14).toNatClampNeg) (aX12_location 134 rfl) (c163 hS) (s163 hS) (h_in rfl (by omega) (by omega)) rfl (by decide) (fun FI53 u54 => ?_)
        have rl58 : rl_e (FI53 149) (FI53 121 67) := by rw [show FI53 149 = FI41 149 from up_row u54 (by decide) rfl, show FI53 121 67 = FI41 121 67 from up_c u54 (by decide) rfl]; exact rl45
        have rl59 : rl_t (FI53 149) (FL 150) := by rw [show FI53 149 = FI41 149 from up_row u54 (by decide) rfl]; exact rl46
        have rl60 : rl_pm (FI53 121 90) (FI53 121 73) (FI53 166) (FI53 167) (FI53 168) := by rw [show FI53 166 = FI41 166 from up_row u54 (by decide) rfl, show FI53 167 = FI41 167 from up_row u54 (by decide) rfl, show FI53 168 = FI41 168 from up_row u54 (by decide) rfl, show FI53 121 90 = FI41 121 90 from up_c u54 (by decide) rfl, show FI53 121 73 = FI41 121 73 from up_c u54 (by decide) rfl]; exact rl47
        have hI61 : g_I FI53 := gU_163 hI42 u54 (by have := ((by decide : (1 : Int32).toInt = 1) : ((1 : Int32)).toInt = 1); omega) (by have := ((by decide : (1 : Int32).toInt = 1) : ((1 : Int32)).toInt = 1); omega)
        refine xw_vret (aX12_location 135 rfl) rfl ?_
        exact ⟨rfl, FI53, rfl, hI61, (gf_a (gf_tr ex_rf gf_rf f43 rfl rfl rfl) u54 (by decide)), (by have := congrArg Int32.toInt (show FI53 121 67 = x4 from (up_c u54 (by decide) ((gf_at f43 (c121 hS) (s121 hS) rfl (h5))))); have := congrArg Int32.toInt (show FI53 121 68 = x1 from (up_c u54 (by decide) ((gf_at f43 (c121 hS) (s121 hS) rfl (h2))))); omega), (by have := congrArg Int32.toInt (show FI53 121 68 = x1 from (up_c u54 (by decide) ((gf_at f43 (c121 hS) (s121 hS) rfl (h2))))); omega), (by have := congrArg Int32.toInt (show FI53 121 68 = x1 from (up_c u54 (by decide) ((gf_at f43 (c121 hS) (s121 hS) rfl (h2))))); have := congrArg Int32.toInt (show FI53 121 73 = x9 from (up_c u54 (by decide) ((gf_at f43 (c121 hS) (s121 hS) rfl (h10))))); omega), (by have := congrArg Int32.toInt (show FI53 121 73 = x9 from (up_c u54 (by decide) ((gf_at f43 (c121 hS) (s121 hS) rfl (h10))))); omega), (by have := congrArg Int32.toInt (show FI53 121 71 = x12 from (up_c u54 (by decide) ((gf_at f43 (c121 hS) (s121 hS) rfl (h13))))); omega), (by have := congrArg Int32.toInt (show FI53 121 69 = x48 from (up_c u54 (by decide) (h49))); exact fun h => absurd h (by omega)), (by have := congrArg Int32.toInt (show FI53 121 69 = x48 from (up_c u54 (by decide) (h49))); exact fun h => absurd h (by omega)), (show rl_pm (FI53 121 90) (FI53 121 73) (FI53 166) (FI53 167) (FI53 168) from rl60)⟩
    · replace t33 := t33 (by omega)
      have hisp := u35.mp (by omega)
      refine hw_aloadn (aX12_location 117 rfl) rfl ?_
      have := congrArg Int32.toInt (show FI 121 68 = x1 from h2)
      have := congrArg Int32.toInt (show FI 121 69 = x7 from h8)
      have := congrArg Int32.toInt (show FI 121 71 = x12 from h13)
      refine hw_callV (Bs := []) (rest := []) (aX12_location 118 rfl) wc_RX12_544 (by decide) rfl wi_yX12_place wv_yX12_place (c121 hS) (s121 hS) rfl rfl rfl (Nat.le_of_ble_eq_true rfl) (Nat.le_of_ble_eq_true rfl) (n_place (d := d) hS hF hI (by have := congrArg Int32.toInt (show FI 121 68 = x1 from h2); have := congrArg Int32.toInt (show FI 121 67 = x4 from h5); omega) (by have := congrArg Int32.toInt (show FI 121 69 = x7 from h8); omega) (by have := congrArg Int32.toInt (show FI 121 73 = x9 from h10); have := congrArg Int32.toInt (show FI 121 68 = x1 from h2); omega) (by have := congrArg Int32.toInt (show FI 121 71 = x12 from h13); have := congrArg Int32.toInt (show FI 121 71 = x12 from h13); omega) (hisp) (show rl_e (FI 149) (FI 121 67) from rel_tend) (show rl_t (FI 149) (FL 150) from rel_tok) (show rl_pm (FI 121 90) (FI 121 73) (FI 166) (FI 167) (FI 168) from rel_pm)) (fun v62 sv63 p64 => ?_)
      have := congrArg Int32.toInt (show FI 121 68 = x1 from h2)
      have := congrArg Int32.toInt (show FI 121 73 = x9 from h10)
      have := congrArg Int32.toInt (show FI 121 68 = x1 from h2)
      have := congrArg Int32.toInt (show FI 121 73 = x9 from h10)
      obtain ⟨rfl, FI66, rfl, hI67, f68, t69, t70, t71, t72, t73, u74, u75, rl76⟩ := p64
      have rl77 : rl_e (FI66 149) (FI66 121 67) := by rw [show FI66 149 = FI 149 from gf_row f68 (c149 hS) (s149 hS) rfl rfl, show FI66 121 67 = FI 121 67 from gf_at f68 (c121 hS) (s121 hS) rfl rfl]; exact rel_tend
      have rl78 : rl_t (FI66 149) (FL 150) := by rw [show FI66 149 = FI 149 from gf_row f68 (c149 hS) (s149 hS) rfl rfl]; exact rel_tok
      obtain ⟨x79, h80⟩ : ∃ y, FI66 121 68 = y := ⟨_, rfl⟩
      have h80l := congrArg Int32.toInt h80
      have b81 := gI_121_68 hI67; rw [h80] at b81
      have := congrArg Int32.toInt (show FI66 121 67 = x4 from (gf_at f68 (c121 hS) (s121 hS) rfl (h5)))
      obtain ⟨x82, h83⟩ : ∃ y, FI66 121 73 = y := ⟨_, rfl⟩
      have h83l := congrArg Int32.toInt h83
      have b84 := gI_121_73 hI67; rw [h83] at b84
      obtain ⟨x85, h86⟩ : ∃ y, FI66 121 71 = y := ⟨_, rfl⟩
      have h86l := congrArg Int32.toInt h86
      have := i_rng x85
      show hw base _ _ _ _ _ [] _ _
      have hgp := u74; rw [show FI 149 = FI 149 from rfl] at hgp
      have ho71 := u75
      obtain ⟨x87, h88⟩ : ∃ y, FI66 121 69 = y := ⟨_, rfl⟩
      have h88l := congrArg Int32.toInt h88
      have := i_rng x87
      have := congrArg Int32.toInt (show FI66 121 69 = x87 from h88)
      have := congrArg Int32.toInt (show FI66 121 68 = x79 from h80)
      have := congrArg Int32.toInt (show FI66 121 71 = x85 from h86)
      refine xw_goto (tgt := 235) (aX12_location 119 rfl) (by decide) ?_
      refine hw_aloadn (aX12_location 123 rfl) rfl ?_
      refine hw_get (v := .int (x82)) (aX12_location 124 rfl) wf_RX12_493 (c121 hS) (s121 hS) (by decide) (congrArg Value.int (show FI66 121 73 = x82 from h83)) ?_
      refine xw_iloadn (aX12_location 125 rfl) rfl ?_
      refine xw_isub (aX12_location 126 rfl) ?_
      refine hw_tie (A := ((x82).toInt) - ((x9).toInt)) (i_sub rfl rfl (by omega) (by omega)) (fun x89 e90 => ?_)
      refine hw_sp (v := (300 : Int32)) (aX12_location 127 rfl) (by decide) ?_
      refine hw_icle (tgt := 257) (aX12_location 128 rfl) (by decide) e90 (by decide : (300 : Int32).toInt = 300) (fun cd91 => ?_) (fun cd91 => ?_)
      · refine xw_vret (aX12_location 135 rfl) rfl ?_
        exact ⟨rfl, FI66, rfl, hI67, (gf_tr ex_rf gf_rf f68 rfl rfl rfl), (by have := congrArg Int32.toInt (show FI66 121 67 = x4 from (gf_at f68 (c121 hS) (s121 hS) rfl (h5))); have := congrArg Int32.toInt (show FI66 121 68 = x79 from h80); omega), (by have := congrArg Int32.toInt (show FI66 121 68 = x79 from h80); omega), (by have := congrArg Int32.toInt (show FI66 121 68 = x79 from h80); have := congrArg Int32.toInt (show FI66 121 73 = x82 from h83); omega), (by have := congrArg Int32.toInt (show FI66 121 73 = x82 from h83); omega), (by have := congrArg Int32.toInt (show FI66 121 71 = x85 from h86); omega), (by have := congrArg Int32.toInt (show FI66 121 68 = x79 from h80); have := congrArg Int32.toInt (show FI66 121 69 = x87 from h88); intro h69; have hg := hgp (by omega); rw [show FI 121 68 = FI 121 68 from (h2).trans (h2).symm] at hg; rw [show FI66 121 68 = FI66 121 68 from (h80).trans (h80).symm]; exact Or.inl ⟨hncu, hg⟩), (by have := congrArg Int32.toInt (show FI66 121 69 = x87 from h88); have := congrArg Int32.toInt (show FI66 121 71 = x85 from h86); intro h69; have := ho71 (by omega); omega), (show rl_pm (FI66 121 90) (FI66 121 73) (FI66 166) (FI66 167) (FI66 168) from rl76)⟩
      · refine hw_aloadn (aX12_location 129 rfl) rfl ?_
        refine hw_get (v := .ref (base + 163)) (aX12_location 130 rfl) wf_RX12_147 (c121 hS) (s121 hS) (by decide) (congrArg (fun r => va_rf (h_rf base r)) (r121_84 hF)) ?_
        refine hw_aloadn (aX12_location 131 rfl) rfl ?_
        refine hw_get (v := .int (x14)) (aX12_location 132 rfl) wf_RX12_515 (c121 hS) (s121 hS) (by decide) (congrArg Value.int (show FI66 121 78 = x14 from (gf_at f68 (c121 hS) (s121 hS) rfl (h15)))) ?_
        refine hw_ic (v := (1 : Int32)) (aX12_location 133 rfl) (by decide) ?_
        refine hv_zast (w := (1 : Int32)) (k := (x14).toNatClampNeg) (aX12_location 134 rfl) (c163 hS) (s163 hS) (h_in rfl (by omega) (by omega)) rfl (by decide) (fun FI92 u93 => ?_)
        have rl97 : rl_e (FI92 149) (FI92 121 67) := by rw [show FI92 149 = FI66 149 from up_row u93 (by decide) rfl, show FI92 121 67 = FI66 121 67 from up_c u93 (by decide) rfl]; exact rl77
        have rl98 : rl_t (FI92 149) (FL 150) := by rw [show FI92 149 = FI66 149 from up_row u93 (by decide) rfl]; exact rl78
        have rl99 : rl_pm (FI92 121 90) (FI92 121 73) (FI92 166) (FI92 167) (FI92 168) := by rw [show FI92 166 = FI66 166 from up_row u93 (by decide) rfl, show FI92 167 = FI66 167 from up_row u93 (by decide) rfl, show FI92 168 = FI66 168 from up_row u93 (by decide) rfl, show FI92 121 90 = FI66 121 90 from up_c u93 (by decide) rfl, show FI92 121 73 = FI66 121 73 from up_c u93 (by decide) rfl]; exact rl76
        have hI100 : g_I FI92 := gU_163 hI67 u93 (by have := ((by decide : (1 : Int32).toInt = 1) : ((1 : Int32)).toInt = 1); omega) (by have := ((by decide : (1 : Int32).toInt = 1) : ((1 : Int32)).toInt = 1); omega)
        refine xw_vret (aX12_location 135 rfl) rfl ?_
        exact ⟨rfl, FI92, rfl, hI100, (gf_a (gf_tr ex_rf gf_rf f68 rfl rfl rfl) u93 (by decide)), (by have := congrArg Int32.toInt (show FI92 121 67 = x4 from (up_c u93 (by decide) ((gf_at f68 (c121 hS) (s121 hS) rfl (h5))))); have := congrArg Int32.toInt (show FI92 121 68 = x79 from (up_c u93 (by decide) (h80))); omega), (by have := congrArg Int32.toInt (show FI92 121 68 = x79 from (up_c u93 (by decide) (h80))); omega), (by have := congrArg Int32.toInt (show FI92 121 68 = x79 from (up_c u93 (by decide) (h80))); have := congrArg Int32.toInt (show FI92 121 73 = x82 from (up_c u93 (by decide) (h83))); omega), (by have := congrArg Int32.toInt (show FI92 121 73 = x82 from (up_c u93 (by decide) (h83))); omega), (by have := congrArg Int32.toInt (show FI92 121 71 = x85 from (up_c u93 (by decide) (h86))); omega), (by have := congrArg Int32.toInt (show FI92 121 68 = x79 from (up_c u93 (by decide) (h80))); have := congrArg Int32.toInt (show FI92 121 69 = x87 from (up_c u93 (by decide) (h88))); intro h69; have hg := hgp (by omega); rw [show FI 121 68 = FI 121 68 from (h2).trans (h2).symm] at hg; rw [show FI92 121 68 = FI66 121 68 from ((up_c u93 (by decide) (h80))).trans (h80).symm]; exact Or.inl ⟨hncu, hg⟩), (by have := congrArg Int32.toInt (show FI92 121 69 = x87 from (up_c u93 (by decide) (h88))); have := congrArg Int32.toInt (show FI92 121 71 = x85 from (up_c u93 (by decide) (h86))); intro h69; have := ho71 (by omega); omega), (show rl_pm (FI92 121 90) (FI92 121 73) (FI92 166) (FI92 167) (FI92 168) from rl99)⟩
  · replace t24 := t24 (by omega)
    have hcu := u26.mp (by omega); rw [show ((123 : Int32)).toInt = (123 : Int) from by decide] at hcu
    refine hw_aloadn (aX12_location 7 rfl) rfl ?_
    refine hw_callV (Bs := []) (rest := []) (aX12_location 8 rfl) wc_RX12_538 (by decide) rfl wi_yX12_opens wv_yX12_opens (c121 hS) (s121 hS) rfl rfl rfl (Nat.le_of_ble_eq_true rfl) (Nat.le_of_ble_eq_true rfl) (n_opens (d := d + 6) hS hF hI (by have := congrArg Int32.toInt (show FI 121 68 = x1 from h2); have := congrArg Int32.toInt (show FI 121 67 = x4 from h5); omega) (by have := congrArg Int32.toInt (show FI 121 71 = x12 from h13); have := congrArg Int32.toInt (show FI 121 71 = x12 from h13); omega)) (fun v101 sv102 p103 => ?_)
    have := congrArg Int32.toInt (show FI 121 68 = x1 from h2)
    have := congrArg Int32.toInt (show FI 121 71 = x12 from h13)
    have := congrArg Int32.toInt (show FI 121 71 = x12 from h13)
    have := congrArg Int32.toInt (show FI 121 69 = x7 from h8)
    obtain ⟨rfl, FI105, rfl, hI106, f107, t108, t109, t110⟩ := p103
    have rl111 : rl_e (FI105 149) (FI105 121 67) := by rw [show FI105 149 = FI 149 from gf_row f107 (c149 hS) (s149 hS) rfl rfl, show FI105 121 67 = FI 121 67 from gf_at f107 (c121 hS) (s121 hS) rfl rfl]; exact rel_tend
    have rl112 : rl_t (FI105 149) (FL 150) := by rw [show FI105 149 = FI 149 from gf_row f107 (c149 hS) (s149 hS) rfl rfl]; exact rel_tok
    have rl113 : rl_pm (FI105 121 90) (FI105 121 73) (FI105 166) (FI105 167) (FI105 168) := by rw [show FI105 166 = FI 166 from gf_row f107 (c166 hS) (s166 hS) rfl rfl, show FI105 167 = FI 167 from gf_row f107 (c167 hS) (s167 hS) rfl rfl, show FI105 168 = FI 168 from gf_row f107 (c168 hS) (s168 hS) rfl rfl, show FI105 121 90 = FI 121 90 from gf_at f107 (c121 hS) (s121 hS) rfl rfl, show FI105 121 73 = FI 121 73 from gf_at f107 (c121 hS) (s121 hS) rfl rfl]; exact rel_pm
    obtain ⟨x114, h115⟩ : ∃ y, FI105 121 68 = y := ⟨_, rfl⟩
    have h115l := congrArg Int32.toInt h115
    have b116 := gI_121_68 hI106; rw [h115] at b116
    obtain ⟨x117, h118⟩ : ∃ y, FI105 121 71 = y := ⟨_, rfl⟩
    have h118l := congrArg Int32.toInt h118
    have := i_rng x117
    obtain ⟨x119, h120⟩ : ∃ y, FI105 121 69 = y := ⟨_, rfl⟩
    have h120l := congrArg Int32.toInt h120
    have := i_rng x119
    show hw base _ _ _ _ _ [] _ _
    have e121 : 0 ≤ (x117).toInt ∧ (x117).toInt ≤ 100 := by omega
    refine hw_ic (v := (0 : Int32)) (aX12_location 9 rfl) (by decide) ?_
    refine xw_istoren (L2 := [(2, .int ((0 : Int32))), (1, .int (x9)), (0, .ref (base + 121))]) (aX12_location 10 rfl) (by decide) rfl ?_
    refine hw_ic (v := (1 : Int32)) (aX12_location 11 rfl) (by decide) ?_
    refine xw_istoren (L2 := [(3, .int ((1 : Int32))), (2, .int ((0 : Int32))), (1, .int (x9)), (0, .ref (base + 121))]) (aX12_location 12 rfl) (by decide) rfl ?_
    refine xw_iloadn (aX12_location 13 rfl) rfl ?_
    refine hw_ifeq (tgt := 197) (aX12_location 14 rfl) (by decide) (by decide : (1 : Int32).toInt = 1) (fun cd122 => ?_) (fun cd122 => ?_)
    · omega
    · refine hw_aloadn (aX12_location 15 rfl) rfl ?_
      refine hw_get (v := .int (x119)) (aX12_location 16 rfl) wf_RX12_475 (c121 hS) (s121 hS) (by decide) (congrArg Value.int (show FI105 121 69 = x119 from h120)) ?_
      refine hw_ifne (tgt := 197) (aX12_location 17 rfl) (by decide) rfl (fun cd123 => ?_) (fun cd123 => ?_)
      · refine hw_aloadn (aX12_location 104 rfl) rfl ?_
        refine hw_bp (v := (125 : Int32)) (aX12_location 105 rfl) (by decide) ?_
        refine hw_callV (Bs := [.int ((125 : Int32))]) (rest := []) (aX12_location 106 rfl) wc_RX12_527 (by decide) rfl wi_yX12_need wv_yX12_need (c121 hS) (s121 hS) rfl rfl rfl (Nat.le_of_ble_eq_true rfl) (Nat.le_of_ble_eq_true rfl) (n_need (d := d + 6) hS hF hI106 ((125 : Int32)) (by have := congrArg Int32.toInt (show FI105 121 68 = x114 from h115); have := congrArg Int32.toInt (show FI105 121 67 = x4 from (gf_at f107 (c121 hS) (s121 hS) rfl (h5))); omega) (show rl_e (FI105 149) (FI105 121 67) from rl111)) (fun v124 sv125 p126 => ?_)
        have := congrArg Int32.toInt (show FI105 121 68 = x114 from h115)
        have := congrArg Int32.toInt (show FI105 121 69 = x119 from h120)
        have := congrArg Int32.toInt (show FI105 121 68 = x114 from h115)
        have := congrArg Int32.toInt (show FI105 121 68 = x114 from h115)
        obtain ⟨rfl, FI128, rfl, hI129, f130, t131, t132, t133⟩ := p126
        have rl134 : rl_e (FI128 149) (FI128 121 67) := by rw [show FI128 149 = FI105 149 from gf_row f130 (c149 hS) (s149 hS) rfl rfl, show FI128 121 67 = FI105 121 67 from gf_at f130 (c121 hS) (s121 hS) rfl rfl]; exact rl111
        have rl135 : rl_t (FI128 149) (FL 150) := by rw [show FI128 149 = FI105 149 from gf_row f130 (c149 hS) (s149 hS) rfl rfl]; exact rl112
        have rl136 : rl_pm (FI128 121 90) (FI128 121 73) (FI128 166) (FI128 167) (FI128 168) := by rw [show FI128 166 = FI105 166 from gf_row f130 (c166 hS) (s166 hS) rfl rfl, show FI128 167 = FI105 167 from gf_row f130 (c167 hS) (s167 hS) rfl rfl, show FI128 168 = FI105 168 from gf_row f130 (c168 hS) (s168 hS) rfl rfl, show FI128 121 90 = FI105 121 90 from gf_at f130 (c121 hS) (s121 hS) rfl rfl, show FI128 121 73 = FI105 121 73 from gf_at f130 (c121 hS) (s121 hS) rfl rfl]; exact rl113
        obtain ⟨x137, h138⟩ : ∃ y, FI128 121 68 = y := ⟨_, rfl⟩
        have h138l := congrArg Int32.toInt h138
        have b139 := gI_121_68 hI129; rw [h138] at b139
        have := congrArg Int32.toInt (show FI128 121 67 = x4 from (gf_at f130 (c121 hS) (s121 hS) rfl ((gf_at f107 (c121 hS) (s121 hS) rfl (h5)))))
        obtain ⟨x140, h141⟩ : ∃ y, FI128 121 69 = y := ⟨_, rfl⟩
        have h141l := congrArg Int32.toInt h141
        have := i_rng x140
        show hw base _ _ _ _ _ [] _ _
        refine hw_aloadn (aX12_location 107 rfl) rfl ?_
        refine hw_aloadn (aX12_location 108 rfl) rfl ?_
        refine hw_get (v := .int (x117)) (aX12_location 109 rfl) wf_RX12_490 (c121 hS) (s121 hS) (by decide) (congrArg Value.int (show FI128 121 71 = x117 from (gf_at f130 (c121 hS) (s121 hS) rfl (h118)))) ?_
        refine hw_ic (v := (1 : Int32)) (aX12_location 110 rfl) (by decide) ?_
        refine xw_isub (aX12_location 111 rfl) ?_
        refine hw_tie (A := ((x117).toInt) - (1)) (i_sub rfl (by decide : (1 : Int32).toInt = 1) (by omega) (by omega)) (fun x142 e143 => ?_)
        refine hv_puti (aX12_location 112 rfl) wf_RX12_490 (c121 hS) (s121 hS) (by decide) rfl rfl (fun FI144 u145 => ?_)
        have rl146 : rl_e (FI144 149) (FI144 121 67) := by rw [show FI144 149 = FI128 149 from up_row u145 (by decide) rfl, show FI144 121 67 = FI128 121 67 from up_k u145 (by decide) rfl]; exact rl134
        have rl147 : rl_t (FI144 149) (FL 150) := by rw [show FI144 149 = FI128 149 from up_row u145 (by decide) rfl]; exact rl135
        have rl148 : rl_pm (FI144 121 90) (FI144 121 73) (FI144 166) (FI144 167) (FI144 168) := by rw [show FI144 166 = FI128 166 from up_row u145 (by decide) rfl, show FI144 167 = FI128 167 from up_row u145 (by decide) rfl, show FI144 168 = FI128 168 from up_row u145 (by decide) rfl, show FI144 121 90 = FI128 121 90 from up_k u145 (by decide) rfl, show FI144 121 73 = FI128 121 73 from up_k u145 (by decide) rfl]; exact rl136
        have hI149 : g_I FI144 := gU_F hI129 u145 rfl
        refine xw_goto (tgt := 235) (aX12_location 113 rfl) (by decide) ?_
        refine hw_aloadn (aX12_location 123 rfl) rfl ?_
        refine hw_get (v := .int (x9)) (aX12_location 124 rfl) wf_RX12_493 (c121 hS) (s121 hS) (by decide) (congrArg Value.int (show FI144 121 73 = x9 from (up_k u145 (by decide) ((gf_at f130 (c121 hS) (s121 hS) rfl ((gf_at f107 (c121 hS) (s121 hS) rfl (h10)))))))) ?_
        refine xw_iloadn (aX12_location 125 rfl) rfl ?_
        refine xw_isub (aX12_location 126 rfl) ?_
        refine hw_tie (A := ((x9).toInt) - ((x9).toInt)) (i_sub rfl rfl (by omega) (by omega)) (fun x150 e151 => ?_)
        refine hw_sp (v := (300 : Int32)) (aX12_location 127 rfl) (by decide) ?_
        refine hw_icle (tgt := 257) (aX12_location 128 rfl) (by decide) e151 (by decide : (300 : Int32).toInt = 300) (fun cd152 => ?_) (fun cd152 => ?_)
        · refine xw_vret (aX12_location 135 rfl) rfl ?_
          exact ⟨rfl, FI144, rfl, hI149, (gf_f (gf_tr ex_rf (gf_tr ex_rf gf_rf f107 rfl rfl rfl) f130 rfl rfl rfl) u145 (by decide)), (by have := congrArg Int32.toInt (show FI144 121 67 = x4 from (up_k u145 (by decide) ((gf_at f130 (c121 hS) (s121 hS) rfl ((gf_at f107 (c121 hS) (s121 hS) rfl (h5))))))); have := congrArg Int32.toInt (show FI144 121 68 = x137 from (up_k u145 (by decide) (h138))); omega), (by have := congrArg Int32.toInt (show FI144 121 68 = x137 from (up_k u145 (by decide) (h138))); omega), (by have := congrArg Int32.toInt (show FI144 121 68 = x137 from (up_k u145 (by decide) (h138))); have := congrArg Int32.toInt (show FI144 121 73 = x9 from (up_k u145 (by decide) ((gf_at f130 (c121 hS) (s121 hS) rfl ((gf_at f107 (c121 hS) (s121 hS) rfl (h10))))))); omega), (by have := congrArg Int32.toInt (show FI144 121 73 = x9 from (up_k u145 (by decide) ((gf_at f130 (c121 hS) (s121 hS) rfl ((gf_at f107 (c121 hS) (s121 hS) rfl (h10))))))); omega), (by have := congrArg Int32.toInt (show FI144 121 71 = x142 from up_eq u145); have := (e143 : (x142).toInt = ((x117).toInt) - (1)); omega), (by have := congrArg Int32.toInt (show FI144 121 69 = x140 from (up_k u145 (by decide) (h141))); exact fun h => absurd h (by omega)), (by have := congrArg Int32.toInt (show FI144 121 69 = x140 from (up_k u145 (by decide) (h141))); exact fun h => absurd h (by omega)), (show rl_pm (FI144 121 90) (FI144 121 73) (FI144 166) (FI144 167) (FI144 168) from rl148)⟩
        · refine hw_aloadn (aX12_location 129 rfl) rfl ?_
          refine hw_get (v := .ref (base + 163)) (aX12_location 130 rfl) wf_RX12_147 (c121 hS) (s121 hS) (by decide) (congrArg (fun r => va_rf (h_rf base r)) (r121_84 hF)) ?_
          refine hw_aloadn (aX12_location 131 rfl) rfl ?_
          refine hw_get (v := .int (x14)) (aX12_location 132 rfl) wf_RX12_515 (c121 hS) (s121 hS) (by decide) (congrArg Value.int (show FI144 121 78 = x14 from (up_k u145 (by decide) ((gf_at f130 (c121 hS) (s121 hS) rfl ((gf_at f107 (c121 hS) (s121 hS) rfl (h15)))))))) ?_
          refine hw_ic (v := (1 : Int32)) (aX12_location 133 rfl) (by decide) ?_
          refine hv_zast (w := (1 : Int32)) (k := (x14).toNatClampNeg) (aX12_location 134 rfl) (c163 hS) (s163 hS) (h_in rfl (by omega) (by omega)) rfl (by decide) (fun FI153 u154 => ?_)
          have rl158 : rl_e (FI153 149) (FI153 121 67) := by rw [show FI153 149 = FI144 149 from up_row u154 (by decide) rfl, show FI153 121 67 = FI144 121 67 from up_c u154 (by decide) rfl]; exact rl146
          have rl159 : rl_t (FI153 149) (FL 150) := by rw [show FI153 149 = FI144 149 from up_row u154 (by decide) rfl]; exact rl147
          have rl160 : rl_pm (FI153 121 90) (FI153 121 73) (FI153 166) (FI153 167) (FI153 168) := by rw [show FI153 166 = FI144 166 from up_row u154 (by decide) rfl, show FI153 167 = FI144 167 from up_row u154 (by decide) rfl, show FI153 168 = FI144 168 from up_row u154 (by decide) rfl, show FI153 121 90 = FI144 121 90 from up_c u154 (by decide) rfl, show FI153 121 73 = FI144 121 73 from up_c u154 (by decide) rfl]; exact rl148
          have hI161 : g_I FI153 := gU_163 hI149 u154 (by have := ((by decide : (1 : Int32).toInt = 1) : ((1 : Int32)).toInt = 1); omega) (by have := ((by decide : (1 : Int32).toInt = 1) : ((1 : Int32)).toInt = 1); omega)
          refine xw_vret (aX12_location 135 rfl) rfl ?_
          exact ⟨rfl, FI153, rfl, hI161, (gf_a (gf_f (gf_tr ex_rf (gf_tr ex_rf gf_rf f107 rfl rfl rfl) f130 rfl rfl rfl) u145 (by decide)) u154 (by decide)), (by have := congrArg Int32.toInt (show FI153 121 67 = x4 from (up_c u154 (by decide) ((up_k u145 (by decide) ((gf_at f130 (c121 hS) (s121 hS) rfl ((gf_at f107 (c121 hS) (s121 hS) rfl (h5))))))))); have := congrArg Int32.toInt (show FI153 121 68 = x137 from (up_c u154 (by decide) ((up_k u145 (by decide) (h138))))); omega), (by have := congrArg Int32.toInt (show FI153 121 68 = x137 from (up_c u154 (by decide) ((up_k u145 (by decide) (h138))))); omega), (by have := congrArg Int32.toInt (show FI153 121 68 = x137 from (up_c u154 (by decide) ((up_k u145 (by decide) (h138))))); have := congrArg Int32.toInt (show FI153 121 73 = x9 from (up_c u154 (by decide) ((up_k u145 (by decide) ((gf_at f130 (c121 hS) (s121 hS) rfl ((gf_at f107 (c121 hS) (s121 hS) rfl (h10))))))))); omega), (by have := congrArg Int32.toInt (show FI153 121 73 = x9 from (up_c u154 (by decide) ((up_k u145 (by decide) ((gf_at f130 (c121 hS) (s121 hS) rfl ((gf_at f107 (c121 hS) (s121 hS) rfl (h10))))))))); omega), (by have := congrArg Int32.toInt (show FI153 121 71 = x142 from (up_c u154 (by decide) (up_eq u145))); have := (e143 : (x142).toInt = ((x117).toInt) - (1)); omega), (by have := congrArg Int32.toInt (show FI153 121 69 = x140 from (up_c u154 (by decide) ((up_k u145 (by decide) (h141))))); exact fun h => absurd h (by omega)), (by have := congrArg Int32.toInt (show FI153 121 69 = x140 from (up_c u154 (by decide) ((up_k u145 (by decide) (h141))))); exact fun h => absurd h (by omega)), (show rl_pm (FI153 121 90) (FI153 121 73) (FI153 166) (FI153 167) (FI153 168) from rl160)⟩
      · have lp179 : ∀ (m : Nat) (y2 : Int32) (FIv162 : Nat → Nat → Int32), (g_fr n SH [(121, 68), (121, 69), (121, 70), (121, 71), (121, 73), (121, 90), (121, 91)] [154, 163, 164, 165, 166, 167, 168] [] FI FIv162) → (g_I FIv162) → (FIv162 121 67 = x4) → (FIv162 121 78 = x14) → (rl_e (FIv162 149) (FIv162 121 67)) → (rl_t (FIv162 149) (FL 150)) → (rl_pm (FIv162 121 90) (FIv162 121 73) (FIv162 166) (FIv162 167) (FIv162 168)) → (0 ≤ (y2).toInt ∧ (y2).toInt ≤ 8) → (0 ≤ (FIv162 121 68).toInt ∧ (FIv162 121 68).toInt ≤ 1000) → ((FIv162 121 69).toInt = 0) → ((FIv162 121 68).toInt ≤ (x4).toInt - 1) → ((FI 121 68).toInt ≤ (FIv162 121 68).toInt) → ((FIv162 121 73).toInt ≤ (FI 121 73).toInt + 20 * ((FIv162 121 68).toInt - (FI 121 68).toInt)) → ((FI 121 73).toInt ≤ (FIv162 121 73).toInt) → ((FIv162 121 71).toInt = 1) → (gr_pf (kf (FI 149)) (wf (FL 150)) ((y2).toInt : Int).toNat ((FI 121 68).toInt.toNat + 1) ((FIv162 121 68).toInt).toNat) → (FIv162 149 = FI 149) → 1001 - (FIv162 121 68).toInt < m → hw base (d + 8) none 229 33 [(2, .int (y2)), (1, .int (x9)), (0, .ref (base + 121))] [] (n, sl, SH, FIv162, FL, FR) (h_V (fun s => ∃ FI', s = (n, sl, SH, FI', FL, FR) ∧ g_I FI' ∧ g_fr n SH [(121, 68), (121, 69), (121, 70), (121, 71), (121, 73), (121, 90), (121, 91)] [154, 163, 164, 165, 166, 167, 168] [] FI FI' ∧ ((FI' 121 68).toInt ≤ (FI' 121 67).toInt - 1) ∧ ((FI 121 68).toInt ≤ (FI' 121 68).toInt) ∧ ((FI' 121 73).toInt ≤ (FI 121 73).toInt + 20 * ((FI' 121 68).toInt - (FI 121 68).toInt)) ∧ ((FI 121 73).toInt ≤ (FI' 121 73).toInt) ∧ (-900 ≤ (FI' 121 71).toInt ∧ (FI' 121 71).toInt ≤ 100) ∧ ((FI' 121 69).toInt = 0 → gr_loc (kf (FI 149)) (wf (FL 150)) (FI 121 68).toInt.toNat (FI' 121 68).toInt.toNat) ∧ ((FI' 121 69).toInt = 0 → (FI' 121 71).toInt = (FI 121 71).toInt) ∧ (rl_pm (FI' 121 90) (FI' 121 73) (FI' 166) (FI' 167) (FI' 168)))) := by
          intro m
          induction m with
          | zero => intro y2 FIv162 fr163 hI164 kp165 kp166 rl167 rl168 rl169 iv170 iv171 iv172 iv173 iv174 iv175 iv176 iv177 xi33_0 rw178 hm; omega
          | succ m ih =>
            intro y2 FIv162 fr163 hI164 kp165 kp166 rl167 rl168 rl169 iv170 iv171 iv172 iv173 iv174 iv175 iv176 iv177 xi33_0 rw178 hm
            have rg_y2 := i_rng y2
            have := congrArg Int32.toInt kp165
            have := congrArg Int32.toInt kp166
            obtain ⟨x180, h181⟩ : ∃ y, FIv162 121 68 = y := ⟨_, rfl⟩
            have h181l := congrArg Int32.toInt h181
            have b182 := gI_121_68 hI164; rw [h181] at b182
            obtain ⟨x183, h184⟩ : ∃ y, FIv162 121 69 = y := ⟨_, rfl⟩
            have h184l := congrArg Int32.toInt h184
            have := i_rng x183
            obtain ⟨x185, h186⟩ : ∃ y, FIv162 121 73 = y := ⟨_, rfl⟩
            have h186l := congrArg Int32.toInt h186
            have b187 := gI_121_73 hI164; rw [h186] at b187
            obtain ⟨x188, h189⟩ : ∃ y, FIv162 121 71 = y := ⟨_, rfl⟩
            have h189l := congrArg Int32.toInt h189
            have := i_rng x188
            refine hw_aloadn (aX12_location 18 rfl) rfl ?_
            have e190 : 0 ≤ (x183).toInt ∧ (x183).toInt ≤ 0 := by omega
            have e191 : 1 ≤ (x188).toInt ∧ (x188).toInt ≤ 1 := by omega
            refine hw_callV (Bs := []) (rest := []) (aX12_location 19 rfl) wc_RX12_541 (by decide) rfl wi_yX12_isPlace wv_yX12_isPlace (c121 hS) (s121 hS) rfl rfl rfl (Nat.le_of_ble_eq_true rfl) (Nat.le_of_ble_eq_true rfl) (n_isPlace (d := d + 6) hS hF hI164 (by have := congrArg Int32.toInt (show FIv162 121 68 = x180 from h181); have := congrArg Int32.toInt (show FIv162 121 67 = x4 from kp165); omega) (show rl_e (FIv162 149) (FIv162 121 67) from rl167)) (fun v192 sv193 p194 => ?_)
            have := congrArg Int32.toInt (show FIv162 121 68 = x180 from h181)
            have := congrArg Int32.toInt (show FIv162 121 67 = x4 from kp165)
            obtain ⟨r195, rfl, rfl, t197, t198, u199⟩ := p194
            show hw base _ _ _ _ _ [.int (r195)] _ _
            refine hw_ifne (tgt := 48) (aX12_location 20 rfl) (by decide) rfl (fun cd200 => ?_) (fun cd200 => ?_)
            · replace t197 := t197 (by omega)
              have hisp := u199.mp (by omega)
              refine xw_iloadn (aX12_location 25 rfl) rfl ?_
              refine hw_bp (v := (8 : Int32)) (aX12_location 26 rfl) (by decide) ?_
              refine hw_icne (tgt := 60) (aX12_location 27 rfl) (by decide) rfl (by decide : (8 : Int32).toInt = 8) (fun cd201 => ?_) (fun cd201 => ?_)
              · refine hw_aloadn (aX12_location 31 rfl) rfl ?_
                refine hw_get (v := .int (x183)) (aX12_location 32 rfl) wf_RX12_475 (c121 hS) (s121 hS) (by decide) (congrArg Value.int (show FIv162 121 69 = x183 from h184)) ?_
                refine hw_ifeq (tgt := 68) (aX12_location 33 rfl) (by decide) rfl (fun cd202 => ?_) (fun cd202 => ?_)
                · refine hw_aloadn (aX12_location 35 rfl) rfl ?_
                  have := congrArg Int32.toInt (show FIv162 121 68 = x180 from h181)
                  have := congrArg Int32.toInt (show FIv162 121 69 = x183 from h184)
                  have := congrArg Int32.toInt (show FIv162 121 71 = x188 from h189)
                  refine hw_callV (Bs := []) (rest := []) (aX12_location 36 rfl) wc_RX12_544 (by decide) rfl wi_yX12_place wv_yX12_place (c121 hS) (s121 hS) rfl rfl rfl (Nat.le_of_ble_eq_true rfl) (Nat.le_of_ble_eq_true rfl) (n_place (d := d) hS hF hI164 (by have := congrArg Int32.toInt (show FIv162 121 68 = x180 from h181); have := congrArg Int32.toInt (show FIv162 121 67 = x4 from kp165); omega) (by have := congrArg Int32.toInt (show FIv162 121 69 = x183 from h184); omega) (by have := congrArg Int32.toInt (show FIv162 121 73 = x185 from h186); have := congrArg Int32.toInt (show FIv162 121 68 = x180 from h181); omega) (by have := congrArg Int32.toInt (show FIv162 121 71 = x188 from h189); have := congrArg Int32.toInt (show FIv162 121 71 = x188 from h189); omega) (hisp) (show rl_e (FIv162 149) (FIv162 121 67) from rl167) (show rl_t (FIv162 149) (FL 150) from rl168) (show rl_pm (FIv162 121 90) (FIv162 121 73) (FIv162 166) (FIv162 167) (FIv162 168) from rl169)) (fun v203 sv204 p205 => ?_)
                  have := congrArg Int32.toInt (show FIv162 121 68 = x180 from h181)
                  have := congrArg Int32.toInt (show FIv162 121 73 = x185 from h186)
                  have := congrArg Int32.toInt (show FIv162 121 68 = x180 from h181)
                  have := congrArg Int32.toInt (show FIv162 121 73 = x185 from h186)
                  obtain ⟨rfl, FI207, rfl, hI208, f209, t210, t211, t212, t213, t214, u215, u216, rl217⟩ := p205
                  have rl218 : rl_e (FI207 149) (FI207 121 67) := by rw [show FI207 149 = FIv162 149 from gf_row f209 (c149 hS) (s149 hS) rfl rfl, show FI207 121 67 = FIv162 121 67 from gf_at f209 (c121 hS) (s121 hS) rfl rfl]; exact rl167
                  have rl219 : rl_t (FI207 149) (FL 150) := by rw [show FI207 149 = FIv162 149 from gf_row f209 (c149 hS) (s149 hS) rfl rfl]; exact rl168
                  obtain ⟨x220, h221⟩ : ∃ y, FI207 121 68 = y := ⟨_, rfl⟩
                  have h221l := congrArg Int32.toInt h221
                  have b222 := gI_121_68 hI208; rw [h221] at b222
                  have := congrArg Int32.toInt (show FI207 121 67 = x4 from (gf_at f209 (c121 hS) (s121 hS) rfl (kp165)))
                  obtain ⟨x223, h224⟩ : ∃ y, FI207 121 73 = y := ⟨_, rfl⟩
                  have h224l := congrArg Int32.toInt h224
                  have b225 := gI_121_73 hI208; rw [h224] at b225
                  obtain ⟨x226, h227⟩ : ∃ y, FI207 121 71 = y := ⟨_, rfl⟩
                  have h227l := congrArg Int32.toInt h227
                  have := i_rng x226
                  show hw base _ _ _ _ _ [] _ _
                  have hgp := u215; rw [show FIv162 149 = FI 149 from rw178] at hgp
                  have ho71 := u216
                  obtain ⟨x228, h229⟩ : ∃ y, FI207 121 69 = y := ⟨_, rfl⟩
                  have h229l := congrArg Int32.toInt h229
                  have := i_rng x228
                  have := congrArg Int32.toInt (show FI207 121 69 = x228 from h229)
                  have := congrArg Int32.toInt (show FI207 121 68 = x220 from h221)
                  have := congrArg Int32.toInt (show FI207 121 71 = x226 from h227)
                  refine hw_aloadn (aX12_location 37 rfl) rfl ?_
                  refine hw_bp (v := (47 : Int32)) (aX12_location 38 rfl) (by decide) ?_
                  refine hw_callV (Bs := [.int ((47 : Int32))]) (rest := []) (aX12_location 39 rfl) wc_RX12_527 (by decide) rfl wi_yX12_need wv_yX12_need (c121 hS) (s121 hS) rfl rfl rfl (Nat.le_of_ble_eq_true rfl) (Nat.le_of_ble_eq_true rfl) (n_need (d := d + 6) hS hF hI208 ((47 : Int32)) (by have := congrArg Int32.toInt (show FI207 121 68 = x220 from h221); have := congrArg Int32.toInt (show FI207 121 67 = x4 from (gf_at f209 (c121 hS) (s121 hS) rfl (kp165))); omega) (show rl_e (FI207 149) (FI207 121 67) from rl218)) (fun v230 sv231 p232 => ?_)
                  have := congrArg Int32.toInt (show FI207 121 68 = x220 from h221)
                  have := congrArg Int32.toInt (show FI207 121 69 = x228 from h229)
                  have := congrArg Int32.toInt (show FI207 121 68 = x220 from h221)
                  have := congrArg Int32.toInt (show FI207 121 68 = x220 from h221)
                  obtain ⟨rfl, FI234, rfl, hI235, f236, t237, t238, t239⟩ := p232
                  have rl240 : rl_e (FI234 149) (FI234 121 67) := by rw [show FI234 149 = FI207 149 from gf_row f236 (c149 hS) (s149 hS) rfl rfl, show FI234 121 67 = FI207 121 67 from gf_at f236 (c121 hS) (s121 hS) rfl rfl]; exact rl218
                  have rl241 : rl_t (FI234 149) (FL 150) := by rw [show FI234 149 = FI207 149 from gf_row f236 (c149 hS) (s149 hS) rfl rfl]; exact rl219
                  have rl242 : rl_pm (FI234 121 90) (FI234 121 73) (FI234 166) (FI234 167) (FI234 168) := by rw [show FI234 166 = FI207 166 from gf_row f236 (c166 hS) (s166 hS) rfl rfl, show FI234 167 = FI207 167 from gf_row f236 (c167 hS) (s167 hS) rfl rfl, show FI234 168 = FI207 168 from gf_row f236 (c168 hS) (s168 hS) rfl rfl, show FI234 121 90 = FI207 121 90 from gf_at f236 (c121 hS) (s121 hS) rfl rfl, show FI234 121 73 = FI207 121 73 from gf_at f236 (c121 hS) (s121 hS) rfl rfl]; exact rl217
                  obtain ⟨x243, h244⟩ : ∃ y, FI234 121 68 = y := ⟨_, rfl⟩
                  have h244l := congrArg Int32.toInt h244
                  have b245 := gI_121_68 hI235; rw [h244] at b245
                  have := congrArg Int32.toInt (show FI234 121 67 = x4 from (gf_at f236 (c121 hS) (s121 hS) rfl ((gf_at f209 (c121 hS) (s121 hS) rfl (kp165)))))
                  obtain ⟨x246, h247⟩ : ∃ y, FI234 121 69 = y := ⟨_, rfl⟩
                  have h247l := congrArg Int32.toInt h247
                  have := i_rng x246
                  show hw base _ _ _ _ _ [] _ _
                  refine hw_aloadn (aX12_location 40 rfl) rfl ?_
                  refine hw_get (v := .int (x246)) (aX12_location 41 rfl) wf_RX12_475 (c121 hS) (s121 hS) (by decide) (congrArg Value.int (show FI234 121 69 = x246 from h247)) ?_
                  refine hw_ifne (tgt := 103) (aX12_location 42 rfl) (by decide) rfl (fun cd248 => ?_) (fun cd248 => ?_)
                  · refine hw_aloadn (aX12_location 53 rfl) rfl ?_
                    refine hw_get (v := .int (x246)) (aX12_location 54 rfl) wf_RX12_475 (c121 hS) (s121 hS) (by decide) (congrArg Value.int (show FI234 121 69 = x246 from h247)) ?_
                    refine hw_ifne (tgt := 131) (aX12_location 55 rfl) (by decide) rfl (fun cd249 => ?_) (fun cd249 => ?_)
                    · refine hw_aloadn (aX12_location 67 rfl) rfl ?_
                      refine hw_get (v := .int (x246)) (aX12_location 68 rfl) wf_RX12_475 (c121 hS) (s121 hS) (by decide) (congrArg Value.int (show FI234 121 69 = x246 from h247)) ?_
                      refine hw_ifeq (tgt := 139) (aX12_location 69 rfl) (by decide) rfl (fun cd250 => ?_) (fun cd250 => ?_)
                      · omega
                      · refine xw_vret (aX12_location 70 rfl) rfl ?_
                        exact ⟨rfl, FI234, rfl, hI235, (gf_tr ex_rf (gf_tr ex_rf fr163 f209 rfl rfl rfl) f236 rfl rfl rfl), (by have := congrArg Int32.toInt (show FI234 121 67 = x4 from (gf_at f236 (c121 hS) (s121 hS) rfl ((gf_at f209 (c121 hS) (s121 hS) rfl (kp165))))); have := congrArg Int32.toInt (show FI234 121 68 = x243 from h244); omega), (by have := congrArg Int32.toInt (show FI234 121 68 = x243 from h244); omega), (by have := congrArg Int32.toInt (show FI234 121 68 = x243 from h244); have := congrArg Int32.toInt (show FI234 121 73 = x223 from (gf_at f236 (c121 hS) (s121 hS) rfl (h224))); omega), (by have := congrArg Int32.toInt (show FI234 121 73 = x223 from (gf_at f236 (c121 hS) (s121 hS) rfl (h224))); omega), (by have := congrArg Int32.toInt (show FI234 121 71 = x226 from (gf_at f236 (c121 hS) (s121 hS) rfl (h227))); omega), (by have := congrArg Int32.toInt (show FI234 121 69 = x246 from h247); exact fun h => absurd h (by omega)), (by have := congrArg Int32.toInt (show FI234 121 69 = x246 from h247); exact fun h => absurd h (by omega)), (show rl_pm (FI234 121 90) (FI234 121 73) (FI234 166) (FI234 167) (FI234 168) from rl242)⟩
                    · omega
                  · refine hw_aloadn (aX12_location 43 rfl) rfl ?_
                    refine hw_get (v := .ref (base + 149)) (aX12_location 44 rfl) wf_RX12_105 (c121 hS) (s121 hS) (by decide) (congrArg (fun r => va_rf (h_rf base r)) (r121_62 hF)) ?_
                    refine hw_aloadn (aX12_location 45 rfl) rfl ?_
                    refine hw_get (v := .int (x243)) (aX12_location 46 rfl) wf_RX12_478 (c121 hS) (s121 hS) (by decide) (congrArg Value.int (show FI234 121 68 = x243 from h244)) ?_
                    obtain ⟨x251, h252⟩ : ∃ y, FI234 149 (x243).toNatClampNeg = y := ⟨_, rfl⟩
                    have h252l := congrArg Int32.toInt h252
                    have := i_rng x251
                    refine hw_iald (v := x251) (aX12_location 47 rfl) (c149 hS) (s149 hS) (h_in rfl (by omega) (by omega)) (show FI234 149 (x243).toNatClampNeg = x251 from h252) ?_
                    refine hw_ic (v := (3 : Int32)) (aX12_location 48 rfl) (by decide) ?_
                    refine hw_iceq (tgt := 103) (aX12_location 49 rfl) (by decide) rfl (by decide : (3 : Int32).toInt = 3) (fun cd253 => ?_) (fun cd253 => ?_)
                    · refine hw_aloadn (aX12_location 53 rfl) rfl ?_
                      refine hw_get (v := .int (x246)) (aX12_location 54 rfl) wf_RX12_475 (c121 hS) (s121 hS) (by decide) (congrArg Value.int (show FI234 121 69 = x246 from h247)) ?_
                      refine hw_ifne (tgt := 131) (aX12_location 55 rfl) (by decide) rfl (fun cd254 => ?_) (fun cd254 => ?_)
                      · omega
                      · have := congrArg Int32.toInt (show FI234 121 67 = x4 from (gf_at f236 (c121 hS) (s121 hS) rfl ((gf_at f209 (c121 hS) (s121 hS) rfl (kp165)))))
                        have hne254 := rl_e_ne rl240 (t := x243) (by omega)
                        refine hw_aloadn (aX12_location 56 rfl) rfl ?_
                        refine hw_get (v := .ref (base + 150)) (aX12_location 57 rfl) wf_RX12_108 (c121 hS) (s121 hS) (by decide) (congrArg (fun r => va_rf (h_rf base r)) (r121_63 hF)) ?_
                        refine hw_aloadn (aX12_location 58 rfl) rfl ?_
                        refine hw_get (v := .int (x243)) (aX12_location 59 rfl) wf_RX12_478 (c121 hS) (s121 hS) (by decide) (congrArg Value.int (show FI234 121 68 = x243 from h244)) ?_
                        obtain ⟨x255, h256⟩ : ∃ y, FL 150 (x243).toNatClampNeg = y := ⟨_, rfl⟩
                        have h256l := congrArg Int64.toInt h256
                        have := l_rng x255
                        refine hw_lald (v := x255) (aX12_location 60 rfl) (c150 hS) (s150 hS) (h_in rfl (by omega) (by omega)) (show FL 150 (x243).toNatClampNeg = x255 from h256) ?_
                        refine xw_ldc2 (aX12_location 61 rfl) wk_RX12_547 ?_
                        refine hw_lcle (tgt := 131) (aX12_location 62 rfl) (aX12_location 63 rfl) (by decide) rfl (by decide : (64 : Int64).toInt = 64) (fun cd257 => ?_) (fun cd257 => ?_)
                        · refine hw_aloadn (aX12_location 67 rfl) rfl ?_
                          refine hw_get (v := .int (x246)) (aX12_location 68 rfl) wf_RX12_475 (c121 hS) (s121 hS) (by decide) (congrArg Value.int (show FI234 121 69 = x246 from h247)) ?_
                          refine hw_ifeq (tgt := 139) (aX12_location 69 rfl) (by decide) rfl (fun cd258 => ?_) (fun cd258 => ?_)
                          · refine hw_aloadn (aX12_location 71 rfl) rfl ?_
                            refine hw_sp (v := (147 : Int32)) (aX12_location 72 rfl) (by decide) ?_
                            refine hw_callV (Bs := [.int ((147 : Int32))]) (rest := []) (aX12_location 73 rfl) wc_RX12_496 (by decide) rfl wi_yX12_emit wv_yX12_emit (c121 hS) (s121 hS) rfl rfl rfl (Nat.le_of_ble_eq_true rfl) (Nat.le_of_ble_eq_true rfl) (n_emit (d := d + 7) hS hF hI235 ((147 : Int32)) (by have := congrArg Int32.toInt (show FI234 121 73 = x223 from (gf_at f236 (c121 hS) (s121 hS) rfl (h224))); omega) (show rl_pm (FI234 121 90) (FI234 121 73) (FI234 166) (FI234 167) (FI234 168) from rl242)) (fun v259 sv260 p261 => ?_)
                            have := congrArg Int32.toInt (show FI234 121 73 = x223 from (gf_at f236 (c121 hS) (s121 hS) rfl (h224)))
                            obtain ⟨rfl, FI263, rfl, hI264, f265, t266, rl267⟩ := p261
                            have rl268 : rl_e (FI263 149) (FI263 121 67) := by rw [show FI263 149 = FI234 149 from gf_row f265 (c149 hS) (s149 hS) rfl rfl, show FI263 121 67 = FI234 121 67 from gf_at f265 (c121 hS) (s121 hS) rfl rfl]; exact rl240
                            have rl269 : rl_t (FI263 149) (FL 150) := by rw [show FI263 149 = FI234 149 from gf_row f265 (c149 hS) (s149 hS) rfl rfl]; exact rl241
                            obtain ⟨x270, h271⟩ : ∃ y, FI263 121 73 = y := ⟨_, rfl⟩
                            have h271l := congrArg Int32.toInt h271
                            have b272 := gI_121_73 hI264; rw [h271] at b272
                            show hw base _ _ _ _ _ [] _ _
                            refine hw_aloadn (aX12_location 74 rfl) rfl ?_
                            refine hw_aloadn (aX12_location 75 rfl) rfl ?_
                            refine hw_get (v := .ref (base + 150)) (aX12_location 76 rfl) wf_RX12_108 (c121 hS) (s121 hS) (by decide) (congrArg (fun r => va_rf (h_rf base r)) (r121_63 hF)) ?_
                            refine hw_aloadn (aX12_location 77 rfl) rfl ?_
                            refine hw_get (v := .int (x243)) (aX12_location 78 rfl) wf_RX12_478 (c121 hS) (s121 hS) (by decide) (congrArg Value.int (show FI263 121 68 = x243 from (gf_at f265 (c121 hS) (s121 hS) rfl (h244)))) ?_
                            refine hw_lald (v := x255) (aX12_location 79 rfl) (c150 hS) (s150 hS) (h_in rfl (by omega) (by omega)) (show FL 150 (x243).toNatClampNeg = x255 from h256) ?_
                            have hv := (rl269 (x243).toNatClampNeg).1 (by have := congrArg Int32.toInt (show FI263 149 (x243).toNatClampNeg = x251 from (gf_at f265 (c149 hS) (s149 hS) rfl (h252))); omega)
                            have e273 : 0 ≤ (x255).toInt ∧ (x255).toInt ≤ 999999999999999999 := by omega
                            refine hw_callV (Bs := [.long (x255)]) (rest := []) (aX12_location 80 rfl) wc_RX12_549 (by decide) rfl wi_yX12_unsigned wv_yX12_unsigned (c121 hS) (s121 hS) rfl rfl rfl (Nat.le_of_ble_eq_true rfl) (Nat.le_of_ble_eq_true rfl) (n_unsigned (d := d + 6) hS hF hI264 (x255) (by have := congrArg Int32.toInt (show FI263 121 73 = x270 from h271); omega) (by omega) (show rl_pm (FI263 121 90) (FI263 121 73) (FI263 166) (FI263 167) (FI263 168) from rl267)) (fun v274 sv275 p276 => ?_)
                            have := congrArg Int32.toInt (show FI263 121 73 = x270 from h271)
                            have := congrArg Int32.toInt (show FI263 121 73 = x270 from h271)
                            obtain ⟨rfl, FI278, rfl, hI279, f280, t281, t282, rl283⟩ := p276
                            have rl284 : rl_e (FI278 149) (FI278 121 67) := by rw [show FI278 149 = FI263 149 from gf_row f280 (c149 hS) (s149 hS) rfl rfl, show FI278 121 67 = FI263 121 67 from gf_at f280 (c121 hS) (s121 hS) rfl rfl]; exact rl268
                            have rl285 : rl_t (FI278 149) (FL 150) := by rw [show FI278 149 = FI263 149 from gf_row f280 (c149 hS) (s149 hS) rfl rfl]; exact rl269
                            obtain ⟨x286, h287⟩ : ∃ y, FI278 121 73 = y := ⟨_, rfl⟩
                            have h287l := congrArg Int32.toInt h287
                            have b288 := gI_121_73 hI279; rw [h287] at b288
                            show hw base _ _ _ _ _ [] _ _
                            refine hw_aloadn (aX12_location 81 rfl) rfl ?_
                            refine hw_aloadn (aX12_location 82 rfl) rfl ?_
                            refine hw_get (v := .int (x243)) (aX12_location 83 rfl) wf_RX12_478 (c121 hS) (s121 hS) (by decide) (congrArg Value.int (show FI278 121 68 = x243 from (gf_at f280 (c121 hS) (s121 hS) rfl ((gf_at f265 (c121 hS) (s121 hS) rfl (h244)))))) ?_
                            refine hw_ic (v := (1 : Int32)) (aX12_location 84 rfl) (by decide) ?_
                            refine xw_iadd (aX12_location 85 rfl) ?_
                            refine hw_tie (A := ((x243).toInt) + (1)) (i_add rfl (by decide : (1 : Int32).toInt = 1) (by omega) (by omega)) (fun x289 e290 => ?_)
                            refine hv_puti (aX12_location 86 rfl) wf_RX12_478 (c121 hS) (s121 hS) (by decide) rfl rfl (fun FI291 u292 => ?_)
                            have rl293 : rl_e (FI291 149) (FI291 121 67) := by rw [show FI291 149 = FI278 149 from up_row u292 (by decide) rfl, show FI291 121 67 = FI278 121 67 from up_k u292 (by decide) rfl]; exact rl284
                            have rl294 : rl_t (FI291 149) (FL 150) := by rw [show FI291 149 = FI278 149 from up_row u292 (by decide) rfl]; exact rl285
                            have rl295 : rl_pm (FI291 121 90) (FI291 121 73) (FI291 166) (FI291 167) (FI291 168) := by rw [show FI291 166 = FI278 166 from up_row u292 (by decide) rfl, show FI291 167 = FI278 167 from up_row u292 (by decide) rfl, show FI291 168 = FI278 168 from up_row u292 (by decide) rfl, show FI291 121 90 = FI278 121 90 from up_k u292 (by decide) rfl, show FI291 121 73 = FI278 121 73 from up_k u292 (by decide) rfl]; exact rl283
                            have hI296 : g_I FI291 := gU_121_68 hI279 u292 (by have := (e290 : (x289).toInt = ((x243).toInt) + (1)); omega) (by have := (e290 : (x289).toInt = ((x243).toInt) + (1)); omega)
                            refine xw_iloadn (aX12_location 87 rfl) rfl ?_
                            refine hw_ic (v := (1 : Int32)) (aX12_location 88 rfl) (by decide) ?_
                            refine xw_iadd (aX12_location 89 rfl) ?_
                            refine hw_tie (A := ((y2).toInt) + (1)) (i_add rfl (by decide : (1 : Int32).toInt = 1) (by omega) (by omega)) (fun x297 e298 => ?_)
                            refine xw_istoren (L2 := [(2, .int (x297)), (1, .int (x9)), (0, .ref (base + 121))]) (aX12_location 90 rfl) (by decide) rfl ?_
                            refine hw_aloadn (aX12_location 91 rfl) rfl ?_
                            refine hw_bp (v := (44 : Int32)) (aX12_location 92 rfl) (by decide) ?_
                            refine hw_callV (Bs := [.int ((44 : Int32))]) (rest := []) (aX12_location 93 rfl) wc_RX12_484 (by decide) rfl wi_yX12_isSign wv_yX12_isSign (c121 hS) (s121 hS) rfl rfl rfl (Nat.le_of_ble_eq_true rfl) (Nat.le_of_ble_eq_true rfl) (n_isSign (d := d + 7) hS hF hI296 ((44 : Int32)) (by have := congrArg Int32.toInt (show FI291 121 68 = x289 from up_eq u292); have := (e290 : (x289).toInt = ((x243).toInt) + (1)); have := congrArg Int32.toInt (show FI291 121 67 = x4 from (up_k u292 (by decide) ((gf_at f280 (c121 hS) (s121 hS) rfl ((gf_at f265 (c121 hS) (s121 hS) rfl ((gf_at f236 (c121 hS) (s121 hS) rfl ((gf_at f209 (c121 hS) (s121 hS) rfl (kp165))))))))))); omega) (show rl_e (FI291 149) (FI291 121 67) from rl293)) (fun v299 sv300 p301 => ?_)
                            have := congrArg Int32.toInt (show FI291 121 68 = x289 from up_eq u292)
                            have := (e290 : (x289).toInt = ((x243).toInt) + (1))
                            have := congrArg Int32.toInt (show FI291 121 67 = x4 from (up_k u292 (by decide) ((gf_at f280 (c121 hS) (s121 hS) rfl ((gf_at f265 (c121 hS) (s121 hS) rfl ((gf_at f236 (c121 hS) (s121 hS) rfl ((gf_at f209 (c121 hS) (s121 hS) rfl (kp165)))))))))))
                            obtain ⟨r302, rfl, rfl, t304, t305, u306⟩ := p301
                            show hw base _ _ _ _ _ [.int (r302)] _ _
                            have := congrArg Int32.toInt (show FI291 121 68 = x289 from up_eq u292)
                            have hcm := u306; rw [show ((44 : Int32)).toInt = (44 : Int) from by decide, show FI291 149 = FI 149 from (up_row u292 (by decide) ((gf_row f280 (c149 hS) (s149 hS) rfl ((gf_row f265 (c149 hS) (s149 hS) rfl ((gf_row f236 (c149 hS) (s149 hS) rfl ((gf_row f209 (c149 hS) (s149 hS) rfl (rw178)))))))))), show (FI291 121 68).toInt.toNat = (FI207 121 68).toInt.toNat + 2 by omega] at hcm
                            refine xw_istoren (L2 := [(3, .int (r302)), (2, .int (x297)), (1, .int (x9)), (0, .ref (base + 121))]) (aX12_location 94 rfl) (by decide) rfl ?_
                            refine xw_iloadn (aX12_location 95 rfl) rfl ?_
                            refine hw_ifeq (tgt := 22) (aX12_location 96 rfl) (by decide) rfl (fun cd307 => ?_) (fun cd307 => ?_)
                            · clear t304
                              refine xw_iloadn (aX12_location 13 rfl) rfl ?_
                              refine hw_ifeq (tgt := 197) (aX12_location 14 rfl) (by decide) rfl (fun cd308 => ?_) (fun cd308 => ?_)
                              · have hpts := gr_pf_end xi33_0 (hgp (by omega)) (fun h => absurd (hcm.mpr h) (by omega))
                                refine hw_aloadn (aX12_location 104 rfl) rfl ?_
                                refine hw_bp (v := (125 : Int32)) (aX12_location 105 rfl) (by decide) ?_
                                refine hw_callV (Bs := [.int ((125 : Int32))]) (rest := []) (aX12_location 106 rfl) wc_RX12_527 (by decide) rfl wi_yX12_need wv_yX12_need (c121 hS) (s121 hS) rfl rfl rfl (Nat.le_of_ble_eq_true rfl) (Nat.le_of_ble_eq_true rfl) (n_need (d := d + 6) hS hF hI296 ((125 : Int32)) (by have := congrArg Int32.toInt (show FI291 121 68 = x289 from up_eq u292); have := (e290 : (x289).toInt = ((x243).toInt) + (1)); have := congrArg Int32.toInt (show FI291 121 67 = x4 from (up_k u292 (by decide) ((gf_at f280 (c121 hS) (s121 hS) rfl ((gf_at f265 (c121 hS) (s121 hS) rfl ((gf_at f236 (c121 hS) (s121 hS) rfl ((gf_at f209 (c121 hS) (s121 hS) rfl (kp165))))))))))); omega) (show rl_e (FI291 149) (FI291 121 67) from rl293)) (fun v309 sv310 p311 => ?_)
                                have := congrArg Int32.toInt (show FI291 121 68 = x289 from up_eq u292)
                                have := (e290 : (x289).toInt = ((x243).toInt) + (1))
                                have := congrArg Int32.toInt (show FI291 121 69 = x246 from (up_k u292 (by decide) ((gf_at f280 (c121 hS) (s121 hS) rfl ((gf_at f265 (c121 hS) (s121 hS) rfl (h247)))))))
                                have := congrArg Int32.toInt (show FI291 121 68 = x289 from up_eq u292)
                                have := (e290 : (x289).toInt = ((x243).toInt) + (1))
                                have := congrArg Int32.toInt (show FI291 121 68 = x289 from up_eq u292)
                                have := (e290 : (x289).toInt = ((x243).toInt) + (1))
                                obtain ⟨rfl, FI313, rfl, hI314, f315, t316, t317, t318⟩ := p311
                                have rl319 : rl_e (FI313 149) (FI313 121 67) := by rw [show FI313 149 = FI291 149 from gf_row f315 (c149 hS) (s149 hS) rfl rfl, show FI313 121 67 = FI291 121 67 from gf_at f315 (c121 hS) (s121 hS) rfl rfl]; exact rl293
                                have rl320 : rl_t (FI313 149) (FL 150) := by rw [show FI313 149 = FI291 149 from gf_row f315 (c149 hS) (s149 hS) rfl rfl]; exact rl294
                                have rl321 : rl_pm (FI313 121 90) (FI313 121 73) (FI313 166) (FI313 167) (FI313 168) := by rw [show FI313 166 = FI291 166 from gf_row f315 (c166 hS) (s166 hS) rfl rfl, show FI313 167 = FI291 167 from gf_row f315 (c167 hS) (s167 hS) rfl rfl, show FI313 168 = FI291 168 from gf_row f315 (c168 hS) (s168 hS) rfl rfl, show FI313 121 90 = FI291 121 90 from gf_at f315 (c121 hS) (s121 hS) rfl rfl, show FI313 121 73 = FI291 121 73 from gf_at f315 (c121 hS) (s121 hS) rfl rfl]; exact rl295
                                obtain ⟨x322, h323⟩ : ∃ y, FI313 121 68 = y := ⟨_, rfl⟩
                                have h323l := congrArg Int32.toInt h323
                                have b324 := gI_121_68 hI314; rw [h323] at b324
                                have := congrArg Int32.toInt (show FI313 121 67 = x4 from (gf_at f315 (c121 hS) (s121 hS) rfl ((up_k u292 (by decide) ((gf_at f280 (c121 hS) (s121 hS) rfl ((gf_at f265 (c121 hS) (s121 hS) rfl ((gf_at f236 (c121 hS) (s121 hS) rfl ((gf_at f209 (c121 hS) (s121 hS) rfl (kp165)))))))))))))
                                obtain ⟨x325, h326⟩ : ∃ y, FI313 121 69 = y := ⟨_, rfl⟩
                                have h326l := congrArg Int32.toInt h326
                                have := i_rng x325
                                show hw base _ _ _ _ _ [] _ _
                                refine hw_aloadn (aX12_location 107 rfl) rfl ?_
                                refine hw_aloadn (aX12_location 108 rfl) rfl ?_
                                refine hw_get (v := .int (x226)) (aX12_location 109 rfl) wf_RX12_490 (c121 hS) (s121 hS) (by decide) (congrArg Value.int (show FI313 121 71 = x226 from (gf_at f315 (c121 hS) (s121 hS) rfl ((up_k u292 (by decide) ((gf_at f280 (c121 hS) (s121 hS) rfl ((gf_at f265 (c121 hS) (s121 hS) rfl ((gf_at f236 (c121 hS) (s121 hS) rfl (h227)))))))))))) ?_
                                refine hw_ic (v := (1 : Int32)) (aX12_location 110 rfl) (by decide) ?_
                                refine xw_isub (aX12_location 111 rfl) ?_
                                refine hw_tie (A := ((x226).toInt) - (1)) (i_sub rfl (by decide : (1 : Int32).toInt = 1) (by omega) (by omega)) (fun x327 e328 => ?_)
                                refine hv_puti (aX12_location 112 rfl) wf_RX12_490 (c121 hS) (s121 hS) (by decide) rfl rfl (fun FI329 u330 => ?_)
                                have rl331 : rl_e (FI329 149) (FI329 121 67) := by rw [show FI329 149 = FI313 149 from up_row u330 (by decide) rfl, show FI329 121 67 = FI313 121 67 from up_k u330 (by decide) rfl]; exact rl319
                                have rl332 : rl_t (FI329 149) (FL 150) := by rw [show FI329 149 = FI313 149 from up_row u330 (by decide) rfl]; exact rl320
                                have rl333 : rl_pm (FI329 121 90) (FI329 121 73) (FI329 166) (FI329 167) (FI329 168) := by rw [show FI329 166 = FI313 166 from up_row u330 (by decide) rfl, show FI329 167 = FI313 167 from up_row u330 (by decide) rfl, show FI329 168 = FI313 168 from up_row u330 (by decide) rfl, show FI329 121 90 = FI313 121 90 from up_k u330 (by decide) rfl, show FI329 121 73 = FI313 121 73 from up_k u330 (by decide) rfl]; exact rl321
                                have hI334 : g_I FI329 := gU_F hI314 u330 rfl
                                refine xw_goto (tgt := 235) (aX12_location 113 rfl) (by decide) ?_
                                refine hw_aloadn (aX12_location 123 rfl) rfl ?_
                                refine hw_get (v := .int (x286)) (aX12_location 124 rfl) wf_RX12_493 (c121 hS) (s121 hS) (by decide) (congrArg Value.int (show FI329 121 73 = x286 from (up_k u330 (by decide) ((gf_at f315 (c121 hS) (s121 hS) rfl ((up_k u292 (by decide) (h287)))))))) ?_
                                refine xw_iloadn (aX12_location 125 rfl) rfl ?_
                                refine xw_isub (aX12_location 126 rfl) ?_
                                refine hw_tie (A := ((x286).toInt) - ((x9).toInt)) (i_sub rfl rfl (by omega) (by omega)) (fun x335 e336 => ?_)
                                refine hw_sp (v := (300 : Int32)) (aX12_location 127 rfl) (by decide) ?_
                                refine hw_icle (tgt := 257) (aX12_location 128 rfl) (by decide) e336 (by decide : (300 : Int32).toInt = 300) (fun cd337 => ?_) (fun cd337 => ?_)
                                · have hq3 : (FI329 121 69).toInt = 0 → ((FI329 121 68).toInt).toNat = (FI207 121 68).toInt.toNat + 3 := fun h => by have := congrArg Int32.toInt (show FI329 121 68 = x322 from (up_k u330 (by decide) (h323))); have := congrArg Int32.toInt (show FI329 121 69 = x325 from (up_k u330 (by decide) (h326))); omega
                                  refine xw_vret (aX12_location 135 rfl) rfl ?_
                                  exact ⟨rfl, FI329, rfl, hI334, (gf_f (gf_tr ex_rf (gf_f (gf_tr ex_rf (gf_tr ex_rf (gf_tr ex_rf (gf_tr ex_rf fr163 f209 rfl rfl rfl) f236 rfl rfl rfl) f265 rfl rfl rfl) f280 rfl rfl rfl) u292 (by decide)) f315 rfl rfl rfl) u330 (by decide)), (by have := congrArg Int32.toInt (show FI329 121 67 = x4 from (up_k u330 (by decide) ((gf_at f315 (c121 hS) (s121 hS) rfl ((up_k u292 (by decide) ((gf_at f280 (c121 hS) (s121 hS) rfl ((gf_at f265 (c121 hS) (s121 hS) rfl ((gf_at f236 (c121 hS) (s121 hS) rfl ((gf_at f209 (c121 hS) (s121 hS) rfl (kp165))))))))))))))); have := congrArg Int32.toInt (show FI329 121 68 = x322 from (up_k u330 (by decide) (h323))); omega), (by have := congrArg Int32.toInt (show FI329 121 68 = x322 from (up_k u330 (by decide) (h323))); omega), (by have := congrArg Int32.toInt (show FI329 121 68 = x322 from (up_k u330 (by decide) (h323))); have := congrArg Int32.toInt (show FI329 121 73 = x286 from (up_k u330 (by decide) ((gf_at f315 (c121 hS) (s121 hS) rfl ((up_k u292 (by decide) (h287))))))); omega), (by have := congrArg Int32.toInt (show FI329 121 73 = x286 from (up_k u330 (by decide) ((gf_at f315 (c121 hS) (s121 hS) rfl ((up_k u292 (by decide) (h287))))))); omega), (by have := congrArg Int32.toInt (show FI329 121 71 = x327 from up_eq u330); have := (e328 : (x327).toInt = ((x226).toInt) - (1)); omega), (by have := congrArg Int32.toInt (show FI329 121 68 = x322 from (up_k u330 (by decide) (h323))); have := congrArg Int32.toInt (show FI329 121 69 = x325 from (up_k u330 (by decide) (h326))); intro h69; rw [hq3 (by omega)]; exact Or.inr ⟨hcu, (y2).toInt.toNat + 1, by omega, hpts⟩), (by have := congrArg Int32.toInt (show FI329 121 69 = x325 from (up_k u330 (by decide) (h326))); have := congrArg Int32.toInt (show FI329 121 71 = x327 from up_eq u330); have := (e328 : (x327).toInt = ((x226).toInt) - (1)); exact fun _ => by omega), (show rl_pm (FI329 121 90) (FI329 121 73) (FI329 166) (FI329 167) (FI329 168) from rl333)⟩
                                · refine hw_aloadn (aX12_location 129 rfl) rfl ?_
                                  refine hw_get (v := .ref (base + 163)) (aX12_location 130 rfl) wf_RX12_147 (c121 hS) (s121 hS) (by decide) (congrArg (fun r => va_rf (h_rf base r)) (r121_84 hF)) ?_
                                  refine hw_aloadn (aX12_location 131 rfl) rfl ?_
                                  refine hw_get (v := .int (x14)) (aX12_location 132 rfl) wf_RX12_515 (c121 hS) (s121 hS) (by decide) (congrArg Value.int (show FI329 121 78 = x14 from (up_k u330 (by decide) ((gf_at f315 (c121 hS) (s121 hS) rfl ((up_k u292 (by decide) ((gf_at f280 (c121 hS) (s121 hS) rfl ((gf_at f265 (c121 hS) (s121 hS) rfl ((gf_at f236 (c121 hS) (s121 hS) rfl ((gf_at f209 (c121 hS) (s121 hS) rfl (kp166)))))))))))))))) ?_
                                  refine hw_ic (v := (1 : Int32)) (aX12_location 133 rfl) (by decide) ?_
                                  refine hv_zast (w := (1 : Int32)) (k := (x14).toNatClampNeg) (aX12_location 134 rfl) (c163 hS) (s163 hS) (h_in rfl (by omega) (by omega)) rfl (by decide) (fun FI338 u339 => ?_)
                                  have rl343 : rl_e (FI338 149) (FI338 121 67) := by rw [show FI338 149 = FI329 149 from up_row u339 (by decide) rfl, show FI338 121 67 = FI329 121 67 from up_c u339 (by decide) rfl]; exact rl331
                                  have rl344 : rl_t (FI338 149) (FL 150) := by rw [show FI338 149 = FI329 149 from up_row u339 (by decide) rfl]; exact rl332
                                  have rl345 : rl_pm (FI338 121 90) (FI338 121 73) (FI338 166) (FI338 167) (FI338 168) := by rw [show FI338 166 = FI329 166 from up_row u339 (by decide) rfl, show FI338 167 = FI329 167 from up_row u339 (by decide) rfl, show FI338 168 = FI329 168 from up_row u339 (by decide) rfl, show FI338 121 90 = FI329 121 90 from up_c u339 (by decide) rfl, show FI338 121 73 = FI329 121 73 from up_c u339 (by decide) rfl]; exact rl333
                                  have hI346 : g_I FI338 := gU_163 hI334 u339 (by have := ((by decide : (1 : Int32).toInt = 1) : ((1 : Int32)).toInt = 1); omega) (by have := ((by decide : (1 : Int32).toInt = 1) : ((1 : Int32)).toInt = 1); omega)
                                  have hq3 : (FI338 121 69).toInt = 0 → ((FI338 121 68).toInt).toNat = (FI207 121 68).toInt.toNat + 3 := fun h => by have := congrArg Int32.toInt (show FI338 121 68 = x322 from (up_c u339 (by decide) ((up_k u330 (by decide) (h323))))); have := congrArg Int32.toInt (show FI338 121 69 = x325 from (up_c u339 (by decide) ((up_k u330 (by decide) (h326))))); omega
                                  refine xw_vret (aX12_location 135 rfl) rfl ?_
                                  exact ⟨rfl, FI338, rfl, hI346, (gf_a (gf_f (gf_tr ex_rf (gf_f (gf_tr ex_rf (gf_tr ex_rf (gf_tr ex_rf (gf_tr ex_rf fr163 f209 rfl rfl rfl) f236 rfl rfl rfl) f265 rfl rfl rfl) f280 rfl rfl rfl) u292 (by decide)) f315 rfl rfl rfl) u330 (by decide)) u339 (by decide)), (by have := congrArg Int32.toInt (show FI338 121 67 = x4 from (up_c u339 (by decide) ((up_k u330 (by decide) ((gf_at f315 (c121 hS) (s121 hS) rfl ((up_k u292 (by decide) ((gf_at f280 (c121 hS) (s121 hS) rfl ((gf_at f265 (c121 hS) (s121 hS) rfl ((gf_at f236 (c121 hS) (s121 hS) rfl ((gf_at f209 (c121 hS) (s121 hS) rfl (kp165))))))))))))))))); have := congrArg Int32.toInt (show FI338 121 68 = x322 from (up_c u339 (by decide) ((up_k u330 (by decide) (h323))))); omega), (by have := congrArg Int32.toInt (show FI338 121 68 = x322 from (up_c u339 (by decide) ((up_k u330 (by decide) (h323))))); omega), (by have := congrArg Int32.toInt (show FI338 121 68 = x322 from (up_c u339 (by decide) ((up_k u330 (by decide) (h323))))); have := congrArg Int32.toInt (show FI338 121 73 = x286 from (up_c u339 (by decide) ((up_k u330 (by decide) ((gf_at f315 (c121 hS) (s121 hS) rfl ((up_k u292 (by decide) (h287))))))))); omega), (by have := congrArg Int32.toInt (show FI338 121 73 = x286 from (up_c u339 (by decide) ((up_k u330 (by decide) ((gf_at f315 (c121 hS) (s121 hS) rfl ((up_k u292 (by decide) (h287))))))))); omega), (by have := congrArg Int32.toInt (show FI338 121 71 = x327 from (up_c u339 (by decide) (up_eq u330))); have := (e328 : (x327).toInt = ((x226).toInt) - (1)); omega), (by have := congrArg Int32.toInt (show FI338 121 68 = x322 from (up_c u339 (by decide) ((up_k u330 (by decide) (h323))))); have := congrArg Int32.toInt (show FI338 121 69 = x325 from (up_c u339 (by decide) ((up_k u330 (by decide) (h326))))); intro h69; rw [hq3 (by omega)]; exact Or.inr ⟨hcu, (y2).toInt.toNat + 1, by omega, hpts⟩), (by have := congrArg Int32.toInt (show FI338 121 69 = x325 from (up_c u339 (by decide) ((up_k u330 (by decide) (h326))))); have := congrArg Int32.toInt (show FI338 121 71 = x327 from (up_c u339 (by decide) (up_eq u330))); have := (e328 : (x327).toInt = ((x226).toInt) - (1)); exact fun _ => by omega), (show rl_pm (FI338 121 90) (FI338 121 73) (FI338 166) (FI338 167) (FI338 168) from rl345)⟩
                              · omega
                            · replace t304 := t304 (by omega)
                              have hsn := gr_pf_snoc xi33_0 (hgp (by omega)) (hcm.mp (by omega))
                              refine hw_aloadn (aX12_location 97 rfl) rfl ?_
                              refine hw_aloadn (aX12_location 98 rfl) rfl ?_
                              refine hw_get (v := .int (x289)) (aX12_location 99 rfl) wf_RX12_478 (c121 hS) (s121 hS) (by decide) (congrArg Value.int (show FI291 121 68 = x289 from up_eq u292)) ?_
                              refine hw_ic (v := (1 : Int32)) (aX12_location 100 rfl) (by decide) ?_
                              refine xw_iadd (aX12_location 101 rfl) ?_
                              refine hw_tie (A := (((x243).toInt) + (1)) + (1)) (i_add e290 (by decide : (1 : Int32).toInt = 1) (by omega) (by omega)) (fun x347 e348 => ?_)
                              refine hv_puti (aX12_location 102 rfl) wf_RX12_478 (c121 hS) (s121 hS) (by decide) rfl rfl (fun FI349 u350 => ?_)
                              have rl351 : rl_e (FI349 149) (FI349 121 67) := by rw [show FI349 149 = FI291 149 from up_row u350 (by decide) rfl, show FI349 121 67 = FI291 121 67 from up_k u350 (by decide) rfl]; exact rl293
                              have rl352 : rl_t (FI349 149) (FL 150) := by rw [show FI349 149 = FI291 149 from up_row u350 (by decide) rfl]; exact rl294
                              have rl353 : rl_pm (FI349 121 90) (FI349 121 73) (FI349 166) (FI349 167) (FI349 168) := by rw [show FI349 166 = FI291 166 from up_row u350 (by decide) rfl, show FI349 167 = FI291 167 from up_row u350 (by decide) rfl, show FI349 168 = FI291 168 from up_row u350 (by decide) rfl, show FI349 121 90 = FI291 121 90 from up_k u350 (by decide) rfl, show FI349 121 73 = FI291 121 73 from up_k u350 (by decide) rfl]; exact rl295
                              have hI354 : g_I FI349 := gU_121_68 hI296 u350 (by have := (e348 : (x347).toInt = (((x243).toInt) + (1)) + (1)); omega) (by have := (e348 : (x347).toInt = (((x243).toInt) + (1)) + (1)); omega)
                              have hq68 : ((FI349 121 68).toInt).toNat = (FI207 121 68).toInt.toNat + 3 := by have := congrArg Int32.toInt (show FI349 121 68 = x347 from up_eq u350); have := (e348 : (x347).toInt = (((x243).toInt) + (1)) + (1)); omega
                              refine xw_goto (tgt := 22) (aX12_location 103 rfl) (by decide) ?_
                              refine xw_iloadn (aX12_location 13 rfl) rfl ?_
                              refine hw_ifeq (tgt := 197) (aX12_location 14 rfl) (by decide) rfl (fun cd355 => ?_) (fun cd355 => ?_)
                              · omega
                              · refine hw_aloadn (aX12_location 15 rfl) rfl ?_
                                refine hw_get (v := .int (x246)) (aX12_location 16 rfl) wf_RX12_475 (c121 hS) (s121 hS) (by decide) (congrArg Value.int (show FI349 121 69 = x246 from (up_k u350 (by decide) ((up_k u292 (by decide) ((gf_at f280 (c121 hS) (s121 hS) rfl ((gf_at f265 (c121 hS) (s121 hS) rfl (h247)))))))))) ?_
                                refine hw_ifne (tgt := 197) (aX12_location 17 rfl) (by decide) rfl (fun cd356 => ?_) (fun cd356 => ?_)
                                · omega
                                · exact hw_L (ih (x297) FI349 (gf_f (gf_f (gf_tr ex_rf (gf_tr ex_rf (gf_tr ex_rf (gf_tr ex_rf fr163 f209 rfl rfl rfl) f236 rfl rfl rfl) f265 rfl rfl rfl) f280 rfl rfl rfl) u292 (by decide)) u350 (by decide)) hI354 (show FI349 121 67 = x4 from (up_k u350 (by decide) ((up_k u292 (by decide) ((gf_at f280 (c121 hS) (s121 hS) rfl ((gf_at f265 (c121 hS) (s121 hS) rfl ((gf_at f236 (c121 hS) (s121 hS) rfl ((gf_at f209 (c121 hS) (s121 hS) rfl (kp165))))))))))))) (show FI349 121 78 = x14 from (up_k u350 (by decide) ((up_k u292 (by decide) ((gf_at f280 (c121 hS) (s121 hS) rfl ((gf_at f265 (c121 hS) (s121 hS) rfl ((gf_at f236 (c121 hS) (s121 hS) rfl ((gf_at f209 (c121 hS) (s121 hS) rfl (kp166))))))))))))) (show rl_e (FI349 149) (FI349 121 67) from rl351) (show rl_t (FI349 149) (FL 150) from rl352) (show rl_pm (FI349 121 90) (FI349 121 73) (FI349 166) (FI349 167) (FI349 168) from rl353) (by have := (e298 : (x297).toInt = ((y2).toInt) + (1)); omega) (by have := (e298 : (x297).toInt = ((y2).toInt) + (1)); have := congrArg Int32.toInt (show FI349 121 68 = x347 from up_eq u350); have := (e348 : (x347).toInt = (((x243).toInt) + (1)) + (1)); omega) (by have := (e298 : (x297).toInt = ((y2).toInt) + (1)); have := congrArg Int32.toInt (show FI349 121 69 = x246 from (up_k u350 (by decide) ((up_k u292 (by decide) ((gf_at f280 (c121 hS) (s121 hS) rfl ((gf_at f265 (c121 hS) (s121 hS) rfl (h247))))))))); omega) (by have := (e298 : (x297).toInt = ((y2).toInt) + (1)); have := congrArg Int32.toInt (show FI349 121 67 = x4 from (up_k u350 (by decide) ((up_k u292 (by decide) ((gf_at f280 (c121 hS) (s121 hS) rfl ((gf_at f265 (c121 hS) (s121 hS) rfl ((gf_at f236 (c121 hS) (s121 hS) rfl ((gf_at f209 (c121 hS) (s121 hS) rfl (kp165))))))))))))); have := congrArg Int32.toInt (show FI349 121 68 = x347 from up_eq u350); have := (e348 : (x347).toInt = (((x243).toInt) + (1)) + (1)); omega) (by have := (e298 : (x297).toInt = ((y2).toInt) + (1)); have := congrArg Int32.toInt (show FI349 121 68 = x347 from up_eq u350); have := (e348 : (x347).toInt = (((x243).toInt) + (1)) + (1)); omega) (by have := (e298 : (x297).toInt = ((y2).toInt) + (1)); have := congrArg Int32.toInt (show FI349 121 68 = x347 from up_eq u350); have := (e348 : (x347).toInt = (((x243).toInt) + (1)) + (1)); have := congrArg Int32.toInt (show FI349 121 73 = x286 from (up_k u350 (by decide) ((up_k u292 (by decide) (h287))))); omega) (by have := (e298 : (x297).toInt = ((y2).toInt) + (1)); have := congrArg Int32.toInt (show FI349 121 73 = x286 from (up_k u350 (by decide) ((up_k u292 (by decide) (h287))))); omega) (by have := (e298 : (x297).toInt = ((y2).toInt) + (1)); have := congrArg Int32.toInt (show FI349 121 71 = x226 from (up_k u350 (by decide) ((up_k u292 (by decide) ((gf_at f280 (c121 hS) (s121 hS) rfl ((gf_at f265 (c121 hS) (s121 hS) rfl ((gf_at f236 (c121 hS) (s121 hS) rfl (h227))))))))))); omega) (show gr_pf (kf (FI 149)) (wf (FL 150)) ((x297).toInt : Int).toNat ((FI 121 68).toInt.toNat + 1) ((FI349 121 68).toInt).toNat from (by have := (e298 : (x297).toInt = ((y2).toInt) + (1)); have := congrArg Int32.toInt (show FI349 121 68 = x347 from up_eq u350); have := (e348 : (x347).toInt = (((x243).toInt) + (1)) + (1)); exact (by have z := hsn; rw [show ((x297).toInt : Int).toNat = (y2).toInt.toNat + 1 by omega, hq68]; exact z))) (show FI349 149 = FI 149 from (up_row u350 (by decide) ((up_row u292 (by decide) ((gf_row f280 (c149 hS) (s149 hS) rfl ((gf_row f265 (c149 hS) (s149 hS) rfl ((gf_row f236 (c149 hS) (s149 hS) rfl ((gf_row f209 (c149 hS) (s149 hS) rfl (rw178))))))))))))) (by have := (e298 : (x297).toInt = ((y2).toInt) + (1)); have := congrArg Int32.toInt (show FI349 121 68 = x347 from up_eq u350); have := (e348 : (x347).toInt = (((x243).toInt) + (1)) + (1)); omega)) ⟨rfl, rfl, rfl, trivial⟩
                          · omega
                        · refine hw_aloadn (aX12_location 64 rfl) rfl ?_
                          refine hw_ic (v := (3 : Int32)) (aX12_location 65 rfl) (by decide) ?_
                          refine hw_callV (Bs := [.int ((3 : Int32))]) (rest := []) (aX12_location 66 rfl) wc_RX12_487 (by decide) rfl wi_yX12_fail wv_yX12_fail (c121 hS) (s121 hS) rfl rfl rfl (Nat.le_of_ble_eq_true rfl) (Nat.le_of_ble_eq_true rfl) (n_fail (d := d + 7) hS hF hI235 ((3 : Int32)) (by have := ((by decide : (3 : Int32).toInt = 3) : ((3 : Int32)).toInt = 3); omega)) (fun v357 sv358 p359 => ?_)
                          obtain ⟨rfl, FI361, rfl, hI362, f363, t364⟩ := p359
                          have rl365 : rl_e (FI361 149) (FI361 121 67) := by rw [show FI361 149 = FI234 149 from gf_row f363 (c149 hS) (s149 hS) rfl rfl, show FI361 121 67 = FI234 121 67 from gf_at f363 (c121 hS) (s121 hS) rfl rfl]; exact rl240
                          have rl366 : rl_t (FI361 149) (FL 150) := by rw [show FI361 149 = FI234 149 from gf_row f363 (c149 hS) (s149 hS) rfl rfl]; exact rl241
                          have rl367 : rl_pm (FI361 121 90) (FI361 121 73) (FI361 166) (FI361 167) (FI361 168) := by rw [show FI361 166 = FI234 166 from gf_row f363 (c166 hS) (s166 hS) rfl rfl, show FI361 167 = FI234 167 from gf_row f363 (c167 hS) (s167 hS) rfl rfl, show FI361 168 = FI234 168 from gf_row f363 (c168 hS) (s168 hS) rfl rfl, show FI361 121 90 = FI234 121 90 from gf_at f363 (c121 hS) (s121 hS) rfl rfl, show FI361 121 73 = FI234 121 73 from gf_at f363 (c121 hS) (s121 hS) rfl rfl]; exact rl242
                          obtain ⟨x368, h369⟩ : ∃ y, FI361 121 69 = y := ⟨_, rfl⟩
                          have h369l := congrArg Int32.toInt h369
                          have := i_rng x368
                          show hw base _ _ _ _ _ [] _ _
                          refine hw_aloadn (aX12_location 67 rfl) rfl ?_
                          refine hw_get (v := .int (x368)) (aX12_location 68 rfl) wf_RX12_475 (c121 hS) (s121 hS) (by decide) (congrArg Value.int (show FI361 121 69 = x368 from h369)) ?_
                          refine hw_ifeq (tgt := 139) (aX12_location 69 rfl) (by decide) rfl (fun cd370 => ?_) (fun cd370 => ?_)
                          · omega
                          · refine xw_vret (aX12_location 70 rfl) rfl ?_
                            exact ⟨rfl, FI361, rfl, hI362, (gf_tr ex_rf (gf_tr ex_rf (gf_tr ex_rf fr163 f209 rfl rfl rfl) f236 rfl rfl rfl) f363 rfl rfl rfl), (by have := congrArg Int32.toInt (show FI361 121 67 = x4 from (gf_at f363 (c121 hS) (s121 hS) rfl ((gf_at f236 (c121 hS) (s121 hS) rfl ((gf_at f209 (c121 hS) (s121 hS) rfl (kp165))))))); have := congrArg Int32.toInt (show FI361 121 68 = x243 from (gf_at f363 (c121 hS) (s121 hS) rfl (h244))); omega), (by have := congrArg Int32.toInt (show FI361 121 68 = x243 from (gf_at f363 (c121 hS) (s121 hS) rfl (h244))); omega), (by have := congrArg Int32.toInt (show FI361 121 68 = x243 from (gf_at f363 (c121 hS) (s121 hS) rfl (h244))); have := congrArg Int32.toInt (show FI361 121 73 = x223 from (gf_at f363 (c121 hS) (s121 hS) rfl ((gf_at f236 (c121 hS) (s121 hS) rfl (h224))))); omega), (by have := congrArg Int32.toInt (show FI361 121 73 = x223 from (gf_at f363 (c121 hS) (s121 hS) rfl ((gf_at f236 (c121 hS) (s121 hS) rfl (h224))))); omega), (by have := congrArg Int32.toInt (show FI361 121 71 = x226 from (gf_at f363 (c121 hS) (s121 hS) rfl ((gf_at f236 (c121 hS) (s121 hS) rfl (h227))))); omega), (by have := congrArg Int32.toInt (show FI361 121 69 = x368 from h369); exact fun h => absurd h (by omega)), (by have := congrArg Int32.toInt (show FI361 121 69 = x368 from h369); exact fun h => absurd h (by omega)), (show rl_pm (FI361 121 90) (FI361 121 73) (FI361 166) (FI361 167) (FI361 168) from rl367)⟩
                    · refine hw_aloadn (aX12_location 50 rfl) rfl ?_
                      refine hw_ic (v := (1 : Int32)) (aX12_location 51 rfl) (by decide) ?_
                      refine hw_callV (Bs := [.int ((1 : Int32))]) (rest := []) (aX12_location 52 rfl) wc_RX12_487 (by decide) rfl wi_yX12_fail wv_yX12_fail (c121 hS) (s121 hS) rfl rfl rfl (Nat.le_of_ble_eq_true rfl) (Nat.le_of_ble_eq_true rfl) (n_fail (d := d + 7) hS hF hI235 ((1 : Int32)) (by have := ((by decide : (1 : Int32).toInt = 1) : ((1 : Int32)).toInt = 1); omega)) (fun v371 sv372 p373 => ?_)
                      obtain ⟨rfl, FI375, rfl, hI376, f377, t378⟩ := p373
                      have rl379 : rl_e (FI375 149) (FI375 121 67) := by rw [show FI375 149 = FI234 149 from gf_row f377 (c149 hS) (s149 hS) rfl rfl, show FI375 121 67 = FI234 121 67 from gf_at f377 (c121 hS) (s121 hS) rfl rfl]; exact rl240
                      have rl380 : rl_t (FI375 149) (FL 150) := by rw [show FI375 149 = FI234 149 from gf_row f377 (c149 hS) (s149 hS) rfl rfl]; exact rl241
                      have rl381 : rl_pm (FI375 121 90) (FI375 121 73) (FI375 166) (FI375 167) (FI375 168) := by rw [show FI375 166 = FI234 166 from gf_row f377 (c166 hS) (s166 hS) rfl rfl, show FI375 167 = FI234 167 from gf_row f377 (c167 hS) (s167 hS) rfl rfl, show FI375 168 = FI234 168 from gf_row f377 (c168 hS) (s168 hS) rfl rfl, show FI375 121 90 = FI234 121 90 from gf_at f377 (c121 hS) (s121 hS) rfl rfl, show FI375 121 73 = FI234 121 73 from gf_at f377 (c121 hS) (s121 hS) rfl rfl]; exact rl242
                      obtain ⟨x382, h383⟩ : ∃ y, FI375 121 69 = y := ⟨_, rfl⟩
                      have h383l := congrArg Int32.toInt h383
                      have := i_rng x382
                      show hw base _ _ _ _ _ [] _ _
                      refine hw_aloadn (aX12_location 53 rfl) rfl ?_
                      refine hw_get (v := .int (x382)) (aX12_location 54 rfl) wf_RX12_475 (c121 hS) (s121 hS) (by decide) (congrArg Value.int (show FI375 121 69 = x382 from h383)) ?_
                      refine hw_ifne (tgt := 131) (aX12_location 55 rfl) (by decide) rfl (fun cd384 => ?_) (fun cd384 => ?_)
                      · refine hw_aloadn (aX12_location 67 rfl) rfl ?_
                        refine hw_get (v := .int (x382)) (aX12_location 68 rfl) wf_RX12_475 (c121 hS) (s121 hS) (by decide) (congrArg Value.int (show FI375 121 69 = x382 from h383)) ?_
                        refine hw_ifeq (tgt := 139) (aX12_location 69 rfl) (by decide) rfl (fun cd385 => ?_) (fun cd385 => ?_)
                        · omega
                        · refine xw_vret (aX12_location 70 rfl) rfl ?_
                          exact ⟨rfl, FI375, rfl, hI376, (gf_tr ex_rf (gf_tr ex_rf (gf_tr ex_rf fr163 f209 rfl rfl rfl) f236 rfl rfl rfl) f377 rfl rfl rfl), (by have := congrArg Int32.toInt (show FI375 121 67 = x4 from (gf_at f377 (c121 hS) (s121 hS) rfl ((gf_at f236 (c121 hS) (s121 hS) rfl ((gf_at f209 (c121 hS) (s121 hS) rfl (kp165))))))); have := congrArg Int32.toInt (show FI375 121 68 = x243 from (gf_at f377 (c121 hS) (s121 hS) rfl (h244))); omega), (by have := congrArg Int32.toInt (show FI375 121 68 = x243 from (gf_at f377 (c121 hS) (s121 hS) rfl (h244))); omega), (by have := congrArg Int32.toInt (show FI375 121 68 = x243 from (gf_at f377 (c121 hS) (s121 hS) rfl (h244))); have := congrArg Int32.toInt (show FI375 121 73 = x223 from (gf_at f377 (c121 hS) (s121 hS) rfl ((gf_at f236 (c121 hS) (s121 hS) rfl (h224))))); omega), (by have := congrArg Int32.toInt (show FI375 121 73 = x223 from (gf_at f377 (c121 hS) (s121 hS) rfl ((gf_at f236 (c121 hS) (s121 hS) rfl (h224))))); omega), (by have := congrArg Int32.toInt (show FI375 121 71 = x226 from (gf_at f377 (c121 hS) (s121 hS) rfl ((gf_at f236 (c121 hS) (s121 hS) rfl (h227))))); omega), (by have := congrArg Int32.toInt (show FI375 121 69 = x382 from h383); exact fun h => absurd h (by omega)), (by have := congrArg Int32.toInt (show FI375 121 69 = x382 from h383); exact fun h => absurd h (by omega)), (show rl_pm (FI375 121 90) (FI375 121 73) (FI375 166) (FI375 167) (FI375 168) from rl381)⟩
                      · omega
                · omega
              · refine hw_aloadn (aX12_location 28 rfl) rfl ?_
                refine hw_bp (v := (6 : Int32)) (aX12_location 29 rfl) (by decide) ?_
                refine hw_callV (Bs := [.int ((6 : Int32))]) (rest := []) (aX12_location 30 rfl) wc_RX12_487 (by decide) rfl wi_yX12_fail wv_yX12_fail (c121 hS) (s121 hS) rfl rfl rfl (Nat.le_of_ble_eq_true rfl) (Nat.le_of_ble_eq_true rfl) (n_fail (d := d + 7) hS hF hI164 ((6 : Int32)) (by have := ((by decide : (6 : Int32).toInt = 6) : ((6 : Int32)).toInt = 6); omega)) (fun v386 sv387 p388 => ?_)
                obtain ⟨rfl, FI390, rfl, hI391, f392, t393⟩ := p388
                have rl394 : rl_e (FI390 149) (FI390 121 67) := by rw [show FI390 149 = FIv162 149 from gf_row f392 (c149 hS) (s149 hS) rfl rfl, show FI390 121 67 = FIv162 121 67 from gf_at f392 (c121 hS) (s121 hS) rfl rfl]; exact rl167
                have rl395 : rl_t (FI390 149) (FL 150) := by rw [show FI390 149 = FIv162 149 from gf_row f392 (c149 hS) (s149 hS) rfl rfl]; exact rl168
                have rl396 : rl_pm (FI390 121 90) (FI390 121 73) (FI390 166) (FI390 167) (FI390 168) := by rw [show FI390 166 = FIv162 166 from gf_row f392 (c166 hS) (s166 hS) rfl rfl, show FI390 167 = FIv162 167 from gf_row f392 (c167 hS) (s167 hS) rfl rfl, show FI390 168 = FIv162 168 from gf_row f392 (c168 hS) (s168 hS) rfl rfl, show FI390 121 90 = FIv162 121 90 from gf_at f392 (c121 hS) (s121 hS) rfl rfl, show FI390 121 73 = FIv162 121 73 from gf_at f392 (c121 hS) (s121 hS) rfl rfl]; exact rl169
                obtain ⟨x397, h398⟩ : ∃ y, FI390 121 69 = y := ⟨_, rfl⟩
                have h398l := congrArg Int32.toInt h398
                have := i_rng x397
                show hw base _ _ _ _ _ [] _ _
                refine hw_aloadn (aX12_location 31 rfl) rfl ?_
                refine hw_get (v := .int (x397)) (aX12_location 32 rfl) wf_RX12_475 (c121 hS) (s121 hS) (by decide) (congrArg Value.int (show FI390 121 69 = x397 from h398)) ?_
                refine hw_ifeq (tgt := 68) (aX12_location 33 rfl) (by decide) rfl (fun cd399 => ?_) (fun cd399 => ?_)
                · omega
                · refine xw_vret (aX12_location 34 rfl) rfl ?_
                  exact ⟨rfl, FI390, rfl, hI391, (gf_tr ex_rf fr163 f392 rfl rfl rfl), (by have := congrArg Int32.toInt (show FI390 121 67 = x4 from (gf_at f392 (c121 hS) (s121 hS) rfl (kp165))); have := congrArg Int32.toInt (show FI390 121 68 = x180 from (gf_at f392 (c121 hS) (s121 hS) rfl (h181))); omega), (by have := congrArg Int32.toInt (show FI390 121 68 = x180 from (gf_at f392 (c121 hS) (s121 hS) rfl (h181))); omega), (by have := congrArg Int32.toInt (show FI390 121 68 = x180 from (gf_at f392 (c121 hS) (s121 hS) rfl (h181))); have := congrArg Int32.toInt (show FI390 121 73 = x185 from (gf_at f392 (c121 hS) (s121 hS) rfl (h186))); omega), (by have := congrArg Int32.toInt (show FI390 121 73 = x185 from (gf_at f392 (c121 hS) (s121 hS) rfl (h186))); omega), (by have := congrArg Int32.toInt (show FI390 121 71 = x188 from (gf_at f392 (c121 hS) (s121 hS) rfl (h189))); omega), (by have := congrArg Int32.toInt (show FI390 121 69 = x397 from h398); exact fun h => absurd h (by omega)), (by have := congrArg Int32.toInt (show FI390 121 69 = x397 from h398); exact fun h => absurd h (by omega)), (show rl_pm (FI390 121 90) (FI390 121 73) (FI390 166) (FI390 167) (FI390 168) from rl396)⟩
            · clear t197
              refine hw_aloadn (aX12_location 21 rfl) rfl ?_
              refine hw_ic (v := (1 : Int32)) (aX12_location 22 rfl) (by decide) ?_
              refine hw_callV (Bs := [.int ((1 : Int32))]) (rest := []) (aX12_location 23 rfl) wc_RX12_487 (by decide) rfl wi_yX12_fail wv_yX12_fail (c121 hS) (s121 hS) rfl rfl rfl (Nat.le_of_ble_eq_true rfl) (Nat.le_of_ble_eq_true rfl) (n_fail (d := d + 7) hS hF hI164 ((1 : Int32)) (by have := ((by decide : (1 : Int32).toInt = 1) : ((1 : Int32)).toInt = 1); omega)) (fun v400 sv401 p402 => ?_)
              obtain ⟨rfl, FI404, rfl, hI405, f406, t407⟩ := p402
              have rl408 : rl_e (FI404 149) (FI404 121 67) := by rw [show FI404 149 = FIv162 149 from gf_row f406 (c149 hS) (s149 hS) rfl rfl, show FI404 121 67 = FIv162 121 67 from gf_at f406 (c121 hS) (s121 hS) rfl rfl]; exact rl167
              have rl409 : rl_t (FI404 149) (FL 150) := by rw [show FI404 149 = FIv162 149 from gf_row f406 (c149 hS) (s149 hS) rfl rfl]; exact rl168
              have rl410 : rl_pm (FI404 121 90) (FI404 121 73) (FI404 166) (FI404 167) (FI404 168) := by rw [show FI404 166 = FIv162 166 from gf_row f406 (c166 hS) (s166 hS) rfl rfl, show FI404 167 = FIv162 167 from gf_row f406 (c167 hS) (s167 hS) rfl rfl, show FI404 168 = FIv162 168 from gf_row f406 (c168 hS) (s168 hS) rfl rfl, show FI404 121 90 = FIv162 121 90 from gf_at f406 (c121 hS) (s121 hS) rfl rfl, show FI404 121 73 = FIv162 121 73 from gf_at f406 (c121 hS) (s121 hS) rfl rfl]; exact rl169
              obtain ⟨x411, h412⟩ : ∃ y, FI404 121 69 = y := ⟨_, rfl⟩
              have h412l := congrArg Int32.toInt h412
              have := i_rng x411
              show hw base _ _ _ _ _ [] _ _
              refine xw_goto (tgt := 60) (aX12_location 24 rfl) (by decide) ?_
              refine hw_aloadn (aX12_location 31 rfl) rfl ?_
              refine hw_get (v := .int (x411)) (aX12_location 32 rfl) wf_RX12_475 (c121 hS) (s121 hS) (by decide) (congrArg Value.int (show FI404 121 69 = x411 from h412)) ?_
              refine hw_ifeq (tgt := 68) (aX12_location 33 rfl) (by decide) rfl (fun cd413 => ?_) (fun cd413 => ?_)
              · omega
              · refine xw_vret (aX12_location 34 rfl) rfl ?_
                exact ⟨rfl, FI404, rfl, hI405, (gf_tr ex_rf fr163 f406 rfl rfl rfl), (by have := congrArg Int32.toInt (show FI404 121 67 = x4 from (gf_at f406 (c121 hS) (s121 hS) rfl (kp165))); have := congrArg Int32.toInt (show FI404 121 68 = x180 from (gf_at f406 (c121 hS) (s121 hS) rfl (h181))); omega), (by have := congrArg Int32.toInt (show FI404 121 68 = x180 from (gf_at f406 (c121 hS) (s121 hS) rfl (h181))); omega), (by have := congrArg Int32.toInt (show FI404 121 68 = x180 from (gf_at f406 (c121 hS) (s121 hS) rfl (h181))); have := congrArg Int32.toInt (show FI404 121 73 = x185 from (gf_at f406 (c121 hS) (s121 hS) rfl (h186))); omega), (by have := congrArg Int32.toInt (show FI404 121 73 = x185 from (gf_at f406 (c121 hS) (s121 hS) rfl (h186))); omega), (by have := congrArg Int32.toInt (show FI404 121 71 = x188 from (gf_at f406 (c121 hS) (s121 hS) rfl (h189))); omega), (by have := congrArg Int32.toInt (show FI404 121 69 = x411 from h412); exact fun h => absurd h (by omega)), (by have := congrArg Int32.toInt (show FI404 121 69 = x411 from h412); exact fun h => absurd h (by omega)), (show rl_pm (FI404 121 90) (FI404 121 73) (FI404 166) (FI404 167) (FI404 168) from rl410)⟩
        exact hw_L (lp179 ((1001 - (x114).toInt : Int).toNat + 1) ((0 : Int32)) FI105 (gf_tr ex_rf gf_rf f107 rfl rfl rfl) hI106 (show FI105 121 67 = x4 from (gf_at f107 (c121 hS) (s121 hS) rfl (h5))) (show FI105 121 78 = x14 from (gf_at f107 (c121 hS) (s121 hS) rfl (h15))) (show rl_e (FI105 149) (FI105 121 67) from rl111) (show rl_t (FI105 149) (FL 150) from rl112) (show rl_pm (FI105 121 90) (FI105 121 73) (FI105 166) (FI105 167) (FI105 168) from rl113) (by have := ((by decide : (0 : Int32).toInt = 0) : ((0 : Int32)).toInt = 0); omega) (by have := ((by decide : (0 : Int32).toInt = 0) : ((0 : Int32)).toInt = 0); have := congrArg Int32.toInt (show FI105 121 68 = x114 from h115); omega) (by have := ((by decide : (0 : Int32).toInt = 0) : ((0 : Int32)).toInt = 0); have := congrArg Int32.toInt (show FI105 121 69 = x119 from h120); omega) (by have := ((by decide : (0 : Int32).toInt = 0) : ((0 : Int32)).toInt = 0); have := congrArg Int32.toInt (show FI105 121 67 = x4 from (gf_at f107 (c121 hS) (s121 hS) rfl (h5))); have := congrArg Int32.toInt (show FI105 121 68 = x114 from h115); omega) (by have := ((by decide : (0 : Int32).toInt = 0) : ((0 : Int32)).toInt = 0); have := congrArg Int32.toInt (show FI105 121 68 = x114 from h115); omega) (by have := ((by decide : (0 : Int32).toInt = 0) : ((0 : Int32)).toInt = 0); have := congrArg Int32.toInt (show FI105 121 68 = x114 from h115); have := congrArg Int32.toInt (show FI105 121 73 = x9 from (gf_at f107 (c121 hS) (s121 hS) rfl (h10))); omega) (by have := ((by decide : (0 : Int32).toInt = 0) : ((0 : Int32)).toInt = 0); have := congrArg Int32.toInt (show FI105 121 73 = x9 from (gf_at f107 (c121 hS) (s121 hS) rfl (h10))); omega) (by have := ((by decide : (0 : Int32).toInt = 0) : ((0 : Int32)).toInt = 0); have := congrArg Int32.toInt (show FI105 121 71 = x117 from h118); omega) (show gr_pf (kf (FI 149)) (wf (FL 150)) (0 : Int).toNat ((FI 121 68).toInt.toNat + 1) ((FI105 121 68).toInt).toNat from (by have := ((by decide : (0 : Int32).toInt = 0) : ((0 : Int32)).toInt = 0); have := congrArg Int32.toInt (show FI105 121 68 = x114 from h115); exact (by rw [show ((FI105 121 68).toInt).toNat = (FI 121 68).toInt.toNat + 1 by omega, show (0 : Int).toNat = 0 by omega]; rfl))) (show FI105 149 = FI 149 from (gf_row f107 (c149 hS) (s149 hS) rfl (rfl))) (by have := ((by decide : (0 : Int32).toInt = 0) : ((0 : Int32)).toInt = 0); have := congrArg Int32.toInt (show FI105 121 68 = x114 from h115); omega)) ⟨rfl, rfl, rfl, trivial⟩
