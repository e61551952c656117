def nX12_location : Nat := 0xb154040302b42a9300b42a0d00a42c0111641bed01b42ae701b6042a0800a72002b62a0a00991d02b62a1600a7ea01b56404ea01b42a2a0f02b67d102a54ffa7de01b56004de01b42a2a61ff991d3ee401b62c102a3d60041cde01b56004de01b42a2a2502b62fde01b42a6c00b42a2af001b69300112ab1040099db01b42ae701b6062a08009e942302142fde01b42a6c00b42a18009adb01b42ae701b6042a08009f062ede01b42a6900b42a15009adb01b42a0f02b62f102a2002b62ab1040099db01b42ae701b606102a0900a008101c0f00a7e701b6042a0b009a1d02b62aa7009adb01b42aae00991d3e043d031a02b62acd0099e401b67b102a3ced01b42a
theorem bX12_location : cX12_location.data.toList.map UInt8.toNat = x_un nX12_location 258 := by decide +kernel
def iX12_location : List (Nat × Jvm.ClassFile.Instr × Nat) := [(0, .aload_n 0, 1), (1, .getfield 493, 3), (4, .istore_n 1, 1), (5, .aload_n 0, 1), (6, .bipush 123, 2), (8, .invokevirtual 484, 3), (11, .ifCond .eq 205, 3), (14, .aload_n 0, 1), (15, .invokevirtual 538, 3), (18, .iconst 0, 1), (19, .istore_n 2, 1), (20, .iconst 1, 1), (21, .istore_n 3, 1), (22, .iload_n 3, 1), (23, .ifCond .eq 174, 3), (26, .aload_n 0, 1), (27, .getfield 475, 3), (30, .ifCond .ne 167, 3), (33, .aload_n 0, 1), (34, .invokevirtual 541, 3), (37, .ifCond .ne 11, 3), (40, .aload_n 0, 1), (41, .iconst 1, 1), (42, .invokevirtual 487, 3), (45, .goto 15, 3), (48, .iload_n 2, 1), (49, .bipush 8, 2), (51, .if_icmp .ne 9, 3), (54, .aload_n 0, 1), (55, .bipush 6, 2), (57, .invokevirtual 487, 3), (60, .aload_n 0, 1), (61, .getfield 475, 3), (64, .ifCond .eq 4, 3), (67, .return_, 1), (68, .aload_n 0, 1), (69, .invokevirtual 544, 3), (72, .aload_n 0, 1), (73, .bipush 47, 2), (75, .invokevirtual 527, 3), (78, .aload_n 0, 1), (79, .getfield 475, 3), (82, .ifCond .ne 21, 3), (85, .aload_n 0, 1), (86, .getfield 105, 3), (89, .aload_n 0, 1), (90, .getfield 478, 3), (93, .iaload, 1), (94, .iconst 3, 1), (95, .if_icmp .eq 8, 3), (98, .aload_n 0, 1), (99, .iconst 1, 1), (100, .invokevirtual 487, 3), (103, .aload_n 0, 1), (104, .getfield 475, 3), (107, .ifCond .ne 24, 3), (110, .aload_n 0, 1), (111, .getfield 108, 3), (114, .aload_n 0, 1), (115, .getfield 478, 3), (118, .laload, 1), (119, .ldc2_w 547, 3), (122, .lcmp, 1), (123, .ifCond .le 8, 3), (126, .aload_n 0, 1), (127, .iconst 3, 1), (128, .invokevirtual 487, 3), (131, .aload_n 0, 1), (132, .getfield 475, 3), (135, .ifCond .eq 4, 3), (138, .return_, 1), (139, .aload_n 0, 1), (140, .sipush 147, 3), (143, .invokevirtual 496, 3), (146, .aload_n 0, 1), (147, .aload_n 0, 1), (148, .getfield 108, 3), (151, .aload_n 0, 1), (152, .getfield 478, 3), (155, .laload, 1), (156, .invokevirtual 549, 3), (159, .aload_n 0, 1), (160, .aload_n 0, 1), (161, .getfield 478, 3), (164, .iconst 1, 1), (165, .iadd, 1), (166, .putfield 478, 3), (169, .iload_n 2, 1), (170, .iconst 1, 1), (171, .iadd, 1), (172, .istore_n 2, 1), (173, .aload_n 0, 1), (174, .bipush 44, 2), (176, .invokevirtual 484, 3), (179, .istore_n 3, 1), (180, .iload_n 3, 1), (181, .ifCond .eq (-159), 3), (184, .aload_n 0, 1), (185, .aload_n 0, 1), (186, .getfield 478, 3), (189, .iconst 1, 1), (190, .iadd, 1), (191, .putfield 478, 3), (194, .goto (-172), 3), (197, .aload_n 0, 1), (198, .bipush 125, 2), (200, .invokevirtual 527, 3), (203, .aload_n 0, 1), (204, .aload_n 0, 1), (205, .getfield 490, 3), (208, .iconst 1, 1), (209, .isub, 1), (210, .putfield 490, 3), (213, .goto 22, 3), (216, .aload_n 0, 1), (217, .invokevirtual 541, 3), (220, .ifCond .eq 10, 3), (223, .aload_n 0, 1), (224, .invokevirtual 544, 3), (227, .goto 8, 3), (230, .aload_n 0, 1), (231, .iconst 1, 1), (232, .invokevirtual 487, 3), (235, .aload_n 0, 1), (236, .getfield 493, 3), (239, .iload_n 1, 1), (240, .isub, 1), (241, .sipush 300, 3), (244, .if_icmp .le 13, 3), (247, .aload_n 0, 1), (248, .getfield 147, 3), (251, .aload_n 0, 1), (252, .getfield 515, 3), (255, .iconst 1, 1), (256, .bastore, 1), (257, .return_, 1)]
theorem dX12_location : x_il nX12_location 258 iX12_location = true := by decide +kernel
theorem aX12_location (k : Nat) {pc : Nat} {i : Jvm.ClassFile.Instr} {len : Nat} (hk : iX12_location[k]? = some (pc, i, len)) : x_at xMM 229 pc i len yX12_location 4 none := ⟨cX12_location, rfl, x_il_ok bX12_location dX12_location k hk⟩
set_option maxHeartbeats 4000000 in
set_option maxRecDepth 100000 in
theorem n_location {zk : xK} {base d n sl : Nat} {SH : Nat → Nat × Nat} {FI : Nat → Nat → Int32} {FL : Nat → Nat → Int64} {FR : Nat → Nat → Option Nat} (hS : h_S n SH) (hF : h_FR FR) (hI : g_I FI) (g0 : (FI 121 68).toInt ≤ (FI 121 67).toInt - 1) (g1 : (FI 121 69).toInt = 0) (g2 : (FI 121 73).toInt ≤ 20 * (FI 121 68).toInt + 100) (g3 : (FI 121 71).toInt = 0) (g4 : (FI 121 78).toInt ≤ 11) (rel_tend : rl_e (FI 149) (FI 121 67)) (rel_tok : rl_t (FI 149) (FL 150)) (rel_wh : rl_w (FI 121 67) (FI 149) (FL 150) (FI 151)) : hw zk base (d + 8) none 229 0 [(0, .ref (base + 121))] [] (n, sl, SH, FI, FL, FR) (h_V (fun s => ∃ FI', s = (n, sl, SH, FI', FL, FR) ∧ g_I FI' ∧ g_fr n SH [(121, 68), (121, 69), (121, 70), (121, 71), (121, 73), (121, 90), (121, 91)] [154, 163, 164, 165, 166, 167, 168] [] FI FI' ∧ ((FI' 121 68).toInt ≤ (FI' 121 67).toInt - 1) ∧ ((FI 121 68).toInt ≤ (FI' 121 68).toInt) ∧ ((FI' 121 73).toInt ≤ (FI 121 73).toInt + 20 * ((FI' 121 68).toInt - (FI 121 68).toInt)) ∧ ((FI 121 73).toInt ≤ (FI' 121 73).toInt) ∧ (-900 ≤ (FI' 121 71).toInt ∧ (FI' 121 71).toInt ≤ 100) ∧ ((FI' 121 69).toInt = 0 → gr_loc (kf (FI 149)) (wf (FL 150)) (FI 121 68).toInt.toNat (FI' 121 68).toInt.toNat) ∧ ((FI' 121 69).toInt = 0 → (FI' 121 71).toInt = (FI 121 71).toInt) ∧ ((FI' 121 69).toInt = 0 → (FI' 121 73).toInt + 2 - 4 * wp (FI 151) (FI' 121 68) ≤ (FI 121 73).toInt - 4 * wp (FI 151) (FI 121 68)))) := by
  obtain ⟨x1, h2⟩ : ∃ y, FI 121 68 = y := ⟨_, rfl⟩
  have h2l := congrArg Int32.toInt h2
  have b3 := gI_121_68 hI; rw [h2] at b3
  obtain ⟨x4, h5⟩ : ∃ y, FI 121 67 = y := ⟨_, rfl⟩
  have h5l := congrArg Int32.toInt h5
  have b6 := gI_121_67 hI; rw [h5] at b6
  obtain ⟨x7, h8⟩ : ∃ y, FI 121 69 = y := ⟨_, rfl⟩
  have h8l := congrArg Int32.toInt h8
  have := i_rng x7
  obtain ⟨x9, h10⟩ : ∃ y, FI 121 73 = y := ⟨_, rfl⟩
  have h10l := congrArg Int32.toInt h10
  have b11 := gI_121_73 hI; rw [h10] at b11
  obtain ⟨x12, h13⟩ : ∃ y, FI 121 71 = y := ⟨_, rfl⟩
  have h13l := congrArg Int32.toInt h13
  have := i_rng x12
  obtain ⟨x14, h15⟩ : ∃ y, FI 121 78 = y := ⟨_, rfl⟩
  have h15l := congrArg Int32.toInt h15
  have b16 := gI_121_78 hI; rw [h15] at b16
  have e17 : 0 ≤ (x12).toInt ∧ (x12).toInt ≤ 0 := by omega
  have e18 : 0 ≤ (x7).toInt ∧ (x7).toInt ≤ 0 := by omega
  refine hw_aloadn (aX12_location 0 rfl) rfl ?_
  refine hw_get (v := .int (x9)) (aX12_location 1 rfl) wf_RX12_493 (c121 hS) (s121 hS) (by decide) (congrArg Value.int (show FI 121 73 = x9 from h10)) ?_
  refine xw_istoren (L2 := [(1, .int (x9)), (0, .ref (base + 121))]) (aX12_location 2 rfl) (by decide) rfl ?_
  refine hw_aloadn (aX12_location 3 rfl) rfl ?_
  refine hw_bp (v := (123 : Int32)) (aX12_location 4 rfl) (by decide) ?_
  refine hw_callV (Bs := [.int ((123 : Int32))]) (rest := []) (aX12_location 5 rfl) wc_RX12_484 (by decide) rfl wi_yX12_isSign wv_yX12_isSign (c121 hS) (s121 hS) rfl rfl rfl (Nat.le_of_ble_eq_true rfl) (Nat.le_of_ble_eq_true rfl) (n_isSign (d := d + 7) hS hF hI ((123 : Int32)) (by have := congrArg Int32.toInt (show FI 121 68 = x1 from h2); have := congrArg Int32.toInt (show FI 121 67 = x4 from h5); omega) (show rl_e (FI 149) (FI 121 67) from rel_tend)) (fun v19 sv20 p21 => ?_)
  have := congrArg Int32.toInt (show FI 121 68 = x1 from h2)
  have := congrArg Int32.toInt (show FI 121 67 = x4 from h5)
  obtain ⟨r22, rfl, rfl, t24, t25, u26⟩ := p21
  show hw zk base _ _ _ _ _ [.int (r22)] _ _
  refine hw_ifeq (tgt := 216) (aX12_location 6 rfl) (by decide) rfl (fun cd27 => ?_) (fun cd27 => ?_)
  · clear t24
    have hncu : ¬ gr_cu (kf (FI 149)) (wf (FL 150)) (FI 121 68).toInt.toNat := fun h => absurd (u26.mpr (by rw [show ((123 : Int32)).toInt = (123 : Int) from by decide]; exact h)) (by omega)
    refine hw_aloadn (aX12_location 114 rfl) rfl ?_
    refine hw_callV (Bs := []) (rest := []) (aX12_location 115 rfl) wc_RX12_541 (by decide) rfl wi_yX12_isPlace wv_yX12_isPlace (c121 hS) (s121 hS) rfl rfl rfl (Nat.le_of_ble_eq_true rfl) (Nat.le_of_ble_eq_true rfl) (n_isPlace (d := d + 6) hS hF hI (by have := congrArg Int32.toInt (show FI 121 68 = x1 from h2); have := congrArg Int32.toInt (show FI 121 67 = x4 from h5); omega) (show rl_e (FI 149) (FI 121 67) from rel_tend)) (fun v28 sv29 p30 => ?_)
    have := congrArg Int32.toInt (show FI 121 68 = x1 from h2)
    have := congrArg Int32.toInt (show FI 121 67 = x4 from h5)
    obtain ⟨r31, rfl, rfl, t33, t34, u35⟩ := p30
    show hw zk base _ _ _ _ _ [.int (r31)] _ _
    refine hw_ifeq (tgt := 230) (aX12_location 116 rfl) (by decide) rfl (fun cd36 => ?_) (fun cd36 => ?_)
    · clear t33
      refine hw_aloadn (aX12_location 120 rfl) rfl ?_
      refine hw_ic (v := (1 : Int32)) (aX12_location 121 rfl) (by decide) ?_
      refine hw_callV (Bs := [.int ((1 : Int32))]) (rest := []) (aX12_location 122 rfl) wc_RX12_487 (by decide) rfl wi_yX12_fail wv_yX12_fail (c121 hS) (s121 hS) rfl rfl rfl (Nat.le_of_ble_eq_true rfl) (Nat.le_of_ble_eq_true rfl) (n_fail (d := d + 7) hS hF hI ((1 : Int32)) (by have := ((by decide : (1 : Int32).toInt = 1) : ((1 : Int32)).toInt = 1); omega)) (fun v37 sv38 p39 => ?_)
      obtain ⟨rfl, FI41, rfl, hI42, f43, t44⟩ := p39
      have rl45 : rl_e (FI41 149) (FI41 121 67) := by rw [show FI41 149 = FI 149 from gf_row f43 (c149 hS) (s149 hS) rfl rfl, show FI41 121 67 = FI 121 67 from gf_at f43 (c121 hS) (s121 hS) rfl rfl]; exact rel_tend
      have rl46 : rl_t (FI41 149) (FL 150) := by rw [show FI41 149 = FI 149 from gf_row f43 (c149 hS) (s149 hS) rfl rfl]; exact rel_tok
      have rl47 : rl_w (FI41 121 67) (FI41 149) (FL 150) (FI41 151) := by rw [show FI41 149 = FI 149 from gf_row f43 (c149 hS) (s149 hS) rfl rfl, show FI41 151 = FI 151 from gf_row f43 (c151 hS) (s151 hS) rfl rfl, show FI41 121 67 = FI 121 67 from gf_at f43 (c121 hS) (s121 hS) rfl rfl]; exact rel_wh
      obtain ⟨x48, h49⟩ : ∃ y, FI41 121 69 = y := ⟨_, rfl⟩
      have h49l := congrArg Int32.toInt h49
      have := i_rng x48
      show hw zk base _ _ _ _ _ [] _ _
      refine hw_aloadn (aX12_location 123 rfl) rfl ?_
      refine hw_get (v := .int (x9)) (aX12_location 124 rfl) wf_RX12_493 (c121 hS) (s121 hS) (by decide) (congrArg Value.int (show FI41 121 73 = x9 from (gf_at f43 (c121 hS) (s121 hS) rfl (h10)))) ?_
      refine xw_iloadn (aX12_location 125 rfl) rfl ?_
      refine xw_isub (aX12_location 126 rfl) ?_
      refine hw_tie (A := ((x9).toInt) - ((x9).toInt)) (i_sub rfl rfl (by omega) (by omega)) (fun x50 e51 => ?_)
      refine hw_sp (v := (300 : Int32)) (aX12_location 127 rfl) (by decide) ?_
      refine hw_icle (tgt := 257) (aX12_location 128 rfl) (by decide) e51 (by decide : (300 : Int32).toInt = 300) (fun cd52 => ?_) (fun cd52 => ?_)
      · refine xw_vret (aX12_location 135 rfl) rfl ?_
        exact ⟨rfl, FI41, rfl, hI42, (gf_tr ex_rf gf_rf f43 rfl rfl rfl), (by have := congrArg Int32.toInt (show FI41 121 67 = x4 from (gf_at f43 (c121 hS) (s121 hS) rfl (h5))); have := congrArg Int32.toInt (show FI41 121 68 = x1 from (gf_at f43 (c121 hS) (s121 hS) rfl (h2))); omega), (by have := congrArg Int32.toInt (show FI41 121 68 = x1 from (gf_at f43 (c121 hS) (s121 hS) rfl (h2))); omega), (by have := congrArg Int32.toInt (show FI41 121 68 = x1 from (gf_at f43 (c121 hS) (s121 hS) rfl (h2))); have := congrArg Int32.toInt (show FI41 121 73 = x9 from (gf_at f43 (c121 hS) (s121 hS) rfl (h10))); omega), (by have := congrArg Int32.toInt (show FI41 121 73 = x9 from (gf_at f43 (c121 hS) (s121 hS) rfl (h10))); omega), (by have := congrArg Int32.toInt (show FI41 121 71 = x12 from (gf_at f43 (c121 hS) (s121 hS) rfl (h13))); omega), (by have := congrArg Int32.toInt (show FI41 121 69 = x48 from h49); exact fun h => absurd h (by omega)), (by have := congrArg Int32.toInt (show FI41 121 69 = x48 from h49); exact fun h => absurd h (by omega)), (by have := congrArg Int32.toInt (show FI41 121 69 = x48 from h49); exact fun h => absurd h (by omega))⟩
      · refine hw_aloadn (aX12_location 129 rfl) rfl ?_
        refine hw_get (v := .ref (base + 163)) (aX12_location 130 rfl) wf_RX12_147 (c121 hS) (s121 hS) (by decide) (congrArg (fun r => va_rf (h_rf base r)) (r121_84 hF)) ?_
        refine hw_aloadn (aX12_location 131 rfl) rfl ?_
        refine hw_get (v := .int (x14)) (aX12_location 132 rfl) wf_RX12_515 (c121 hS) (s121 hS) (by decide) (congrArg Value.int (show FI41 121 78 = x14 from (gf_at f43 (c121 hS) (s121 hS) rfl (h15)))) ?_
        refine hw_ic (v := (1 : Int32)) (aX12_location 133 rfl) (by decide) ?_
        refine hv_zast (w := (1 : Int32)) (k := (x14).toNatClampNeg) (aX12_location 134 rfl) (c163 hS) (s163 hS) (h_in rfl (by omega) (by omega)) rfl (by decide) (fun FI53 u54 => ?_)
        have rl58 : rl_e (FI53 149) (FI53 121 67) := by rw [show FI53 149 = FI41 149 from up_row u54 (by decide) rfl, show FI53 121 67 = FI41 121 67 from up_c u54 (by decide) rfl]; exact rl45
        have rl59 : rl_t (FI53 149) (FL 150) := by rw [show FI53 149 = FI41 149 from up_row u54 (by decide) rfl]; exact rl46
        have rl60 : rl_w (FI53 121 67) (FI53 149) (FL 150) (FI53 151) := by rw [show FI53 149 = FI41 149 from up_row u54 (by decide) rfl, show FI53 151 = FI41 151 from up_row u54 (by decide) rfl, show FI53 121 67 = FI41 121 67 from up_c u54 (by decide) rfl]; exact rl47
        have hI61 : g_I FI53 := gU_163 hI42 u54 (by have := ((by decide : (1 : Int32).toInt = 1) : ((1 : Int32)).toInt = 1); omega) (by have := ((by decide : (1 : Int32).toInt = 1) : ((1 : Int32)).toInt = 1); omega)
        refine xw_vret (aX12_location 135 rfl) rfl ?_
        exact ⟨rfl, FI53, rfl, hI61, (gf_a (gf_tr ex_rf gf_rf f43 rfl rfl rfl) u54 (by decide)), (by have := congrArg Int32.toInt (show FI53 121 67 = x4 from (up_c u54 (by decide) ((gf_at f43 (c121 hS) (s121 hS) rfl (h5))))); have := congrArg Int32.toInt (show FI53 121 68 = x1 from (up_c u54 (by decide) ((gf_at f43 (c121 hS) (s121 hS) rfl (h2))))); omega), (by have := congrArg Int32.toInt (show FI53 121 68 = x1 from (up_c u54 (by decide) ((gf_at f43 (c121 hS) (s121 hS) rfl (h2))))); omega), (by have := congrArg Int32.toInt (show FI53 121 68 = x1 from (up_c u54 (by decide) ((gf_at f43 (c121 hS) (s121 hS) rfl (h2))))); have := congrArg Int32.toInt (show FI53 121 73 = x9 from (up_c u54 (by decide) ((gf_at f43 (c121 hS) (s121 hS) rfl (h10))))); omega), (by have := congrArg Int32.toInt (show FI53 121 73 = x9 from (up_c u54 (by decide) ((gf_at f43 (c121 hS) (s121 hS) rfl (h10))))); omega), (by have := congrArg Int32.toInt (show FI53 121 71 = x12 from (up_c u54 (by decide) ((gf_at f43 (c121 hS) (s121 hS) rfl (h13))))); omega), (by have := congrArg Int32.toInt (show FI53 121 69 = x48 from (up_c u54 (by decide) (h49))); exact fun h => absurd h (by omega)), (by have := congrArg Int32.toInt (show FI53 121 69 = x48 from (up_c u54 (by decide) (h49))); exact fun h => absurd h (by omega)), (by have := congrArg Int32.toInt (show FI53 121 69 = x48 from (up_c u54 (by decide) (h49))); exact fun h => absurd h (by omega))⟩
    · replace t33 := t33 (by omega)
      have hisp := u35.mp (by omega)
      refine hw_aloadn (aX12_location 117 rfl) rfl ?_
      have := congrArg Int32.toInt (show FI 121 68 = x1 from h2)
      have := congrArg Int32.toInt (show FI 121 69 = x7 from h8)
      have := congrArg Int32.toInt (show FI 121 71 = x12 from h13)
      have := congrArg Int32.toInt (show FI 121 73 = x9 from h10)
      refine hw_callV (Bs := []) (rest := []) (aX12_location 118 rfl) wc_RX12_544 (by decide) rfl wi_yX12_place wv_yX12_place (c121 hS) (s121 hS) rfl rfl rfl (Nat.le_of_ble_eq_true rfl) (Nat.le_of_ble_eq_true rfl) (n_place (d := d) hS hF hI (by have := congrArg Int32.toInt (show FI 121 68 = x1 from h2); have := congrArg Int32.toInt (show FI 121 67 = x4 from h5); omega) (by have := congrArg Int32.toInt (show FI 121 69 = x7 from h8); omega) (by have := congrArg Int32.toInt (show FI 121 73 = x9 from h10); have := congrArg Int32.toInt (show FI 121 68 = x1 from h2); omega) (by have := congrArg Int32.toInt (show FI 121 71 = x12 from h13); have := congrArg Int32.toInt (show FI 121 71 = x12 from h13); omega) (hisp) (show rl_e (FI 149) (FI 121 67) from rel_tend) (show rl_t (FI 149) (FL 150) from rel_tok) (show rl_w (FI 121 67) (FI 149) (FL 150) (FI 151) from rel_wh)) (fun v62 sv63 p64 => ?_)
      have := congrArg Int32.toInt (show FI 121 68 = x1 from h2)
      have := congrArg Int32.toInt (show FI 121 73 = x9 from h10)
      have := congrArg Int32.toInt (show FI 121 68 = x1 from h2)
      have := congrArg Int32.toInt (show FI 121 73 = x9 from h10)
      obtain ⟨rfl, FI66, rfl, hI67, f68, t69, t70, t71, t72, t73, u74, u75, u76⟩ := p64
      have rl77 : rl_e (FI66 149) (FI66 121 67) := by rw [show FI66 149 = FI 149 from gf_row f68 (c149 hS) (s149 hS) rfl rfl, show FI66 121 67 = FI 121 67 from gf_at f68 (c121 hS) (s121 hS) rfl rfl]; exact rel_tend
      have rl78 : rl_t (FI66 149) (FL 150) := by rw [show FI66 149 = FI 149 from gf_row f68 (c149 hS) (s149 hS) rfl rfl]; exact rel_tok
      have rl79 : rl_w (FI66 121 67) (FI66 149) (FL 150) (FI66 151) := by rw [show FI66 149 = FI 149 from gf_row f68 (c149 hS) (s149 hS) rfl rfl, show FI66 151 = FI 151 from gf_row f68 (c151 hS) (s151 hS) rfl rfl, show FI66 121 67 = FI 121 67 from gf_at f68 (c121 hS) (s121 hS) rfl rfl]; exact rel_wh
      obtain ⟨x80, h81⟩ : ∃ y, FI66 121 68 = y := ⟨_, rfl⟩
      have h81l := congrArg Int32.toInt h81
      have b82 := gI_121_68 hI67; rw [h81] at b82
      have := congrArg Int32.toInt (show FI66 121 67 = x4 from (gf_at f68 (c121 hS) (s121 hS) rfl (h5)))
      obtain ⟨x83, h84⟩ : ∃ y, FI66 121 73 = y := ⟨_, rfl⟩
      have h84l := congrArg Int32.toInt h84
      have b85 := gI_121_73 hI67; rw [h84] at b85
      obtain ⟨x86, h87⟩ : ∃ y, FI66 121 71 = y := ⟨_, rfl⟩
      have h87l := congrArg Int32.toInt h87
      have := i_rng x86
      show hw zk base _ _ _ _ _ [] _ _
      have hgp := u74; rw [show FI 149 = FI 149 from rfl] at hgp
      have ho71 := u75
      obtain ⟨x88, h89⟩ : ∃ y, FI66 121 69 = y := ⟨_, rfl⟩
      have h89l := congrArg Int32.toInt h89
      have := i_rng x88
      have := congrArg Int32.toInt (show FI66 121 69 = x88 from h89)
      have := congrArg Int32.toInt (show FI66 121 68 = x80 from h81)
      have := congrArg Int32.toInt (show FI66 121 71 = x86 from h87)
      have := congrArg Int32.toInt (show FI66 121 73 = x83 from h84)
      have hpw := u76; rw [show FI 151 = FI 151 from rfl] at hpw; clear u76
      have hsh : hid ((FI66 121 69).toInt = 0 → (FI66 121 73).toInt + 2 - 4 * wp (FI 151) (FI66 121 68) ≤ (FI 121 73).toInt - 4 * wp (FI 151) (FI 121 68)) := hid_i hpw; clear hpw
      refine xw_goto (tgt := 235) (aX12_location 119 rfl) (by decide) ?_
      refine hw_aloadn (aX12_location 123 rfl) rfl ?_
      refine hw_get (v := .int (x83)) (aX12_location 124 rfl) wf_RX12_493 (c121 hS) (s121 hS) (by decide) (congrArg Value.int (show FI66 121 73 = x83 from h84)) ?_
      refine xw_iloadn (aX12_location 125 rfl) rfl ?_
      refine xw_isub (aX12_location 126 rfl) ?_
      refine hw_tie (A := ((x83).toInt) - ((x9).toInt)) (i_sub rfl rfl (by omega) (by omega)) (fun x90 e91 => ?_)
      refine hw_sp (v := (300 : Int32)) (aX12_location 127 rfl) (by decide) ?_
      refine hw_icle (tgt := 257) (aX12_location 128 rfl) (by decide) e91 (by decide : (300 : Int32).toInt = 300) (fun cd92 => ?_) (fun cd92 => ?_)
      · refine xw_vret (aX12_location 135 rfl) rfl ?_
        exact ⟨rfl, FI66, rfl, hI67, (gf_tr ex_rf gf_rf f68 rfl rfl rfl), (by have := congrArg Int32.toInt (show FI66 121 67 = x4 from (gf_at f68 (c121 hS) (s121 hS) rfl (h5))); have := congrArg Int32.toInt (show FI66 121 68 = x80 from h81); omega), (by have := congrArg Int32.toInt (show FI66 121 68 = x80 from h81); omega), (by have := congrArg Int32.toInt (show FI66 121 68 = x80 from h81); have := congrArg Int32.toInt (show FI66 121 73 = x83 from h84); omega), (by have := congrArg Int32.toInt (show FI66 121 73 = x83 from h84); omega), (by have := congrArg Int32.toInt (show FI66 121 71 = x86 from h87); omega), (by have := congrArg Int32.toInt (show FI66 121 68 = x80 from h81); have := congrArg Int32.toInt (show FI66 121 69 = x88 from h89); intro h69; have hg := hgp (by omega); rw [show FI 121 68 = FI 121 68 from (h2).trans (h2).symm] at hg; rw [show FI66 121 68 = FI66 121 68 from (h81).trans (h81).symm]; exact Or.inl ⟨hncu, hg⟩), (by have := congrArg Int32.toInt (show FI66 121 69 = x88 from h89); have := congrArg Int32.toInt (show FI66 121 71 = x86 from h87); intro h69; have := ho71 (by omega); omega), (by have := congrArg Int32.toInt (show FI66 121 68 = x80 from h81); have := congrArg Int32.toInt (show FI66 121 69 = x88 from h89); have := congrArg Int32.toInt (show FI66 121 73 = x83 from h84); intro h69; have := hid_e hsh (by omega); have := wp_nc rel_wh (t := FI66 121 68) (u := FI66 121 68) (by omega); omega)⟩
      · refine hw_aloadn (aX12_location 129 rfl) rfl ?_
        refine hw_get (v := .ref (base + 163)) (aX12_location 130 rfl) wf_RX12_147 (c121 hS) (s121 hS) (by decide) (congrArg (fun r => va_rf (h_rf base r)) (r121_84 hF)) ?_
        refine hw_aloadn (aX12_location 131 rfl) rfl ?_
        refine hw_get (v := .int (x14)) (aX12_location 132 rfl) wf_RX12_515 (c121 hS) (s121 hS) (by decide) (congrArg Value.int (show FI66 121 78 = x14 from (gf_at f68 (c121 hS) (s121 hS) rfl (h15)))) ?_
        refine hw_ic (v := (1 : Int32)) (aX12_location 133 rfl) (by decide) ?_
        refine hv_zast (w := (1 : Int32)) (k := (x14).toNatClampNeg) (aX12_location 134 rfl) (c163 hS) (s163 hS) (h_in rfl (by omega) (by omega)) rfl (by decide) (fun FI93 u94 => ?_)
        have rl98 : rl_e (FI93 149) (FI93 121 67) := by rw [show FI93 149 = FI66 149 from up_row u94 (by decide) rfl, show FI93 121 67 = FI66 121 67 from up_c u94 (by decide) rfl]; exact rl77
        have rl99 : rl_t (FI93 149) (FL 150) := by rw [show FI93 149 = FI66 149 from up_row u94 (by decide) rfl]; exact rl78
        have rl100 : rl_w (FI93 121 67) (FI93 149) (FL 150) (FI93 151) := by rw [show FI93 149 = FI66 149 from up_row u94 (by decide) rfl, show FI93 151 = FI66 151 from up_row u94 (by decide) rfl, show FI93 121 67 = FI66 121 67 from up_c u94 (by decide) rfl]; exact rl79
        have hI101 : g_I FI93 := gU_163 hI67 u94 (by have := ((by decide : (1 : Int32).toInt = 1) : ((1 : Int32)).toInt = 1); omega) (by have := ((by decide : (1 : Int32).toInt = 1) : ((1 : Int32)).toInt = 1); omega)
        refine xw_vret (aX12_location 135 rfl) rfl ?_
        exact ⟨rfl, FI93, rfl, hI101, (gf_a (gf_tr ex_rf gf_rf f68 rfl rfl rfl) u94 (by decide)), (by have := congrArg Int32.toInt (show FI93 121 67 = x4 from (up_c u94 (by decide) ((gf_at f68 (c121 hS) (s121 hS) rfl (h5))))); have := congrArg Int32.toInt (show FI93 121 68 = x80 from (up_c u94 (by decide) (h81))); omega), (by have := congrArg Int32.toInt (show FI93 121 68 = x80 from (up_c u94 (by decide) (h81))); omega), (by have := congrArg Int32.toInt (show FI93 121 68 = x80 from (up_c u94 (by decide) (h81))); have := congrArg Int32.toInt (show FI93 121 73 = x83 from (up_c u94 (by decide) (h84))); omega), (by have := congrArg Int32.toInt (show FI93 121 73 = x83 from (up_c u94 (by decide) (h84))); omega), (by have := congrArg Int32.toInt (show FI93 121 71 = x86 from (up_c u94 (by decide) (h87))); omega), (by have := congrArg Int32.toInt (show FI93 121 68 = x80 from (up_c u94 (by decide) (h81))); have := congrArg Int32.toInt (show FI93 121 69 = x88 from (up_c u94 (by decide) (h89))); intro h69; have hg := hgp (by omega); rw [show FI 121 68 = FI 121 68 from (h2).trans (h2).symm] at hg; rw [show FI93 121 68 = FI66 121 68 from ((up_c u94 (by decide) (h81))).trans (h81).symm]; exact Or.inl ⟨hncu, hg⟩), (by have := congrArg Int32.toInt (show FI93 121 69 = x88 from (up_c u94 (by decide) (h89))); have := congrArg Int32.toInt (show FI93 121 71 = x86 from (up_c u94 (by decide) (h87))); intro h69; have := ho71 (by omega); omega), (by have := congrArg Int32.toInt (show FI93 121 68 = x80 from (up_c u94 (by decide) (h81))); have := congrArg Int32.toInt (show FI93 121 69 = x88 from (up_c u94 (by decide) (h89))); have := congrArg Int32.toInt (show FI93 121 73 = x83 from (up_c u94 (by decide) (h84))); intro h69; have := hid_e hsh (by omega); have := wp_nc rel_wh (t := FI66 121 68) (u := FI93 121 68) (by omega); omega)⟩
  · replace t24 := t24 (by omega)
    have hcu := u26.mp (by omega); rw [show ((123 : Int32)).toInt = (123 : Int) from by decide] at hcu
    refine hw_aloadn (aX12_location 7 rfl) rfl ?_
    refine hw_callV (Bs := []) (rest := []) (aX12_location 8 rfl) wc_RX12_538 (by decide) rfl wi_yX12_opens wv_yX12_opens (c121 hS) (s121 hS) rfl rfl rfl (Nat.le_of_ble_eq_true rfl) (Nat.le_of_ble_eq_true rfl) (n_opens (d := d + 6) hS hF hI (by have := congrArg Int32.toInt (show FI 121 68 = x1 from h2); have := congrArg Int32.toInt (show FI 121 67 = x4 from h5); omega) (by have := congrArg Int32.toInt (show FI 121 71 = x12 from h13); have := congrArg Int32.toInt (show FI 121 71 = x12 from h13); omega)) (fun v102 sv103 p104 => ?_)
    have := congrArg Int32.toInt (show FI 121 68 = x1 from h2)
    have := congrArg Int32.toInt (show FI 121 71 = x12 from h13)
    have := congrArg Int32.toInt (show FI 121 71 = x12 from h13)
    have := congrArg Int32.toInt (show FI 121 69 = x7 from h8)
    obtain ⟨rfl, FI106, rfl, hI107, f108, t109, t110, t111⟩ := p104
    have rl112 : rl_e (FI106 149) (FI106 121 67) := by rw [show FI106 149 = FI 149 from gf_row f108 (c149 hS) (s149 hS) rfl rfl, show FI106 121 67 = FI 121 67 from gf_at f108 (c121 hS) (s121 hS) rfl rfl]; exact rel_tend
    have rl113 : rl_t (FI106 149) (FL 150) := by rw [show FI106 149 = FI 149 from gf_row f108 (c149 hS) (s149 hS) rfl rfl]; exact rel_tok
    have rl114 : rl_w (FI106 121 67) (FI106 149) (FL 150) (FI106 151) := by rw [show FI106 149 = FI 149 from gf_row f108 (c149 hS) (s149 hS) rfl rfl, show FI106 151 = FI 151 from gf_row f108 (c151 hS) (s151 hS) rfl rfl, show FI106 121 67 = FI 121 67 from gf_at f108 (c121 hS) (s121 hS) rfl rfl]; exact rel_wh
    obtain ⟨x115, h116⟩ : ∃ y, FI106 121 68 = y := ⟨_, rfl⟩
    have h116l := congrArg Int32.toInt h116
    have b117 := gI_121_68 hI107; rw [h116] at b117
    obtain ⟨x118, h119⟩ : ∃ y, FI106 121 71 = y := ⟨_, rfl⟩
    have h119l := congrArg Int32.toInt h119
    have := i_rng x118
    obtain ⟨x120, h121⟩ : ∃ y, FI106 121 69 = y := ⟨_, rfl⟩
    have h121l := congrArg Int32.toInt h121
    have := i_rng x120
    show hw zk base _ _ _ _ _ [] _ _
    have e122 : 0 ≤ (x118).toInt ∧ (x118).toInt ≤ 100 := by omega
    refine hw_ic (v := (0 : Int32)) (aX12_location 9 rfl) (by decide) ?_
    refine xw_istoren (L2 := [(2, .int ((0 : Int32))), (1, .int (x9)), (0, .ref (base + 121))]) (aX12_location 10 rfl) (by decide) rfl ?_
    refine hw_ic (v := (1 : Int32)) (aX12_location 11 rfl) (by decide) ?_
    refine xw_istoren (L2 := [(3, .int ((1 : Int32))), (2, .int ((0 : Int32))), (1, .int (x9)), (0, .ref (base + 121))]) (aX12_location 12 rfl) (by decide) rfl ?_
    refine xw_iloadn (aX12_location 13 rfl) rfl ?_
    refine hw_ifeq (tgt := 197) (aX12_location 14 rfl) (by decide) (by decide : (1 : Int32).toInt = 1) (fun cd123 => ?_) (fun cd123 => ?_)
    · omega
    · refine hw_aloadn (aX12_location 15 rfl) rfl ?_
      refine hw_get (v := .int (x120)) (aX12_location 16 rfl) wf_RX12_475 (c121 hS) (s121 hS) (by decide) (congrArg Value.int (show FI106 121 69 = x120 from h121)) ?_
      refine hw_ifne (tgt := 197) (aX12_location 17 rfl) (by decide) rfl (fun cd124 => ?_) (fun cd124 => ?_)
      · refine hw_aloadn (aX12_location 104 rfl) rfl ?_
        refine hw_bp (v := (125 : Int32)) (aX12_location 105 rfl) (by decide) ?_
        refine hw_callV (Bs := [.int ((125 : Int32))]) (rest := []) (aX12_location 106 rfl) wc_RX12_527 (by decide) rfl wi_yX12_need wv_yX12_need (c121 hS) (s121 hS) rfl rfl rfl (Nat.le_of_ble_eq_true rfl) (Nat.le_of_ble_eq_true rfl) (n_need (d := d + 6) hS hF hI107 ((125 : Int32)) (by have := congrArg Int32.toInt (show FI106 121 68 = x115 from h116); have := congrArg Int32.toInt (show FI106 121 67 = x4 from (gf_at f108 (c121 hS) (s121 hS) rfl (h5))); omega) (show rl_e (FI106 149) (FI106 121 67) from rl112)) (fun v125 sv126 p127 => ?_)
        have := congrArg Int32.toInt (show FI106 121 68 = x115 from h116)
        have := congrArg Int32.toInt (show FI106 121 69 = x120 from h121)
        have := congrArg Int32.toInt (show FI106 121 68 = x115 from h116)
        have := congrArg Int32.toInt (show FI106 121 68 = x115 from h116)
        obtain ⟨rfl, FI129, rfl, hI130, f131, t132, t133, t134, u135⟩ := p127
        have rl136 : rl_e (FI129 149) (FI129 121 67) := by rw [show FI129 149 = FI106 149 from gf_row f131 (c149 hS) (s149 hS) rfl rfl, show FI129 121 67 = FI106 121 67 from gf_at f131 (c121 hS) (s121 hS) rfl rfl]; exact rl112
        have rl137 : rl_t (FI129 149) (FL 150) := by rw [show FI129 149 = FI106 149 from gf_row f131 (c149 hS) (s149 hS) rfl rfl]; exact rl113
        have rl138 : rl_w (FI129 121 67) (FI129 149) (FL 150) (FI129 151) := by rw [show FI129 149 = FI106 149 from gf_row f131 (c149 hS) (s149 hS) rfl rfl, show FI129 151 = FI106 151 from gf_row f131 (c151 hS) (s151 hS) rfl rfl, show FI129 121 67 = FI106 121 67 from gf_at f131 (c121 hS) (s121 hS) rfl rfl]; exact rl114
        obtain ⟨x139, h140⟩ : ∃ y, FI129 121 68 = y := ⟨_, rfl⟩
        have h140l := congrArg Int32.toInt h140
        have b141 := gI_121_68 hI130; rw [h140] at b141
        have := congrArg Int32.toInt (show FI129 121 67 = x4 from (gf_at f131 (c121 hS) (s121 hS) rfl ((gf_at f108 (c121 hS) (s121 hS) rfl (h5)))))
        obtain ⟨x142, h143⟩ : ∃ y, FI129 121 69 = y := ⟨_, rfl⟩
        have h143l := congrArg Int32.toInt h143
        have := i_rng x142
        show hw zk base _ _ _ _ _ [] _ _
        clear u135
        refine hw_aloadn (aX12_location 107 rfl) rfl ?_
        refine hw_aloadn (aX12_location 108 rfl) rfl ?_
        refine hw_get (v := .int (x118)) (aX12_location 109 rfl) wf_RX12_490 (c121 hS) (s121 hS) (by decide) (congrArg Value.int (show FI129 121 71 = x118 from (gf_at f131 (c121 hS) (s121 hS) rfl (h119)))) ?_
        refine hw_ic (v := (1 : Int32)) (aX12_location 110 rfl) (by decide) ?_
        refine xw_isub (aX12_location 111 rfl) ?_
        refine hw_tie (A := ((x118).toInt) - (1)) (i_sub rfl (by decide : (1 : Int32).toInt = 1) (by omega) (by omega)) (fun x144 e145 => ?_)
        refine hv_puti (aX12_location 112 rfl) wf_RX12_490 (c121 hS) (s121 hS) (by decide) rfl rfl (fun FI146 u147 => ?_)
        have rl148 : rl_e (FI146 149) (FI146 121 67) := by rw [show FI146 149 = FI129 149 from up_row u147 (by decide) rfl, show FI146 121 67 = FI129 121 67 from up_k u147 (by decide) rfl]; exact rl136
        have rl149 : rl_t (FI146 149) (FL 150) := by rw [show FI146 149 = FI129 149 from up_row u147 (by decide) rfl]; exact rl137
        have rl150 : rl_w (FI146 121 67) (FI146 149) (FL 150) (FI146 151) := by rw [show FI146 149 = FI129 149 from up_row u147 (by decide) rfl, show FI146 151 = FI129 151 from up_row u147 (by decide) rfl, show FI146 121 67 = FI129 121 67 from up_k u147 (by decide) rfl]; exact rl138
        have hI151 : g_I FI146 := gU_F hI130 u147 rfl
        refine xw_goto (tgt := 235) (aX12_location 113 rfl) (by decide) ?_
        refine hw_aloadn (aX12_location 123 rfl) rfl ?_
        refine hw_get (v := .int (x9)) (aX12_location 124 rfl) wf_RX12_493 (c121 hS) (s121 hS) (by decide) (congrArg Value.int (show FI146 121 73 = x9 from (up_k u147 (by decide) ((gf_at f131 (c121 hS) (s121 hS) rfl ((gf_at f108 (c121 hS) (s121 hS) rfl (h10)))))))) ?_
        refine xw_iloadn (aX12_location 125 rfl) rfl ?_
        refine xw_isub (aX12_location 126 rfl) ?_
        refine hw_tie (A := ((x9).toInt) - ((x9).toInt)) (i_sub rfl rfl (by omega) (by omega)) (fun x152 e153 => ?_)
        refine hw_sp (v := (300 : Int32)) (aX12_location 127 rfl) (by decide) ?_
        refine hw_icle (tgt := 257) (aX12_location 128 rfl) (by decide) e153 (by decide : (300 : Int32).toInt = 300) (fun cd154 => ?_) (fun cd154 => ?_)
        · refine xw_vret (aX12_location 135 rfl) rfl ?_
          exact ⟨rfl, FI146, rfl, hI151, (gf_f (gf_tr ex_rf (gf_tr ex_rf gf_rf f108 rfl rfl rfl) f131 rfl rfl rfl) u147 (by decide)), (by have := congrArg Int32.toInt (show FI146 121 67 = x4 from (up_k u147 (by decide) ((gf_at f131 (c121 hS) (s121 hS) rfl ((gf_at f108 (c121 hS) (s121 hS) rfl (h5))))))); have := congrArg Int32.toInt (show FI146 121 68 = x139 from (up_k u147 (by decide) (h140))); omega), (by have := congrArg Int32.toInt (show FI146 121 68 = x139 from (up_k u147 (by decide) (h140))); omega), (by have := congrArg Int32.toInt (show FI146 121 68 = x139 from (up_k u147 (by decide) (h140))); have := congrArg Int32.toInt (show FI146 121 73 = x9 from (up_k u147 (by decide) ((gf_at f131 (c121 hS) (s121 hS) rfl ((gf_at f108 (c121 hS) (s121 hS) rfl (h10))))))); omega), (by have := congrArg Int32.toInt (show FI146 121 73 = x9 from (up_k u147 (by decide) ((gf_at f131 (c121 hS) (s121 hS) rfl ((gf_at f108 (c121 hS) (s121 hS) rfl (h10))))))); omega), (by have := congrArg Int32.toInt (show FI146 121 71 = x144 from up_eq u147); have := (e145 : (x144).toInt = ((x118).toInt) - (1)); omega), (by have := congrArg Int32.toInt (show FI146 121 69 = x142 from (up_k u147 (by decide) (h143))); exact fun h => absurd h (by omega)), (by have := congrArg Int32.toInt (show FI146 121 69 = x142 from (up_k u147 (by decide) (h143))); exact fun h => absurd h (by omega)), (by have := congrArg Int32.toInt (show FI146 121 69 = x142 from (up_k u147 (by decide) (h143))); exact fun h => absurd h (by omega))⟩
        · refine hw_aloadn (aX12_location 129 rfl) rfl ?_
          refine hw_get (v := .ref (base + 163)) (aX12_location 130 rfl) wf_RX12_147 (c121 hS) (s121 hS) (by decide) (congrArg (fun r => va_rf (h_rf base r)) (r121_84 hF)) ?_
          refine hw_aloadn (aX12_location 131 rfl) rfl ?_
          refine hw_get (v := .int (x14)) (aX12_location 132 rfl) wf_RX12_515 (c121 hS) (s121 hS) (by decide) (congrArg Value.int (show FI146 121 78 = x14 from (up_k u147 (by decide) ((gf_at f131 (c121 hS) (s121 hS) rfl ((gf_at f108 (c121 hS) (s121 hS) rfl (h15)))))))) ?_
          refine hw_ic (v := (1 : Int32)) (aX12_location 133 rfl) (by decide) ?_
          refine hv_zast (w := (1 : Int32)) (k := (x14).toNatClampNeg) (aX12_location 134 rfl) (c163 hS) (s163 hS) (h_in rfl (by omega) (by omega)) rfl (by decide) (fun FI155 u156 => ?_)
          have rl160 : rl_e (FI155 149) (FI155 121 67) := by rw [show FI155 149 = FI146 149 from up_row u156 (by decide) rfl, show FI155 121 67 = FI146 121 67 from up_c u156 (by decide) rfl]; exact rl148
          have rl161 : rl_t (FI155 149) (FL 150) := by rw [show FI155 149 = FI146 149 from up_row u156 (by decide) rfl]; exact rl149
          have rl162 : rl_w (FI155 121 67) (FI155 149) (FL 150) (FI155 151) := by rw [show FI155 149 = FI146 149 from up_row u156 (by decide) rfl, show FI155 151 = FI146 151 from up_row u156 (by decide) rfl, show FI155 121 67 = FI146 121 67 from up_c u156 (by decide) rfl]; exact rl150
          have hI163 : g_I FI155 := gU_163 hI151 u156 (by have := ((by decide : (1 : Int32).toInt = 1) : ((1 : Int32)).toInt = 1); omega) (by have := ((by decide : (1 : Int32).toInt = 1) : ((1 : Int32)).toInt = 1); omega)
          refine xw_vret (aX12_location 135 rfl) rfl ?_
          exact ⟨rfl, FI155, rfl, hI163, (gf_a (gf_f (gf_tr ex_rf (gf_tr ex_rf gf_rf f108 rfl rfl rfl) f131 rfl rfl rfl) u147 (by decide)) u156 (by decide)), (by have := congrArg Int32.toInt (show FI155 121 67 = x4 from (up_c u156 (by decide) ((up_k u147 (by decide) ((gf_at f131 (c121 hS) (s121 hS) rfl ((gf_at f108 (c121 hS) (s121 hS) rfl (h5))))))))); have := congrArg Int32.toInt (show FI155 121 68 = x139 from (up_c u156 (by decide) ((up_k u147 (by decide) (h140))))); omega), (by have := congrArg Int32.toInt (show FI155 121 68 = x139 from (up_c u156 (by decide) ((up_k u147 (by decide) (h140))))); omega), (by have := congrArg Int32.toInt (show FI155 121 68 = x139 from (up_c u156 (by decide) ((up_k u147 (by decide) (h140))))); have := congrArg Int32.toInt (show FI155 121 73 = x9 from (up_c u156 (by decide) ((up_k u147 (by decide) ((gf_at f131 (c121 hS) (s121 hS) rfl ((gf_at f108 (c121 hS) (s121 hS) rfl (h10))))))))); omega), (by have := congrArg Int32.toInt (show FI155 121 73 = x9 from (up_c u156 (by decide) ((up_k u147 (by decide) ((gf_at f131 (c121 hS) (s121 hS) rfl ((gf_at f108 (c121 hS) (s121 hS) rfl (h10))))))))); omega), (by have := congrArg Int32.toInt (show FI155 121 71 = x144 from (up_c u156 (by decide) (up_eq u147))); have := (e145 : (x144).toInt = ((x118).toInt) - (1)); omega), (by have := congrArg Int32.toInt (show FI155 121 69 = x142 from (up_c u156 (by decide) ((up_k u147 (by decide) (h143))))); exact fun h => absurd h (by omega)), (by have := congrArg Int32.toInt (show FI155 121 69 = x142 from (up_c u156 (by decide) ((up_k u147 (by decide) (h143))))); exact fun h => absurd h (by omega)), (by have := congrArg Int32.toInt (show FI155 121 69 = x142 from (up_c u156 (by decide) ((up_k u147 (by decide) (h143))))); exact fun h => absurd h (by omega))⟩
      · have lp182 : ∀ (m : Nat) (y2 : Int32) (FIv164 : Nat → Nat → Int32), (g_fr n SH [(121, 68), (121, 69), (121, 70), (121, 71), (121, 73), (121, 90), (121, 91)] [154, 163, 164, 165, 166, 167, 168] [] FI FIv164) → (g_I FIv164) → (FIv164 121 67 = x4) → (FIv164 121 78 = x14) → (rl_e (FIv164 149) (FIv164 121 67)) → (rl_t (FIv164 149) (FL 150)) → (rl_w (FIv164 121 67) (FIv164 149) (FL 150) (FIv164 151)) → (0 ≤ (y2).toInt ∧ (y2).toInt ≤ 8) → (0 ≤ (FIv164 121 68).toInt ∧ (FIv164 121 68).toInt ≤ 1000) → ((FIv164 121 69).toInt = 0) → ((FIv164 121 68).toInt ≤ (x4).toInt - 1) → ((FI 121 68).toInt ≤ (FIv164 121 68).toInt) → ((FIv164 121 73).toInt ≤ (FI 121 73).toInt + 20 * ((FIv164 121 68).toInt - (FI 121 68).toInt)) → ((FI 121 73).toInt ≤ (FIv164 121 73).toInt) → ((FIv164 121 71).toInt = 1) → (gr_pf (kf (FI 149)) (wf (FL 150)) ((y2).toInt : Int).toNat ((FI 121 68).toInt.toNat + 1) ((FIv164 121 68).toInt).toNat) → ((FIv164 121 73).toInt + 4 - 4 * wp (FI 151) (FIv164 121 68) ≤ (FI 121 73).toInt - 4 * wp (FI 151) (FI 121 68)) → (FIv164 149 = FI 149) → (FIv164 151 = FI 151) → 1001 - (FIv164 121 68).toInt < m → hw zk base (d + 8) none 229 33 [(2, .int (y2)), (1, .int (x9)), (0, .ref (base + 121))] [] (n, sl, SH, FIv164, FL, FR) (h_V (fun s => ∃ FI', s = (n, sl, SH, FI', FL, FR) ∧ g_I FI' ∧ g_fr n SH [(121, 68), (121, 69), (121, 70), (121, 71), (121, 73), (121, 90), (121, 91)] [154, 163, 164, 165, 166, 167, 168] [] FI FI' ∧ ((FI' 121 68).toInt ≤ (FI' 121 67).toInt - 1) ∧ ((FI 121 68).toInt ≤ (FI' 121 68).toInt) ∧ ((FI' 121 73).toInt ≤ (FI 121 73).toInt + 20 * ((FI' 121 68).toInt - (FI 121 68).toInt)) ∧ ((FI 121 73).toInt ≤ (FI' 121 73).toInt) ∧ (-900 ≤ (FI' 121 71).toInt ∧ (FI' 121 71).toInt ≤ 100) ∧ ((FI' 121 69).toInt = 0 → gr_loc (kf (FI 149)) (wf (FL 150)) (FI 121 68).toInt.toNat (FI' 121 68).toInt.toNat) ∧ ((FI' 121 69).toInt = 0 → (FI' 121 71).toInt = (FI 121 71).toInt) ∧ ((FI' 121 69).toInt = 0 → (FI' 121 73).toInt + 2 - 4 * wp (FI 151) (FI' 121 68) ≤ (FI 121 73).toInt - 4 * wp (FI 151) (FI 121 68)))) := by
          intro m
          induction m with
          | zero => intro y2 FIv164 fr165 hI166 kp167 kp168 rl169 rl170 rl171 iv172 iv173 iv174 iv175 iv176 iv177 iv178 iv179 xi33_0 xi33_1 rw180 rw181 hm; omega
          | succ m ih =>
            intro y2 FIv164 fr165 hI166 kp167 kp168 rl169 rl170 rl171 iv172 iv173 iv174 iv175 iv176 iv177 iv178 iv179 xi33_0 xi33_1 rw180 rw181 hm
            have rg_y2 := i_rng y2
            have := congrArg Int32.toInt kp167
            have := congrArg Int32.toInt kp168
            obtain ⟨x183, h184⟩ : ∃ y, FIv164 121 68 = y := ⟨_, rfl⟩
            have h184l := congrArg Int32.toInt h184
            have b185 := gI_121_68 hI166; rw [h184] at b185
            obtain ⟨x186, h187⟩ : ∃ y, FIv164 121 69 = y := ⟨_, rfl⟩
            have h187l := congrArg Int32.toInt h187
            have := i_rng x186
            obtain ⟨x188, h189⟩ : ∃ y, FIv164 121 73 = y := ⟨_, rfl⟩
            have h189l := congrArg Int32.toInt h189
            have b190 := gI_121_73 hI166; rw [h189] at b190
            obtain ⟨x191, h192⟩ : ∃ y, FIv164 121 71 = y := ⟨_, rfl⟩
            have h192l := congrArg Int32.toInt h192
            have := i_rng x191
            refine hw_aloadn (aX12_location 18 rfl) rfl ?_
            have e193 : 0 ≤ (x186).toInt ∧ (x186).toInt ≤ 0 := by omega
            have e194 : 1 ≤ (x191).toInt ∧ (x191).toInt ≤ 1 := by omega
            refine hw_callV (Bs := []) (rest := []) (aX12_location 19 rfl) wc_RX12_541 (by decide) rfl wi_yX12_isPlace wv_yX12_isPlace (c121 hS) (s121 hS) rfl rfl rfl (Nat.le_of_ble_eq_true rfl) (Nat.le_of_ble_eq_true rfl) (n_isPlace (d := d + 6) hS hF hI166 (by have := congrArg Int32.toInt (show FIv164 121 68 = x183 from h184); have := congrArg Int32.toInt (show FIv164 121 67 = x4 from kp167); omega) (show rl_e (FIv164 149) (FIv164 121 67) from rl169)) (fun v195 sv196 p197 => ?_)
            have := congrArg Int32.toInt (show FIv164 121 68 = x183 from h184)
            have := congrArg Int32.toInt (show FIv164 121 67 = x4 from kp167)
            obtain ⟨r198, rfl, rfl, t200, t201, u202⟩ := p197
            show hw zk base _ _ _ _ _ [.int (r198)] _ _
            refine hw_ifne (tgt := 48) (aX12_location 20 rfl) (by decide) rfl (fun cd203 => ?_) (fun cd203 => ?_)
            · replace t200 := t200 (by omega)
              have hisp := u202.mp (by omega)
              refine xw_iloadn (aX12_location 25 rfl) rfl ?_
              refine hw_bp (v := (8 : Int32)) (aX12_location 26 rfl) (by decide) ?_
              refine hw_icne (tgt := 60) (aX12_location 27 rfl) (by decide) rfl (by decide : (8 : Int32).toInt = 8) (fun cd204 => ?_) (fun cd204 => ?_)
              · refine hw_aloadn (aX12_location 31 rfl) rfl ?_
                refine hw_get (v := .int (x186)) (aX12_location 32 rfl) wf_RX12_475 (c121 hS) (s121 hS) (by decide) (congrArg Value.int (show FIv164 121 69 = x186 from h187)) ?_
                refine hw_ifeq (tgt := 68) (aX12_location 33 rfl) (by decide) rfl (fun cd205 => ?_) (fun cd205 => ?_)
                · refine hw_aloadn (aX12_location 35 rfl) rfl ?_
                  have := congrArg Int32.toInt (show FIv164 121 68 = x183 from h184)
                  have := congrArg Int32.toInt (show FIv164 121 69 = x186 from h187)
                  have := congrArg Int32.toInt (show FIv164 121 71 = x191 from h192)
                  have := congrArg Int32.toInt (show FIv164 121 73 = x188 from h189)
                  refine hw_callV (Bs := []) (rest := []) (aX12_location 36 rfl) wc_RX12_544 (by decide) rfl wi_yX12_place wv_yX12_place (c121 hS) (s121 hS) rfl rfl rfl (Nat.le_of_ble_eq_true rfl) (Nat.le_of_ble_eq_true rfl) (n_place (d := d) hS hF hI166 (by have := congrArg Int32.toInt (show FIv164 121 68 = x183 from h184); have := congrArg Int32.toInt (show FIv164 121 67 = x4 from kp167); omega) (by have := congrArg Int32.toInt (show FIv164 121 69 = x186 from h187); omega) (by have := congrArg Int32.toInt (show FIv164 121 73 = x188 from h189); have := congrArg Int32.toInt (show FIv164 121 68 = x183 from h184); omega) (by have := congrArg Int32.toInt (show FIv164 121 71 = x191 from h192); have := congrArg Int32.toInt (show FIv164 121 71 = x191 from h192); omega) (hisp) (show rl_e (FIv164 149) (FIv164 121 67) from rl169) (show rl_t (FIv164 149) (FL 150) from rl170) (show rl_w (FIv164 121 67) (FIv164 149) (FL 150) (FIv164 151) from rl171)) (fun v206 sv207 p208 => ?_)
                  have := congrArg Int32.toInt (show FIv164 121 68 = x183 from h184)
                  have := congrArg Int32.toInt (show FIv164 121 73 = x188 from h189)
                  have := congrArg Int32.toInt (show FIv164 121 68 = x183 from h184)
                  have := congrArg Int32.toInt (show FIv164 121 73 = x188 from h189)
                  obtain ⟨rfl, FI210, rfl, hI211, f212, t213, t214, t215, t216, t217, u218, u219, u220⟩ := p208
                  have rl221 : rl_e (FI210 149) (FI210 121 67) := by rw [show FI210 149 = FIv164 149 from gf_row f212 (c149 hS) (s149 hS) rfl rfl, show FI210 121 67 = FIv164 121 67 from gf_at f212 (c121 hS) (s121 hS) rfl rfl]; exact rl169
                  have rl222 : rl_t (FI210 149) (FL 150) := by rw [show FI210 149 = FIv164 149 from gf_row f212 (c149 hS) (s149 hS) rfl rfl]; exact rl170
                  have rl223 : rl_w (FI210 121 67) (FI210 149) (FL 150) (FI210 151) := by rw [show FI210 149 = FIv164 149 from gf_row f212 (c149 hS) (s149 hS) rfl rfl, show FI210 151 = FIv164 151 from gf_row f212 (c151 hS) (s151 hS) rfl rfl, show FI210 121 67 = FIv164 121 67 from gf_at f212 (c121 hS) (s121 hS) rfl rfl]; exact rl171
                  obtain ⟨x224, h225⟩ : ∃ y, FI210 121 68 = y := ⟨_, rfl⟩
                  have h225l := congrArg Int32.toInt h225
                  have b226 := gI_121_68 hI211; rw [h225] at b226
                  have := congrArg Int32.toInt (show FI210 121 67 = x4 from (gf_at f212 (c121 hS) (s121 hS) rfl (kp167)))
                  obtain ⟨x227, h228⟩ : ∃ y, FI210 121 73 = y := ⟨_, rfl⟩
                  have h228l := congrArg Int32.toInt h228
                  have b229 := gI_121_73 hI211; rw [h228] at b229
                  obtain ⟨x230, h231⟩ : ∃ y, FI210 121 71 = y := ⟨_, rfl⟩
                  have h231l := congrArg Int32.toInt h231
                  have := i_rng x230
                  show hw zk base _ _ _ _ _ [] _ _
                  have hgp := u218; rw [show FIv164 149 = FI 149 from rw180] at hgp
                  have ho71 := u219
                  obtain ⟨x232, h233⟩ : ∃ y, FI210 121 69 = y := ⟨_, rfl⟩
                  have h233l := congrArg Int32.toInt h233
                  have := i_rng x232
                  have := congrArg Int32.toInt (show FI210 121 69 = x232 from h233)
                  have := congrArg Int32.toInt (show FI210 121 68 = x224 from h225)
                  have := congrArg Int32.toInt (show FI210 121 71 = x230 from h231)
                  have := congrArg Int32.toInt (show FI210 121 73 = x227 from h228)
                  have hpw := u220; rw [show FIv164 151 = FI 151 from rw181] at hpw; clear u220
                  have hsh : hid ((FI210 121 69).toInt = 0 → (FI210 121 73).toInt + 6 - 4 * wp (FI 151) (FI210 121 68) ≤ (FI 121 73).toInt - 4 * wp (FI 151) (FI 121 68)) := hid_i (fun h => by have h1 := hpw h; have h2 := xi33_1; omega); clear hpw
                  refine hw_aloadn (aX12_location 37 rfl) rfl ?_
                  refine hw_bp (v := (47 : Int32)) (aX12_location 38 rfl) (by decide) ?_
                  refine hw_callV (Bs := [.int ((47 : Int32))]) (rest := []) (aX12_location 39 rfl) wc_RX12_527 (by decide) rfl wi_yX12_need wv_yX12_need (c121 hS) (s121 hS) rfl rfl rfl (Nat.le_of_ble_eq_true rfl) (Nat.le_of_ble_eq_true rfl) (n_need (d := d + 6) hS hF hI211 ((47 : Int32)) (by have := congrArg Int32.toInt (show FI210 121 68 = x224 from h225); have := congrArg Int32.toInt (show FI210 121 67 = x4 from (gf_at f212 (c121 hS) (s121 hS) rfl (kp167))); omega) (show rl_e (FI210 149) (FI210 121 67) from rl221)) (fun v234 sv235 p236 => ?_)
                  have := congrArg Int32.toInt (show FI210 121 68 = x224 from h225)
                  have := congrArg Int32.toInt (show FI210 121 69 = x232 from h233)
                  have := congrArg Int32.toInt (show FI210 121 68 = x224 from h225)
                  have := congrArg Int32.toInt (show FI210 121 68 = x224 from h225)
                  obtain ⟨rfl, FI238, rfl, hI239, f240, t241, t242, t243, u244⟩ := p236
                  have rl245 : rl_e (FI238 149) (FI238 121 67) := by rw [show FI238 149 = FI210 149 from gf_row f240 (c149 hS) (s149 hS) rfl rfl, show FI238 121 67 = FI210 121 67 from gf_at f240 (c121 hS) (s121 hS) rfl rfl]; exact rl221
                  have rl246 : rl_t (FI238 149) (FL 150) := by rw [show FI238 149 = FI210 149 from gf_row f240 (c149 hS) (s149 hS) rfl rfl]; exact rl222
                  have rl247 : rl_w (FI238 121 67) (FI238 149) (FL 150) (FI238 151) := by rw [show FI238 149 = FI210 149 from gf_row f240 (c149 hS) (s149 hS) rfl rfl, show FI238 151 = FI210 151 from gf_row f240 (c151 hS) (s151 hS) rfl rfl, show FI238 121 67 = FI210 121 67 from gf_at f240 (c121 hS) (s121 hS) rfl rfl]; exact rl223
                  obtain ⟨x248, h249⟩ : ∃ y, FI238 121 68 = y := ⟨_, rfl⟩
                  have h249l := congrArg Int32.toInt h249
                  have b250 := gI_121_68 hI239; rw [h249] at b250
                  have := congrArg Int32.toInt (show FI238 121 67 = x4 from (gf_at f240 (c121 hS) (s121 hS) rfl ((gf_at f212 (c121 hS) (s121 hS) rfl (kp167)))))
                  obtain ⟨x251, h252⟩ : ∃ y, FI238 121 69 = y := ⟨_, rfl⟩
                  have h252l := congrArg Int32.toInt h252
                  have := i_rng x251
                  show hw zk base _ _ _ _ _ [] _ _
                  clear u244
                  refine hw_aloadn (aX12_location 40 rfl) rfl ?_
                  refine hw_get (v := .int (x251)) (aX12_location 41 rfl) wf_RX12_475 (c121 hS) (s121 hS) (by decide) (congrArg Value.int (show FI238 121 69 = x251 from h252)) ?_
                  refine hw_ifne (tgt := 103) (aX12_location 42 rfl) (by decide) rfl (fun cd253 => ?_) (fun cd253 => ?_)
                  · refine hw_aloadn (aX12_location 53 rfl) rfl ?_
                    refine hw_get (v := .int (x251)) (aX12_location 54 rfl) wf_RX12_475 (c121 hS) (s121 hS) (by decide) (congrArg Value.int (show FI238 121 69 = x251 from h252)) ?_
                    refine hw_ifne (tgt := 131) (aX12_location 55 rfl) (by decide) rfl (fun cd254 => ?_) (fun cd254 => ?_)
                    · refine hw_aloadn (aX12_location 67 rfl) rfl ?_
                      refine hw_get (v := .int (x251)) (aX12_location 68 rfl) wf_RX12_475 (c121 hS) (s121 hS) (by decide) (congrArg Value.int (show FI238 121 69 = x251 from h252)) ?_
                      refine hw_ifeq (tgt := 139) (aX12_location 69 rfl) (by decide) rfl (fun cd255 => ?_) (fun cd255 => ?_)
                      · omega
                      · refine xw_vret (aX12_location 70 rfl) rfl ?_
                        exact ⟨rfl, FI238, rfl, hI239, (gf_tr ex_rf (gf_tr ex_rf fr165 f212 rfl rfl rfl) f240 rfl rfl rfl), (by have := congrArg Int32.toInt (show FI238 121 67 = x4 from (gf_at f240 (c121 hS) (s121 hS) rfl ((gf_at f212 (c121 hS) (s121 hS) rfl (kp167))))); have := congrArg Int32.toInt (show FI238 121 68 = x248 from h249); omega), (by have := congrArg Int32.toInt (show FI238 121 68 = x248 from h249); omega), (by have := congrArg Int32.toInt (show FI238 121 68 = x248 from h249); have := congrArg Int32.toInt (show FI238 121 73 = x227 from (gf_at f240 (c121 hS) (s121 hS) rfl (h228))); omega), (by have := congrArg Int32.toInt (show FI238 121 73 = x227 from (gf_at f240 (c121 hS) (s121 hS) rfl (h228))); omega), (by have := congrArg Int32.toInt (show FI238 121 71 = x230 from (gf_at f240 (c121 hS) (s121 hS) rfl (h231))); omega), (by have := congrArg Int32.toInt (show FI238 121 69 = x251 from h252); exact fun h => absurd h (by omega)), (by have := congrArg Int32.toInt (show FI238 121 69 = x251 from h252); exact fun h => absurd h (by omega)), (by have := congrArg Int32.toInt (show FI238 121 69 = x251 from h252); exact fun h => absurd h (by omega))⟩
                    · omega
                  · refine hw_aloadn (aX12_location 43 rfl) rfl ?_
                    refine hw_get (v := .ref (base + 149)) (aX12_location 44 rfl) wf_RX12_105 (c121 hS) (s121 hS) (by decide) (congrArg (fun r => va_rf (h_rf base r)) (r121_62 hF)) ?_
                    refine hw_aloadn (aX12_location 45 rfl) rfl ?_
                    refine hw_get (v := .int (x248)) (aX12_location 46 rfl) wf_RX12_478 (c121 hS) (s121 hS) (by decide) (congrArg Value.int (show FI238 121 68 = x248 from h249)) ?_
                    obtain ⟨x256, h257⟩ : ∃ y, FI238 149 (x248).toNatClampNeg = y := ⟨_, rfl⟩
                    have h257l := congrArg Int32.toInt h257
                    have := i_rng x256
                    refine hw_iald (v := x256) (aX12_location 47 rfl) (c149 hS) (s149 hS) (h_in rfl (by omega) (by omega)) (show FI238 149 (x248).toNatClampNeg = x256 from h257) ?_
                    refine hw_ic (v := (3 : Int32)) (aX12_location 48 rfl) (by decide) ?_
                    refine hw_iceq (tgt := 103) (aX12_location 49 rfl) (by decide) rfl (by decide : (3 : Int32).toInt = 3) (fun cd258 => ?_) (fun cd258 => ?_)
                    · refine hw_aloadn (aX12_location 53 rfl) rfl ?_
                      refine hw_get (v := .int (x251)) (aX12_location 54 rfl) wf_RX12_475 (c121 hS) (s121 hS) (by decide) (congrArg Value.int (show FI238 121 69 = x251 from h252)) ?_
                      refine hw_ifne (tgt := 131) (aX12_location 55 rfl) (by decide) rfl (fun cd259 => ?_) (fun cd259 => ?_)
                      · omega
                      · have := congrArg Int32.toInt (show FI238 121 67 = x4 from (gf_at f240 (c121 hS) (s121 hS) rfl ((gf_at f212 (c121 hS) (s121 hS) rfl (kp167)))))
                        have hne259 := rl_e_ne rl245 (t := x248) (by omega)
                        refine hw_aloadn (aX12_location 56 rfl) rfl ?_
                        refine hw_get (v := .ref (base + 150)) (aX12_location 57 rfl) wf_RX12_108 (c121 hS) (s121 hS) (by decide) (congrArg (fun r => va_rf (h_rf base r)) (r121_63 hF)) ?_
                        refine hw_aloadn (aX12_location 58 rfl) rfl ?_
                        refine hw_get (v := .int (x248)) (aX12_location 59 rfl) wf_RX12_478 (c121 hS) (s121 hS) (by decide) (congrArg Value.int (show FI238 121 68 = x248 from h249)) ?_
                        obtain ⟨x260, h261⟩ : ∃ y, FL 150 (x248).toNatClampNeg = y := ⟨_, rfl⟩
                        have h261l := congrArg Int64.toInt h261
                        have := l_rng x260
                        refine hw_lald (v := x260) (aX12_location 60 rfl) (c150 hS) (s150 hS) (h_in rfl (by omega) (by omega)) (show FL 150 (x248).toNatClampNeg = x260 from h261) ?_
                        refine xw_ldc2 (aX12_location 61 rfl) wk_RX12_547 ?_
                        refine hw_lcle (tgt := 131) (aX12_location 62 rfl) (aX12_location 63 rfl) (by decide) rfl (by decide : (64 : Int64).toInt = 64) (fun cd262 => ?_) (fun cd262 => ?_)
                        · refine hw_aloadn (aX12_location 67 rfl) rfl ?_
                          refine hw_get (v := .int (x251)) (aX12_location 68 rfl) wf_RX12_475 (c121 hS) (s121 hS) (by decide) (congrArg Value.int (show FI238 121 69 = x251 from h252)) ?_
                          refine hw_ifeq (tgt := 139) (aX12_location 69 rfl) (by decide) rfl (fun cd263 => ?_) (fun cd263 => ?_)
                          · refine hw_aloadn (aX12_location 71 rfl) rfl ?_
                            refine hw_sp (v := (147 : Int32)) (aX12_location 72 rfl) (by decide) ?_
                            refine hw_callV (Bs := [.int ((147 : Int32))]) (rest := []) (aX12_location 73 rfl) wc_RX12_496 (by decide) rfl wi_yX12_emit wv_yX12_emit (c121 hS) (s121 hS) rfl rfl rfl (Nat.le_of_ble_eq_true rfl) (Nat.le_of_ble_eq_true rfl) (n_emit0 (d := d + 7) hS hF hI239 ((147 : Int32)) (by have := congrArg Int32.toInt (show FI238 121 73 = x227 from (gf_at f240 (c121 hS) (s121 hS) rfl (h228))); omega)) (fun v264 sv265 p266 => ?_)
                            have := congrArg Int32.toInt (show FI238 121 73 = x227 from (gf_at f240 (c121 hS) (s121 hS) rfl (h228)))
                            obtain ⟨rfl, FI268, rfl, hI269, f270, t271⟩ := p266
                            have rl272 : rl_e (FI268 149) (FI268 121 67) := by rw [show FI268 149 = FI238 149 from gf_row f270 (c149 hS) (s149 hS) rfl rfl, show FI268 121 67 = FI238 121 67 from gf_at f270 (c121 hS) (s121 hS) rfl rfl]; exact rl245
                            have rl273 : rl_t (FI268 149) (FL 150) := by rw [show FI268 149 = FI238 149 from gf_row f270 (c149 hS) (s149 hS) rfl rfl]; exact rl246
                            have rl274 : rl_w (FI268 121 67) (FI268 149) (FL 150) (FI268 151) := by rw [show FI268 149 = FI238 149 from gf_row f270 (c149 hS) (s149 hS) rfl rfl, show FI268 151 = FI238 151 from gf_row f270 (c151 hS) (s151 hS) rfl rfl, show FI268 121 67 = FI238 121 67 from gf_at f270 (c121 hS) (s121 hS) rfl rfl]; exact rl247
                            obtain ⟨x275, h276⟩ : ∃ y, FI268 121 73 = y := ⟨_, rfl⟩
                            have h276l := congrArg Int32.toInt h276
                            have b277 := gI_121_73 hI269; rw [h276] at b277
                            show hw zk base _ _ _ _ _ [] _ _
                            refine hw_aloadn (aX12_location 74 rfl) rfl ?_
                            refine hw_aloadn (aX12_location 75 rfl) rfl ?_
                            refine hw_get (v := .ref (base + 150)) (aX12_location 76 rfl) wf_RX12_108 (c121 hS) (s121 hS) (by decide) (congrArg (fun r => va_rf (h_rf base r)) (r121_63 hF)) ?_
                            refine hw_aloadn (aX12_location 77 rfl) rfl ?_
                            refine hw_get (v := .int (x248)) (aX12_location 78 rfl) wf_RX12_478 (c121 hS) (s121 hS) (by decide) (congrArg Value.int (show FI268 121 68 = x248 from (gf_at f270 (c121 hS) (s121 hS) rfl (h249)))) ?_
                            refine hw_lald (v := x260) (aX12_location 79 rfl) (c150 hS) (s150 hS) (h_in rfl (by omega) (by omega)) (show FL 150 (x248).toNatClampNeg = x260 from h261) ?_
                            have hv := (rl273 (x248).toNatClampNeg).1 (by have := congrArg Int32.toInt (show FI268 149 (x248).toNatClampNeg = x256 from (gf_at f270 (c149 hS) (s149 hS) rfl (h257))); omega)
                            have e278 : 0 ≤ (x260).toInt ∧ (x260).toInt ≤ 999999999999999999 := by omega
                            refine hw_callV (Bs := [.long (x260)]) (rest := []) (aX12_location 80 rfl) wc_RX12_549 (by decide) rfl wi_yX12_unsigned wv_yX12_unsigned (c121 hS) (s121 hS) rfl rfl rfl (Nat.le_of_ble_eq_true rfl) (Nat.le_of_ble_eq_true rfl) (n_unsigned0 (d := d + 6) hS hF hI269 (x260) (by have := congrArg Int32.toInt (show FI268 121 73 = x275 from h276); omega) (by omega)) (fun v279 sv280 p281 => ?_)
                            have := congrArg Int32.toInt (show FI268 121 73 = x275 from h276)
                            have := congrArg Int32.toInt (show FI268 121 73 = x275 from h276)
                            have := congrArg Int32.toInt (show FI268 121 73 = x275 from h276)
                            obtain ⟨rfl, FI283, rfl, hI284, f285, t286, t287, t288⟩ := p281
                            have rl289 : rl_e (FI283 149) (FI283 121 67) := by rw [show FI283 149 = FI268 149 from gf_row f285 (c149 hS) (s149 hS) rfl rfl, show FI283 121 67 = FI268 121 67 from gf_at f285 (c121 hS) (s121 hS) rfl rfl]; exact rl272
                            have rl290 : rl_t (FI283 149) (FL 150) := by rw [show FI283 149 = FI268 149 from gf_row f285 (c149 hS) (s149 hS) rfl rfl]; exact rl273
                            have rl291 : rl_w (FI283 121 67) (FI283 149) (FL 150) (FI283 151) := by rw [show FI283 149 = FI268 149 from gf_row f285 (c149 hS) (s149 hS) rfl rfl, show FI283 151 = FI268 151 from gf_row f285 (c151 hS) (s151 hS) rfl rfl, show FI283 121 67 = FI268 121 67 from gf_at f285 (c121 hS) (s121 hS) rfl rfl]; exact rl274
                            obtain ⟨x292, h293⟩ : ∃ y, FI283 121 73 = y := ⟨_, rfl⟩
                            have h293l := congrArg Int32.toInt h293
                            have b294 := gI_121_73 hI284; rw [h293] at b294
                            show hw zk base _ _ _ _ _ [] _ _
                            refine hw_aloadn (aX12_location 81 rfl) rfl ?_
                            refine hw_aloadn (aX12_location 82 rfl) rfl ?_
                            refine hw_get (v := .int (x248)) (aX12_location 83 rfl) wf_RX12_478 (c121 hS) (s121 hS) (by decide) (congrArg Value.int (show FI283 121 68 = x248 from (gf_at f285 (c121 hS) (s121 hS) rfl ((gf_at f270 (c121 hS) (s121 hS) rfl (h249)))))) ?_
                            refine hw_ic (v := (1 : Int32)) (aX12_location 84 rfl) (by decide) ?_
                            refine xw_iadd (aX12_location 85 rfl) ?_
                            refine hw_tie (A := ((x248).toInt) + (1)) (i_add rfl (by decide : (1 : Int32).toInt = 1) (by omega) (by omega)) (fun x295 e296 => ?_)
                            refine hv_puti (aX12_location 86 rfl) wf_RX12_478 (c121 hS) (s121 hS) (by decide) rfl rfl (fun FI297 u298 => ?_)
                            have rl299 : rl_e (FI297 149) (FI297 121 67) := by rw [show FI297 149 = FI283 149 from up_row u298 (by decide) rfl, show FI297 121 67 = FI283 121 67 from up_k u298 (by decide) rfl]; exact rl289
                            have rl300 : rl_t (FI297 149) (FL 150) := by rw [show FI297 149 = FI283 149 from up_row u298 (by decide) rfl]; exact rl290
                            have rl301 : rl_w (FI297 121 67) (FI297 149) (FL 150) (FI297 151) := by rw [show FI297 149 = FI283 149 from up_row u298 (by decide) rfl, show FI297 151 = FI283 151 from up_row u298 (by decide) rfl, show FI297 121 67 = FI283 121 67 from up_k u298 (by decide) rfl]; exact rl291
                            have hI302 : g_I FI297 := gU_121_68 hI284 u298 (by have := (e296 : (x295).toInt = ((x248).toInt) + (1)); omega) (by have := (e296 : (x295).toInt = ((x248).toInt) + (1)); omega)
                            refine xw_iloadn (aX12_location 87 rfl) rfl ?_
                            refine hw_ic (v := (1 : Int32)) (aX12_location 88 rfl) (by decide) ?_
                            refine xw_iadd (aX12_location 89 rfl) ?_
                            refine hw_tie (A := ((y2).toInt) + (1)) (i_add rfl (by decide : (1 : Int32).toInt = 1) (by omega) (by omega)) (fun x303 e304 => ?_)
                            refine xw_istoren (L2 := [(2, .int (x303)), (1, .int (x9)), (0, .ref (base + 121))]) (aX12_location 90 rfl) (by decide) rfl ?_
                            refine hw_aloadn (aX12_location 91 rfl) rfl ?_
                            refine hw_bp (v := (44 : Int32)) (aX12_location 92 rfl) (by decide) ?_
                            refine hw_callV (Bs := [.int ((44 : Int32))]) (rest := []) (aX12_location 93 rfl) wc_RX12_484 (by decide) rfl wi_yX12_isSign wv_yX12_isSign (c121 hS) (s121 hS) rfl rfl rfl (Nat.le_of_ble_eq_true rfl) (Nat.le_of_ble_eq_true rfl) (n_isSign (d := d + 7) hS hF hI302 ((44 : Int32)) (by have := congrArg Int32.toInt (show FI297 121 68 = x295 from up_eq u298); have := (e296 : (x295).toInt = ((x248).toInt) + (1)); have := congrArg Int32.toInt (show FI297 121 67 = x4 from (up_k u298 (by decide) ((gf_at f285 (c121 hS) (s121 hS) rfl ((gf_at f270 (c121 hS) (s121 hS) rfl ((gf_at f240 (c121 hS) (s121 hS) rfl ((gf_at f212 (c121 hS) (s121 hS) rfl (kp167))))))))))); omega) (show rl_e (FI297 149) (FI297 121 67) from rl299)) (fun v305 sv306 p307 => ?_)
                            have := congrArg Int32.toInt (show FI297 121 68 = x295 from up_eq u298)
                            have := (e296 : (x295).toInt = ((x248).toInt) + (1))
                            have := congrArg Int32.toInt (show FI297 121 67 = x4 from (up_k u298 (by decide) ((gf_at f285 (c121 hS) (s121 hS) rfl ((gf_at f270 (c121 hS) (s121 hS) rfl ((gf_at f240 (c121 hS) (s121 hS) rfl ((gf_at f212 (c121 hS) (s121 hS) rfl (kp167)))))))))))
                            obtain ⟨r308, rfl, rfl, t310, t311, u312⟩ := p307
                            show hw zk base _ _ _ _ _ [.int (r308)] _ _
                            have := congrArg Int32.toInt (show FI297 121 68 = x295 from up_eq u298)
                            have hcm := u312; rw [show ((44 : Int32)).toInt = (44 : Int) from by decide, show FI297 149 = FI 149 from (up_row u298 (by decide) ((gf_row f285 (c149 hS) (s149 hS) rfl ((gf_row f270 (c149 hS) (s149 hS) rfl ((gf_row f240 (c149 hS) (s149 hS) rfl ((gf_row f212 (c149 hS) (s149 hS) rfl (rw180)))))))))), show (FI297 121 68).toInt.toNat = (FI210 121 68).toInt.toNat + 2 by omega] at hcm
                            refine xw_istoren (L2 := [(3, .int (r308)), (2, .int (x303)), (1, .int (x9)), (0, .ref (base + 121))]) (aX12_location 94 rfl) (by decide) rfl ?_
                            refine xw_iloadn (aX12_location 95 rfl) rfl ?_
                            refine hw_ifeq (tgt := 22) (aX12_location 96 rfl) (by decide) rfl (fun cd313 => ?_) (fun cd313 => ?_)
                            · clear t310
                              refine xw_iloadn (aX12_location 13 rfl) rfl ?_
                              refine hw_ifeq (tgt := 197) (aX12_location 14 rfl) (by decide) rfl (fun cd314 => ?_) (fun cd314 => ?_)
                              · have hpts := gr_pf_end xi33_0 (hgp (by omega)) (fun h => absurd (hcm.mpr h) (by omega))
                                refine hw_aloadn (aX12_location 104 rfl) rfl ?_
                                refine hw_bp (v := (125 : Int32)) (aX12_location 105 rfl) (by decide) ?_
                                refine hw_callV (Bs := [.int ((125 : Int32))]) (rest := []) (aX12_location 106 rfl) wc_RX12_527 (by decide) rfl wi_yX12_need wv_yX12_need (c121 hS) (s121 hS) rfl rfl rfl (Nat.le_of_ble_eq_true rfl) (Nat.le_of_ble_eq_true rfl) (n_need (d := d + 6) hS hF hI302 ((125 : Int32)) (by have := congrArg Int32.toInt (show FI297 121 68 = x295 from up_eq u298); have := (e296 : (x295).toInt = ((x248).toInt) + (1)); have := congrArg Int32.toInt (show FI297 121 67 = x4 from (up_k u298 (by decide) ((gf_at f285 (c121 hS) (s121 hS) rfl ((gf_at f270 (c121 hS) (s121 hS) rfl ((gf_at f240 (c121 hS) (s121 hS) rfl ((gf_at f212 (c121 hS) (s121 hS) rfl (kp167))))))))))); omega) (show rl_e (FI297 149) (FI297 121 67) from rl299)) (fun v315 sv316 p317 => ?_)
                                have := congrArg Int32.toInt (show FI297 121 68 = x295 from up_eq u298)
                                have := (e296 : (x295).toInt = ((x248).toInt) + (1))
                                have := congrArg Int32.toInt (show FI297 121 69 = x251 from (up_k u298 (by decide) ((gf_at f285 (c121 hS) (s121 hS) rfl ((gf_at f270 (c121 hS) (s121 hS) rfl (h252)))))))
                                have := congrArg Int32.toInt (show FI297 121 68 = x295 from up_eq u298)
                                have := (e296 : (x295).toInt = ((x248).toInt) + (1))
                                have := congrArg Int32.toInt (show FI297 121 68 = x295 from up_eq u298)
                                have := (e296 : (x295).toInt = ((x248).toInt) + (1))
                                obtain ⟨rfl, FI319, rfl, hI320, f321, t322, t323, t324, u325⟩ := p317
                                have rl326 : rl_e (FI319 149) (FI319 121 67) := by rw [show FI319 149 = FI297 149 from gf_row f321 (c149 hS) (s149 hS) rfl rfl, show FI319 121 67 = FI297 121 67 from gf_at f321 (c121 hS) (s121 hS) rfl rfl]; exact rl299
                                have rl327 : rl_t (FI319 149) (FL 150) := by rw [show FI319 149 = FI297 149 from gf_row f321 (c149 hS) (s149 hS) rfl rfl]; exact rl300
                                have rl328 : rl_w (FI319 121 67) (FI319 149) (FL 150) (FI319 151) := by rw [show FI319 149 = FI297 149 from gf_row f321 (c149 hS) (s149 hS) rfl rfl, show FI319 151 = FI297 151 from gf_row f321 (c151 hS) (s151 hS) rfl rfl, show FI319 121 67 = FI297 121 67 from gf_at f321 (c121 hS) (s121 hS) rfl rfl]; exact rl301
                                obtain ⟨x329, h330⟩ : ∃ y, FI319 121 68 = y := ⟨_, rfl⟩
                                have h330l := congrArg Int32.toInt h330
                                have b331 := gI_121_68 hI320; rw [h330] at b331
                                have := congrArg Int32.toInt (show FI319 121 67 = x4 from (gf_at f321 (c121 hS) (s121 hS) rfl ((up_k u298 (by decide) ((gf_at f285 (c121 hS) (s121 hS) rfl ((gf_at f270 (c121 hS) (s121 hS) rfl ((gf_at f240 (c121 hS) (s121 hS) rfl ((gf_at f212 (c121 hS) (s121 hS) rfl (kp167)))))))))))))
                                obtain ⟨x332, h333⟩ : ∃ y, FI319 121 69 = y := ⟨_, rfl⟩
                                have h333l := congrArg Int32.toInt h333
                                have := i_rng x332
                                show hw zk base _ _ _ _ _ [] _ _
                                clear u325
                                refine hw_aloadn (aX12_location 107 rfl) rfl ?_
                                refine hw_aloadn (aX12_location 108 rfl) rfl ?_
                                refine hw_get (v := .int (x230)) (aX12_location 109 rfl) wf_RX12_490 (c121 hS) (s121 hS) (by decide) (congrArg Value.int (show FI319 121 71 = x230 from (gf_at f321 (c121 hS) (s121 hS) rfl ((up_k u298 (by decide) ((gf_at f285 (c121 hS) (s121 hS) rfl ((gf_at f270 (c121 hS) (s121 hS) rfl ((gf_at f240 (c121 hS) (s121 hS) rfl (h231)))))))))))) ?_
                                refine hw_ic (v := (1 : Int32)) (aX12_location 110 rfl) (by decide) ?_
                                refine xw_isub (aX12_location 111 rfl) ?_
                                refine hw_tie (A := ((x230).toInt) - (1)) (i_sub rfl (by decide : (1 : Int32).toInt = 1) (by omega) (by omega)) (fun x334 e335 => ?_)
                                refine hv_puti (aX12_location 112 rfl) wf_RX12_490 (c121 hS) (s121 hS) (by decide) rfl rfl (fun FI336 u337 => ?_)
                                have rl338 : rl_e (FI336 149) (FI336 121 67) := by rw [show FI336 149 = FI319 149 from up_row u337 (by decide) rfl, show FI336 121 67 = FI319 121 67 from up_k u337 (by decide) rfl]; exact rl326
                                have rl339 : rl_t (FI336 149) (FL 150) := by rw [show FI336 149 = FI319 149 from up_row u337 (by decide) rfl]; exact rl327
                                have rl340 : rl_w (FI336 121 67) (FI336 149) (FL 150) (FI336 151) := by rw [show FI336 149 = FI319 149 from up_row u337 (by decide) rfl, show FI336 151 = FI319 151 from up_row u337 (by decide) rfl, show FI336 121 67 = FI319 121 67 from up_k u337 (by decide) rfl]; exact rl328
                                have hI341 : g_I FI336 := gU_F hI320 u337 rfl
                                refine xw_goto (tgt := 235) (aX12_location 113 rfl) (by decide) ?_
                                refine hw_aloadn (aX12_location 123 rfl) rfl ?_
                                refine hw_get (v := .int (x292)) (aX12_location 124 rfl) wf_RX12_493 (c121 hS) (s121 hS) (by decide) (congrArg Value.int (show FI336 121 73 = x292 from (up_k u337 (by decide) ((gf_at f321 (c121 hS) (s121 hS) rfl ((up_k u298 (by decide) (h293)))))))) ?_
                                refine xw_iloadn (aX12_location 125 rfl) rfl ?_
                                refine xw_isub (aX12_location 126 rfl) ?_
                                refine hw_tie (A := ((x292).toInt) - ((x9).toInt)) (i_sub rfl rfl (by omega) (by omega)) (fun x342 e343 => ?_)
                                refine hw_sp (v := (300 : Int32)) (aX12_location 127 rfl) (by decide) ?_
                                refine hw_icle (tgt := 257) (aX12_location 128 rfl) (by decide) e343 (by decide : (300 : Int32).toInt = 300) (fun cd344 => ?_) (fun cd344 => ?_)
                                · have hq3 : (FI336 121 69).toInt = 0 → ((FI336 121 68).toInt).toNat = (FI210 121 68).toInt.toNat + 3 := fun h => by have := congrArg Int32.toInt (show FI336 121 68 = x329 from (up_k u337 (by decide) (h330))); have := congrArg Int32.toInt (show FI336 121 69 = x332 from (up_k u337 (by decide) (h333))); omega
                                  refine xw_vret (aX12_location 135 rfl) rfl ?_
                                  exact ⟨rfl, FI336, rfl, hI341, (gf_f (gf_tr ex_rf (gf_f (gf_tr ex_rf (gf_tr ex_rf (gf_tr ex_rf (gf_tr ex_rf fr165 f212 rfl rfl rfl) f240 rfl rfl rfl) f270 rfl rfl rfl) f285 rfl rfl rfl) u298 (by decide)) f321 rfl rfl rfl) u337 (by decide)), (by have := congrArg Int32.toInt (show FI336 121 67 = x4 from (up_k u337 (by decide) ((gf_at f321 (c121 hS) (s121 hS) rfl ((up_k u298 (by decide) ((gf_at f285 (c121 hS) (s121 hS) rfl ((gf_at f270 (c121 hS) (s121 hS) rfl ((gf_at f240 (c121 hS) (s121 hS) rfl ((gf_at f212 (c121 hS) (s121 hS) rfl (kp167))))))))))))))); have := congrArg Int32.toInt (show FI336 121 68 = x329 from (up_k u337 (by decide) (h330))); omega), (by have := congrArg Int32.toInt (show FI336 121 68 = x329 from (up_k u337 (by decide) (h330))); omega), (by have := congrArg Int32.toInt (show FI336 121 68 = x329 from (up_k u337 (by decide) (h330))); have := congrArg Int32.toInt (show FI336 121 73 = x292 from (up_k u337 (by decide) ((gf_at f321 (c121 hS) (s121 hS) rfl ((up_k u298 (by decide) (h293))))))); omega), (by have := congrArg Int32.toInt (show FI336 121 73 = x292 from (up_k u337 (by decide) ((gf_at f321 (c121 hS) (s121 hS) rfl ((up_k u298 (by decide) (h293))))))); omega), (by have := congrArg Int32.toInt (show FI336 121 71 = x334 from up_eq u337); have := (e335 : (x334).toInt = ((x230).toInt) - (1)); omega), (by have := congrArg Int32.toInt (show FI336 121 68 = x329 from (up_k u337 (by decide) (h330))); have := congrArg Int32.toInt (show FI336 121 69 = x332 from (up_k u337 (by decide) (h333))); intro h69; rw [hq3 (by omega)]; exact Or.inr ⟨hcu, (y2).toInt.toNat + 1, by omega, hpts⟩), (by have := congrArg Int32.toInt (show FI336 121 69 = x332 from (up_k u337 (by decide) (h333))); have := congrArg Int32.toInt (show FI336 121 71 = x334 from up_eq u337); have := (e335 : (x334).toInt = ((x230).toInt) - (1)); exact fun _ => by omega), (by have := congrArg Int32.toInt (show FI336 121 68 = x329 from (up_k u337 (by decide) (h330))); have := congrArg Int32.toInt (show FI336 121 69 = x332 from (up_k u337 (by decide) (h333))); have := congrArg Int32.toInt (show FI336 121 73 = x292 from (up_k u337 (by decide) ((gf_at f321 (c121 hS) (s121 hS) rfl ((up_k u298 (by decide) (h293))))))); intro h69; have := hid_e hsh (by omega); have := wp_nc rel_wh (t := FI210 121 68) (u := FI336 121 68) (by omega); omega)⟩
                                · refine hw_aloadn (aX12_location 129 rfl) rfl ?_
                                  refine hw_get (v := .ref (base + 163)) (aX12_location 130 rfl) wf_RX12_147 (c121 hS) (s121 hS) (by decide) (congrArg (fun r => va_rf (h_rf base r)) (r121_84 hF)) ?_
                                  refine hw_aloadn (aX12_location 131 rfl) rfl ?_
                                  refine hw_get (v := .int (x14)) (aX12_location 132 rfl) wf_RX12_515 (c121 hS) (s121 hS) (by decide) (congrArg Value.int (show FI336 121 78 = x14 from (up_k u337 (by decide) ((gf_at f321 (c121 hS) (s121 hS) rfl ((up_k u298 (by decide) ((gf_at f285 (c121 hS) (s121 hS) rfl ((gf_at f270 (c121 hS) (s121 hS) rfl ((gf_at f240 (c121 hS) (s121 hS) rfl ((gf_at f212 (c121 hS) (s121 hS) rfl (kp168)))))))))))))))) ?_
                                  refine hw_ic (v := (1 : Int32)) (aX12_location 133 rfl) (by decide) ?_
                                  refine hv_zast (w := (1 : Int32)) (k := (x14).toNatClampNeg) (aX12_location 134 rfl) (c163 hS) (s163 hS) (h_in rfl (by omega) (by omega)) rfl (by decide) (fun FI345 u346 => ?_)
                                  have rl350 : rl_e (FI345 149) (FI345 121 67) := by rw [show FI345 149 = FI336 149 from up_row u346 (by decide) rfl, show FI345 121 67 = FI336 121 67 from up_c u346 (by decide) rfl]; exact rl338
                                  have rl351 : rl_t (FI345 149) (FL 150) := by rw [show FI345 149 = FI336 149 from up_row u346 (by decide) rfl]; exact rl339
                                  have rl352 : rl_w (FI345 121 67) (FI345 149) (FL 150) (FI345 151) := by rw [show FI345 149 = FI336 149 from up_row u346 (by decide) rfl, show FI345 151 = FI336 151 from up_row u346 (by decide) rfl, show FI345 121 67 = FI336 121 67 from up_c u346 (by decide) rfl]; exact rl340
                                  have hI353 : g_I FI345 := gU_163 hI341 u346 (by have := ((by decide : (1 : Int32).toInt = 1) : ((1 : Int32)).toInt = 1); omega) (by have := ((by decide : (1 : Int32).toInt = 1) : ((1 : Int32)).toInt = 1); omega)
                                  have hq3 : (FI345 121 69).toInt = 0 → ((FI345 121 68).toInt).toNat = (FI210 121 68).toInt.toNat + 3 := fun h => by have := congrArg Int32.toInt (show FI345 121 68 = x329 from (up_c u346 (by decide) ((up_k u337 (by decide) (h330))))); have := congrArg Int32.toInt (show FI345 121 69 = x332 from (up_c u346 (by decide) ((up_k u337 (by decide) (h333))))); omega
                                  refine xw_vret (aX12_location 135 rfl) rfl ?_
                                  exact ⟨rfl, FI345, rfl, hI353, (gf_a (gf_f (gf_tr ex_rf (gf_f (gf_tr ex_rf (gf_tr ex_rf (gf_tr ex_rf (gf_tr ex_rf fr165 f212 rfl rfl rfl) f240 rfl rfl rfl) f270 rfl rfl rfl) f285 rfl rfl rfl) u298 (by decide)) f321 rfl rfl rfl) u337 (by decide)) u346 (by decide)), (by have := congrArg Int32.toInt (show FI345 121 67 = x4 from (up_c u346 (by decide) ((up_k u337 (by decide) ((gf_at f321 (c121 hS) (s121 hS) rfl ((up_k u298 (by decide) ((gf_at f285 (c121 hS) (s121 hS) rfl ((gf_at f270 (c121 hS) (s121 hS) rfl ((gf_at f240 (c121 hS) (s121 hS) rfl ((gf_at f212 (c121 hS) (s121 hS) rfl (kp167))))))))))))))))); have := congrArg Int32.toInt (show FI345 121 68 = x329 from (up_c u346 (by decide) ((up_k u337 (by decide) (h330))))); omega), (by have := congrArg Int32.toInt (show FI345 121 68 = x329 from (up_c u346 (by decide) ((up_k u337 (by decide) (h330))))); omega), (by have := congrArg Int32.toInt (show FI345 121 68 = x329 from (up_c u346 (by decide) ((up_k u337 (by decide) (h330))))); have := congrArg Int32.toInt (show FI345 121 73 = x292 from (up_c u346 (by decide) ((up_k u337 (by decide) ((gf_at f321 (c121 hS) (s121 hS) rfl ((up_k u298 (by decide) (h293))))))))); omega), (by have := congrArg Int32.toInt (show FI345 121 73 = x292 from (up_c u346 (by decide) ((up_k u337 (by decide) ((gf_at f321 (c121 hS) (s121 hS) rfl ((up_k u298 (by decide) (h293))))))))); omega), (by have := congrArg Int32.toInt (show FI345 121 71 = x334 from (up_c u346 (by decide) (up_eq u337))); have := (e335 : (x334).toInt = ((x230).toInt) - (1)); omega), (by have := congrArg Int32.toInt (show FI345 121 68 = x329 from (up_c u346 (by decide) ((up_k u337 (by decide) (h330))))); have := congrArg Int32.toInt (show FI345 121 69 = x332 from (up_c u346 (by decide) ((up_k u337 (by decide) (h333))))); intro h69; rw [hq3 (by omega)]; exact Or.inr ⟨hcu, (y2).toInt.toNat + 1, by omega, hpts⟩), (by have := congrArg Int32.toInt (show FI345 121 69 = x332 from (up_c u346 (by decide) ((up_k u337 (by decide) (h333))))); have := congrArg Int32.toInt (show FI345 121 71 = x334 from (up_c u346 (by decide) (up_eq u337))); have := (e335 : (x334).toInt = ((x230).toInt) - (1)); exact fun _ => by omega), (by have := congrArg Int32.toInt (show FI345 121 68 = x329 from (up_c u346 (by decide) ((up_k u337 (by decide) (h330))))); have := congrArg Int32.toInt (show FI345 121 69 = x332 from (up_c u346 (by decide) ((up_k u337 (by decide) (h333))))); have := congrArg Int32.toInt (show FI345 121 73 = x292 from (up_c u346 (by decide) ((up_k u337 (by decide) ((gf_at f321 (c121 hS) (s121 hS) rfl ((up_k u298 (by decide) (h293))))))))); intro h69; have := hid_e hsh (by omega); have := wp_nc rel_wh (t := FI210 121 68) (u := FI345 121 68) (by omega); omega)⟩
                              · omega
                            · replace t310 := t310 (by omega)
                              have hsn := gr_pf_snoc xi33_0 (hgp (by omega)) (hcm.mp (by omega))
                              refine hw_aloadn (aX12_location 97 rfl) rfl ?_
                              refine hw_aloadn (aX12_location 98 rfl) rfl ?_
                              refine hw_get (v := .int (x295)) (aX12_location 99 rfl) wf_RX12_478 (c121 hS) (s121 hS) (by decide) (congrArg Value.int (show FI297 121 68 = x295 from up_eq u298)) ?_
                              refine hw_ic (v := (1 : Int32)) (aX12_location 100 rfl) (by decide) ?_
                              refine xw_iadd (aX12_location 101 rfl) ?_
                              refine hw_tie (A := (((x248).toInt) + (1)) + (1)) (i_add e296 (by decide : (1 : Int32).toInt = 1) (by omega) (by omega)) (fun x354 e355 => ?_)
                              refine hv_puti (aX12_location 102 rfl) wf_RX12_478 (c121 hS) (s121 hS) (by decide) rfl rfl (fun FI356 u357 => ?_)
                              have rl358 : rl_e (FI356 149) (FI356 121 67) := by rw [show FI356 149 = FI297 149 from up_row u357 (by decide) rfl, show FI356 121 67 = FI297 121 67 from up_k u357 (by decide) rfl]; exact rl299
                              have rl359 : rl_t (FI356 149) (FL 150) := by rw [show FI356 149 = FI297 149 from up_row u357 (by decide) rfl]; exact rl300
                              have rl360 : rl_w (FI356 121 67) (FI356 149) (FL 150) (FI356 151) := by rw [show FI356 149 = FI297 149 from up_row u357 (by decide) rfl, show FI356 151 = FI297 151 from up_row u357 (by decide) rfl, show FI356 121 67 = FI297 121 67 from up_k u357 (by decide) rfl]; exact rl301
                              have hI361 : g_I FI356 := gU_121_68 hI302 u357 (by have := (e355 : (x354).toInt = (((x248).toInt) + (1)) + (1)); omega) (by have := (e355 : (x354).toInt = (((x248).toInt) + (1)) + (1)); omega)
                              have hq68 : ((FI356 121 68).toInt).toNat = (FI210 121 68).toInt.toNat + 3 := by have := congrArg Int32.toInt (show FI356 121 68 = x354 from up_eq u357); have := (e355 : (x354).toInt = (((x248).toInt) + (1)) + (1)); omega
                              refine xw_goto (tgt := 22) (aX12_location 103 rfl) (by decide) ?_
                              refine xw_iloadn (aX12_location 13 rfl) rfl ?_
                              refine hw_ifeq (tgt := 197) (aX12_location 14 rfl) (by decide) rfl (fun cd362 => ?_) (fun cd362 => ?_)
                              · omega
                              · refine hw_aloadn (aX12_location 15 rfl) rfl ?_
                                refine hw_get (v := .int (x251)) (aX12_location 16 rfl) wf_RX12_475 (c121 hS) (s121 hS) (by decide) (congrArg Value.int (show FI356 121 69 = x251 from (up_k u357 (by decide) ((up_k u298 (by decide) ((gf_at f285 (c121 hS) (s121 hS) rfl ((gf_at f270 (c121 hS) (s121 hS) rfl (h252)))))))))) ?_
                                refine hw_ifne (tgt := 197) (aX12_location 17 rfl) (by decide) rfl (fun cd363 => ?_) (fun cd363 => ?_)
                                · omega
                                · exact hw_L (ih (x303) FI356 (gf_f (gf_f (gf_tr ex_rf (gf_tr ex_rf (gf_tr ex_rf (gf_tr ex_rf fr165 f212 rfl rfl rfl) f240 rfl rfl rfl) f270 rfl rfl rfl) f285 rfl rfl rfl) u298 (by decide)) u357 (by decide)) hI361 (show FI356 121 67 = x4 from (up_k u357 (by decide) ((up_k u298 (by decide) ((gf_at f285 (c121 hS) (s121 hS) rfl ((gf_at f270 (c121 hS) (s121 hS) rfl ((gf_at f240 (c121 hS) (s121 hS) rfl ((gf_at f212 (c121 hS) (s121 hS) rfl (kp167))))))))))))) (show FI356 121 78 = x14 from (up_k u357 (by decide) ((up_k u298 (by decide) ((gf_at f285 (c121 hS) (s121 hS) rfl ((gf_at f270 (c121 hS) (s121 hS) rfl ((gf_at f240 (c121 hS) (s121 hS) rfl ((gf_at f212 (c121 hS) (s121 hS) rfl (kp168))))))))))))) (show rl_e (FI356 149) (FI356 121 67) from rl358) (show rl_t (FI356 149) (FL 150) from rl359) (show rl_w (FI356 121 67) (FI356 149) (FL 150) (FI356 151) from rl360) (by have := (e304 : (x303).toInt = ((y2).toInt) + (1)); omega) (by have := (e304 : (x303).toInt = ((y2).toInt) + (1)); have := congrArg Int32.toInt (show FI356 121 68 = x354 from up_eq u357); have := (e355 : (x354).toInt = (((x248).toInt) + (1)) + (1)); omega) (by have := (e304 : (x303).toInt = ((y2).toInt) + (1)); have := congrArg Int32.toInt (show FI356 121 69 = x251 from (up_k u357 (by decide) ((up_k u298 (by decide) ((gf_at f285 (c121 hS) (s121 hS) rfl ((gf_at f270 (c121 hS) (s121 hS) rfl (h252))))))))); omega) (by have := (e304 : (x303).toInt = ((y2).toInt) + (1)); have := congrArg Int32.toInt (show FI356 121 67 = x4 from (up_k u357 (by decide) ((up_k u298 (by decide) ((gf_at f285 (c121 hS) (s121 hS) rfl ((gf_at f270 (c121 hS) (s121 hS) rfl ((gf_at f240 (c121 hS) (s121 hS) rfl ((gf_at f212 (c121 hS) (s121 hS) rfl (kp167))))))))))))); have := congrArg Int32.toInt (show FI356 121 68 = x354 from up_eq u357); have := (e355 : (x354).toInt = (((x248).toInt) + (1)) + (1)); omega) (by have := (e304 : (x303).toInt = ((y2).toInt) + (1)); have := congrArg Int32.toInt (show FI356 121 68 = x354 from up_eq u357); have := (e355 : (x354).toInt = (((x248).toInt) + (1)) + (1)); omega) (by have := (e304 : (x303).toInt = ((y2).toInt) + (1)); have := congrArg Int32.toInt (show FI356 121 68 = x354 from up_eq u357); have := (e355 : (x354).toInt = (((x248).toInt) + (1)) + (1)); have := congrArg Int32.toInt (show FI356 121 73 = x292 from (up_k u357 (by decide) ((up_k u298 (by decide) (h293))))); omega) (by have := (e304 : (x303).toInt = ((y2).toInt) + (1)); have := congrArg Int32.toInt (show FI356 121 73 = x292 from (up_k u357 (by decide) ((up_k u298 (by decide) (h293))))); omega) (by have := (e304 : (x303).toInt = ((y2).toInt) + (1)); have := congrArg Int32.toInt (show FI356 121 71 = x230 from (up_k u357 (by decide) ((up_k u298 (by decide) ((gf_at f285 (c121 hS) (s121 hS) rfl ((gf_at f270 (c121 hS) (s121 hS) rfl ((gf_at f240 (c121 hS) (s121 hS) rfl (h231))))))))))); omega) (show gr_pf (kf (FI 149)) (wf (FL 150)) ((x303).toInt : Int).toNat ((FI 121 68).toInt.toNat + 1) ((FI356 121 68).toInt).toNat from (by have := (e304 : (x303).toInt = ((y2).toInt) + (1)); have := congrArg Int32.toInt (show FI356 121 68 = x354 from up_eq u357); have := (e355 : (x354).toInt = (((x248).toInt) + (1)) + (1)); exact (by have z := hsn; rw [show ((x303).toInt : Int).toNat = (y2).toInt.toNat + 1 by omega, hq68]; exact z))) (show (FI356 121 73).toInt + 4 - 4 * wp (FI 151) (FI356 121 68) ≤ (FI 121 73).toInt - 4 * wp (FI 151) (FI 121 68) from (by have := (e304 : (x303).toInt = ((y2).toInt) + (1)); have := congrArg Int32.toInt (show FI356 121 73 = x292 from (up_k u357 (by decide) ((up_k u298 (by decide) (h293))))); exact (by have := hid_e hsh (by omega); have := wp_nc rel_wh (t := FI210 121 68) (u := FI356 121 68) (by omega); omega))) (show FI356 149 = FI 149 from (up_row u357 (by decide) ((up_row u298 (by decide) ((gf_row f285 (c149 hS) (s149 hS) rfl ((gf_row f270 (c149 hS) (s149 hS) rfl ((gf_row f240 (c149 hS) (s149 hS) rfl ((gf_row f212 (c149 hS) (s149 hS) rfl (rw180))))))))))))) (show FI356 151 = FI 151 from (up_row u357 (by decide) ((up_row u298 (by decide) ((gf_row f285 (c151 hS) (s151 hS) rfl ((gf_row f270 (c151 hS) (s151 hS) rfl ((gf_row f240 (c151 hS) (s151 hS) rfl ((gf_row f212 (c151 hS) (s151 hS) rfl (rw181))))))))))))) (by have := (e304 : (x303).toInt = ((y2).toInt) + (1)); have := congrArg Int32.toInt (show FI356 121 68 = x354 from up_eq u357); have := (e355 : (x354).toInt = (((x248).toInt) + (1)) + (1)); omega)) ⟨rfl, rfl, rfl, trivial⟩
                          · omega
                        · refine hw_aloadn (aX12_location 64 rfl) rfl ?_
                          refine hw_ic (v := (3 : Int32)) (aX12_location 65 rfl) (by decide) ?_
                          refine hw_callV (Bs := [.int ((3 : Int32))]) (rest := []) (aX12_location 66 rfl) wc_RX12_487 (by decide) rfl wi_yX12_fail wv_yX12_fail (c121 hS) (s121 hS) rfl rfl rfl (Nat.le_of_ble_eq_true rfl) (Nat.le_of_ble_eq_true rfl) (n_fail (d := d + 7) hS hF hI239 ((3 : Int32)) (by have := ((by decide : (3 : Int32).toInt = 3) : ((3 : Int32)).toInt = 3); omega)) (fun v364 sv365 p366 => ?_)
                          obtain ⟨rfl, FI368, rfl, hI369, f370, t371⟩ := p366
                          have rl372 : rl_e (FI368 149) (FI368 121 67) := by rw [show FI368 149 = FI238 149 from gf_row f370 (c149 hS) (s149 hS) rfl rfl, show FI368 121 67 = FI238 121 67 from gf_at f370 (c121 hS) (s121 hS) rfl rfl]; exact rl245
                          have rl373 : rl_t (FI368 149) (FL 150) := by rw [show FI368 149 = FI238 149 from gf_row f370 (c149 hS) (s149 hS) rfl rfl]; exact rl246
                          have rl374 : rl_w (FI368 121 67) (FI368 149) (FL 150) (FI368 151) := by rw [show FI368 149 = FI238 149 from gf_row f370 (c149 hS) (s149 hS) rfl rfl, show FI368 151 = FI238 151 from gf_row f370 (c151 hS) (s151 hS) rfl rfl, show FI368 121 67 = FI238 121 67 from gf_at f370 (c121 hS) (s121 hS) rfl rfl]; exact rl247
                          obtain ⟨x375, h376⟩ : ∃ y, FI368 121 69 = y := ⟨_, rfl⟩
                          have h376l := congrArg Int32.toInt h376
                          have := i_rng x375
                          show hw zk base _ _ _ _ _ [] _ _
                          refine hw_aloadn (aX12_location 67 rfl) rfl ?_
                          refine hw_get (v := .int (x375)) (aX12_location 68 rfl) wf_RX12_475 (c121 hS) (s121 hS) (by decide) (congrArg Value.int (show FI368 121 69 = x375 from h376)) ?_
                          refine hw_ifeq (tgt := 139) (aX12_location 69 rfl) (by decide) rfl (fun cd377 => ?_) (fun cd377 => ?_)
                          · omega
                          · refine xw_vret (aX12_location 70 rfl) rfl ?_
                            exact ⟨rfl, FI368, rfl, hI369, (gf_tr ex_rf (gf_tr ex_rf (gf_tr ex_rf fr165 f212 rfl rfl rfl) f240 rfl rfl rfl) f370 rfl rfl rfl), (by have := congrArg Int32.toInt (show FI368 121 67 = x4 from (gf_at f370 (c121 hS) (s121 hS) rfl ((gf_at f240 (c121 hS) (s121 hS) rfl ((gf_at f212 (c121 hS) (s121 hS) rfl (kp167))))))); have := congrArg Int32.toInt (show FI368 121 68 = x248 from (gf_at f370 (c121 hS) (s121 hS) rfl (h249))); omega), (by have := congrArg Int32.toInt (show FI368 121 68 = x248 from (gf_at f370 (c121 hS) (s121 hS) rfl (h249))); omega), (by have := congrArg Int32.toInt (show FI368 121 68 = x248 from (gf_at f370 (c121 hS) (s121 hS) rfl (h249))); have := congrArg Int32.toInt (show FI368 121 73 = x227 from (gf_at f370 (c121 hS) (s121 hS) rfl ((gf_at f240 (c121 hS) (s121 hS) rfl (h228))))); omega), (by have := congrArg Int32.toInt (show FI368 121 73 = x227 from (gf_at f370 (c121 hS) (s121 hS) rfl ((gf_at f240 (c121 hS) (s121 hS) rfl (h228))))); omega), (by have := congrArg Int32.toInt (show FI368 121 71 = x230 from (gf_at f370 (c121 hS) (s121 hS) rfl ((gf_at f240 (c121 hS) (s121 hS) rfl (h231))))); omega), (by have := congrArg Int32.toInt (show FI368 121 69 = x375 from h376); exact fun h => absurd h (by omega)), (by have := congrArg Int32.toInt (show FI368 121 69 = x375 from h376); exact fun h => absurd h (by omega)), (by have := congrArg Int32.toInt (show FI368 121 69 = x375 from h376); exact fun h => absurd h (by omega))⟩
                    · refine hw_aloadn (aX12_location 50 rfl) rfl ?_
                      refine hw_ic (v := (1 : Int32)) (aX12_location 51 rfl) (by decide) ?_
                      refine hw_callV (Bs := [.int ((1 : Int32))]) (rest := []) (aX12_location 52 rfl) wc_RX12_487 (by decide) rfl wi_yX12_fail wv_yX12_fail (c121 hS) (s121 hS) rfl rfl rfl (Nat.le_of_ble_eq_true rfl) (Nat.le_of_ble_eq_true rfl) (n_fail (d := d + 7) hS hF hI239 ((1 : Int32)) (by have := ((by decide : (1 : Int32).toInt = 1) : ((1 : Int32)).toInt = 1); omega)) (fun v378 sv379 p380 => ?_)
                      obtain ⟨rfl, FI382, rfl, hI383, f384, t385⟩ := p380
                      have rl386 : rl_e (FI382 149) (FI382 121 67) := by rw [show FI382 149 = FI238 149 from gf_row f384 (c149 hS) (s149 hS) rfl rfl, show FI382 121 67 = FI238 121 67 from gf_at f384 (c121 hS) (s121 hS) rfl rfl]; exact rl245
                      have rl387 : rl_t (FI382 149) (FL 150) := by rw [show FI382 149 = FI238 149 from gf_row f384 (c149 hS) (s149 hS) rfl rfl]; exact rl246
                      have rl388 : rl_w (FI382 121 67) (FI382 149) (FL 150) (FI382 151) := by rw [show FI382 149 = FI238 149 from gf_row f384 (c149 hS) (s149 hS) rfl rfl, show FI382 151 = FI238 151 from gf_row f384 (c151 hS) (s151 hS) rfl rfl, show FI382 121 67 = FI238 121 67 from gf_at f384 (c121 hS) (s121 hS) rfl rfl]; exact rl247
                      obtain ⟨x389, h390⟩ : ∃ y, FI382 121 69 = y := ⟨_, rfl⟩
                      have h390l := congrArg Int32.toInt h390
                      have := i_rng x389
                      show hw zk base _ _ _ _ _ [] _ _
                      refine hw_aloadn (aX12_location 53 rfl) rfl ?_
                      refine hw_get (v := .int (x389)) (aX12_location 54 rfl) wf_RX12_475 (c121 hS) (s121 hS) (by decide) (congrArg Value.int (show FI382 121 69 = x389 from h390)) ?_
                      refine hw_ifne (tgt := 131) (aX12_location 55 rfl) (by decide) rfl (fun cd391 => ?_) (fun cd391 => ?_)
                      · refine hw_aloadn (aX12_location 67 rfl) rfl ?_
                        refine hw_get (v := .int (x389)) (aX12_location 68 rfl) wf_RX12_475 (c121 hS) (s121 hS) (by decide) (congrArg Value.int (show FI382 121 69 = x389 from h390)) ?_
                        refine hw_ifeq (tgt := 139) (aX12_location 69 rfl) (by decide) rfl (fun cd392 => ?_) (fun cd392 => ?_)
                        · omega
                        · refine xw_vret (aX12_location 70 rfl) rfl ?_
                          exact ⟨rfl, FI382, rfl, hI383, (gf_tr ex_rf (gf_tr ex_rf (gf_tr ex_rf fr165 f212 rfl rfl rfl) f240 rfl rfl rfl) f384 rfl rfl rfl), (by have := congrArg Int32.toInt (show FI382 121 67 = x4 from (gf_at f384 (c121 hS) (s121 hS) rfl ((gf_at f240 (c121 hS) (s121 hS) rfl ((gf_at f212 (c121 hS) (s121 hS) rfl (kp167))))))); have := congrArg Int32.toInt (show FI382 121 68 = x248 from (gf_at f384 (c121 hS) (s121 hS) rfl (h249))); omega), (by have := congrArg Int32.toInt (show FI382 121 68 = x248 from (gf_at f384 (c121 hS) (s121 hS) rfl (h249))); omega), (by have := congrArg Int32.toInt (show FI382 121 68 = x248 from (gf_at f384 (c121 hS) (s121 hS) rfl (h249))); have := congrArg Int32.toInt (show FI382 121 73 = x227 from (gf_at f384 (c121 hS) (s121 hS) rfl ((gf_at f240 (c121 hS) (s121 hS) rfl (h228))))); omega), (by have := congrArg Int32.toInt (show FI382 121 73 = x227 from (gf_at f384 (c121 hS) (s121 hS) rfl ((gf_at f240 (c121 hS) (s121 hS) rfl (h228))))); omega), (by have := congrArg Int32.toInt (show FI382 121 71 = x230 from (gf_at f384 (c121 hS) (s121 hS) rfl ((gf_at f240 (c121 hS) (s121 hS) rfl (h231))))); omega), (by have := congrArg Int32.toInt (show FI382 121 69 = x389 from h390); exact fun h => absurd h (by omega)), (by have := congrArg Int32.toInt (show FI382 121 69 = x389 from h390); exact fun h => absurd h (by omega)), (by have := congrArg Int32.toInt (show FI382 121 69 = x389 from h390); exact fun h => absurd h (by omega))⟩
                      · omega
                · omega
              · refine hw_aloadn (aX12_location 28 rfl) rfl ?_
                refine hw_bp (v := (6 : Int32)) (aX12_location 29 rfl) (by decide) ?_
                refine hw_callV (Bs := [.int ((6 : Int32))]) (rest := []) (aX12_location 30 rfl) wc_RX12_487 (by decide) rfl wi_yX12_fail wv_yX12_fail (c121 hS) (s121 hS) rfl rfl rfl (Nat.le_of_ble_eq_true rfl) (Nat.le_of_ble_eq_true rfl) (n_fail (d := d + 7) hS hF hI166 ((6 : Int32)) (by have := ((by decide : (6 : Int32).toInt = 6) : ((6 : Int32)).toInt = 6); omega)) (fun v393 sv394 p395 => ?_)
                obtain ⟨rfl, FI397, rfl, hI398, f399, t400⟩ := p395
                have rl401 : rl_e (FI397 149) (FI397 121 67) := by rw [show FI397 149 = FIv164 149 from gf_row f399 (c149 hS) (s149 hS) rfl rfl, show FI397 121 67 = FIv164 121 67 from gf_at f399 (c121 hS) (s121 hS) rfl rfl]; exact rl169
                have rl402 : rl_t (FI397 149) (FL 150) := by rw [show FI397 149 = FIv164 149 from gf_row f399 (c149 hS) (s149 hS) rfl rfl]; exact rl170
                have rl403 : rl_w (FI397 121 67) (FI397 149) (FL 150) (FI397 151) := by rw [show FI397 149 = FIv164 149 from gf_row f399 (c149 hS) (s149 hS) rfl rfl, show FI397 151 = FIv164 151 from gf_row f399 (c151 hS) (s151 hS) rfl rfl, show FI397 121 67 = FIv164 121 67 from gf_at f399 (c121 hS) (s121 hS) rfl rfl]; exact rl171
                obtain ⟨x404, h405⟩ : ∃ y, FI397 121 69 = y := ⟨_, rfl⟩
                have h405l := congrArg Int32.toInt h405
                have := i_rng x404
                show hw zk base _ _ _ _ _ [] _ _
                refine hw_aloadn (aX12_location 31 rfl) rfl ?_
                refine hw_get (v := .int (x404)) (aX12_location 32 rfl) wf_RX12_475 (c121 hS) (s121 hS) (by decide) (congrArg Value.int (show FI397 121 69 = x404 from h405)) ?_
                refine hw_ifeq (tgt := 68) (aX12_location 33 rfl) (by decide) rfl (fun cd406 => ?_) (fun cd406 => ?_)
                · omega
                · refine xw_vret (aX12_location 34 rfl) rfl ?_
                  exact ⟨rfl, FI397, rfl, hI398, (gf_tr ex_rf fr165 f399 rfl rfl rfl), (by have := congrArg Int32.toInt (show FI397 121 67 = x4 from (gf_at f399 (c121 hS) (s121 hS) rfl (kp167))); have := congrArg Int32.toInt (show FI397 121 68 = x183 from (gf_at f399 (c121 hS) (s121 hS) rfl (h184))); omega), (by have := congrArg Int32.toInt (show FI397 121 68 = x183 from (gf_at f399 (c121 hS) (s121 hS) rfl (h184))); omega), (by have := congrArg Int32.toInt (show FI397 121 68 = x183 from (gf_at f399 (c121 hS) (s121 hS) rfl (h184))); have := congrArg Int32.toInt (show FI397 121 73 = x188 from (gf_at f399 (c121 hS) (s121 hS) rfl (h189))); omega), (by have := congrArg Int32.toInt (show FI397 121 73 = x188 from (gf_at f399 (c121 hS) (s121 hS) rfl (h189))); omega), (by have := congrArg Int32.toInt (show FI397 121 71 = x191 from (gf_at f399 (c121 hS) (s121 hS) rfl (h192))); omega), (by have := congrArg Int32.toInt (show FI397 121 69 = x404 from h405); exact fun h => absurd h (by omega)), (by have := congrArg Int32.toInt (show FI397 121 69 = x404 from h405); exact fun h => absurd h (by omega)), (by have := congrArg Int32.toInt (show FI397 121 69 = x404 from h405); exact fun h => absurd h (by omega))⟩
            · clear t200
              refine hw_aloadn (aX12_location 21 rfl) rfl ?_
              refine hw_ic (v := (1 : Int32)) (aX12_location 22 rfl) (by decide) ?_
              refine hw_callV (Bs := [.int ((1 : Int32))]) (rest := []) (aX12_location 23 rfl) wc_RX12_487 (by decide) rfl wi_yX12_fail wv_yX12_fail (c121 hS) (s121 hS) rfl rfl rfl (Nat.le_of_ble_eq_true rfl) (Nat.le_of_ble_eq_true rfl) (n_fail (d := d + 7) hS hF hI166 ((1 : Int32)) (by have := ((by decide : (1 : Int32).toInt = 1) : ((1 : Int32)).toInt = 1); omega)) (fun v407 sv408 p409 => ?_)
              obtain ⟨rfl, FI411, rfl, hI412, f413, t414⟩ := p409
              have rl415 : rl_e (FI411 149) (FI411 121 67) := by rw [show FI411 149 = FIv164 149 from gf_row f413 (c149 hS) (s149 hS) rfl rfl, show FI411 121 67 = FIv164 121 67 from gf_at f413 (c121 hS) (s121 hS) rfl rfl]; exact rl169
              have rl416 : rl_t (FI411 149) (FL 150) := by rw [show FI411 149 = FIv164 149 from gf_row f413 (c149 hS) (s149 hS) rfl rfl]; exact rl170
              have rl417 : rl_w (FI411 121 67) (FI411 149) (FL 150) (FI411 151) := by rw [show FI411 149 = FIv164 149 from gf_row f413 (c149 hS) (s149 hS) rfl rfl, show FI411 151 = FIv164 151 from gf_row f413 (c151 hS) (s151 hS) rfl rfl, show FI411 121 67 = FIv164 121 67 from gf_at f413 (c121 hS) (s121 hS) rfl rfl]; exact rl171
              obtain ⟨x418, h419⟩ : ∃ y, FI411 121 69 = y := ⟨_, rfl⟩
              have h419l := congrArg Int32.toInt h419
              have := i_rng x418
              show hw zk base _ _ _ _ _ [] _ _
              refine xw_goto (tgt := 60) (aX12_location 24 rfl) (by decide) ?_
              refine hw_aloadn (aX12_location 31 rfl) rfl ?_
              refine hw_get (v := .int (x418)) (aX12_location 32 rfl) wf_RX12_475 (c121 hS) (s121 hS) (by decide) (congrArg Value.int (show FI411 121 69 = x418 from h419)) ?_
              refine hw_ifeq (tgt := 68) (aX12_location 33 rfl) (by decide) rfl (fun cd420 => ?_) (fun cd420 => ?_)
              · omega
              · refine xw_vret (aX12_location 34 rfl) rfl ?_
                exact ⟨rfl, FI411, rfl, hI412, (gf_tr ex_rf fr165 f413 rfl rfl rfl), (by have := congrArg Int32.toInt (show FI411 121 67 = x4 from (gf_at f413 (c121 hS) (s121 hS) rfl (kp167))); have := congrArg Int32.toInt (show FI411 121 68 = x183 from (gf_at f413 (c121 hS) (s121 hS) rfl (h184))); omega), (by have := congrArg Int32.toInt (show FI411 121 68 = x183 from (gf_at f413 (c121 hS) (s121 hS) rfl (h184))); omega), (by have := congrArg Int32.toInt (show FI411 121 68 = x183 from (gf_at f413 (c121 hS) (s121 hS) rfl (h184))); have := congrArg Int32.toInt (show FI411 121 73 = x188 from (gf_at f413 (c121 hS) (s121 hS) rfl (h189))); omega), (by have := congrArg Int32.toInt (show FI411 121 73 = x188 from (gf_at f413 (c121 hS) (s121 hS) rfl (h189))); omega), (by have := congrArg Int32.toInt (show FI411 121 71 = x191 from (gf_at f413 (c121 hS) (s121 hS) rfl (h192))); omega), (by have := congrArg Int32.toInt (show FI411 121 69 = x418 from h419); exact fun h => absurd h (by omega)), (by have := congrArg Int32.toInt (show FI411 121 69 = x418 from h419); exact fun h => absurd h (by omega)), (by have := congrArg Int32.toInt (show FI411 121 69 = x418 from h419); exact fun h => absurd h (by omega))⟩
        exact hw_L (lp182 ((1001 - (x115).toInt : Int).toNat + 1) ((0 : Int32)) FI106 (gf_tr ex_rf gf_rf f108 rfl rfl rfl) hI107 (show FI106 121 67 = x4 from (gf_at f108 (c121 hS) (s121 hS) rfl (h5))) (show FI106 121 78 = x14 from (gf_at f108 (c121 hS) (s121 hS) rfl (h15))) (show rl_e (FI106 149) (FI106 121 67) from rl112) (show rl_t (FI106 149) (FL 150) from rl113) (show rl_w (FI106 121 67) (FI106 149) (FL 150) (FI106 151) from rl114) (by have := ((by decide : (0 : Int32).toInt = 0) : ((0 : Int32)).toInt = 0); omega) (by have := ((by decide : (0 : Int32).toInt = 0) : ((0 : Int32)).toInt = 0); have := congrArg Int32.toInt (show FI106 121 68 = x115 from h116); omega) (by have := ((by decide : (0 : Int32).toInt = 0) : ((0 : Int32)).toInt = 0); have := congrArg Int32.toInt (show FI106 121 69 = x120 from h121); omega) (by have := ((by decide : (0 : Int32).toInt = 0) : ((0 : Int32)).toInt = 0); have := congrArg Int32.toInt (show FI106 121 67 = x4 from (gf_at f108 (c121 hS) (s121 hS) rfl (h5))); have := congrArg Int32.toInt (show FI106 121 68 = x115 from h116); omega) (by have := ((by decide : (0 : Int32).toInt = 0) : ((0 : Int32)).toInt = 0); have := congrArg Int32.toInt (show FI106 121 68 = x115 from h116); omega) (by have := ((by decide : (0 : Int32).toInt = 0) : ((0 : Int32)).toInt = 0); have := congrArg Int32.toInt (show FI106 121 68 = x115 from h116); have := congrArg Int32.toInt (show FI106 121 73 = x9 from (gf_at f108 (c121 hS) (s121 hS) rfl (h10))); omega) (by have := ((by decide : (0 : Int32).toInt = 0) : ((0 : Int32)).toInt = 0); have := congrArg Int32.toInt (show FI106 121 73 = x9 from (gf_at f108 (c121 hS) (s121 hS) rfl (h10))); omega) (by have := ((by decide : (0 : Int32).toInt = 0) : ((0 : Int32)).toInt = 0); have := congrArg Int32.toInt (show FI106 121 71 = x118 from h119); omega) (show gr_pf (kf (FI 149)) (wf (FL 150)) (0 : Int).toNat ((FI 121 68).toInt.toNat + 1) ((FI106 121 68).toInt).toNat from (by have := ((by decide : (0 : Int32).toInt = 0) : ((0 : Int32)).toInt = 0); have := congrArg Int32.toInt (show FI106 121 68 = x115 from h116); exact (by rw [show ((FI106 121 68).toInt).toNat = (FI 121 68).toInt.toNat + 1 by omega, show (0 : Int).toNat = 0 by omega]; rfl))) (show (FI106 121 73).toInt + 4 - 4 * wp (FI 151) (FI106 121 68) ≤ (FI 121 73).toInt - 4 * wp (FI 151) (FI 121 68) from (by have := ((by decide : (0 : Int32).toInt = 0) : ((0 : Int32)).toInt = 0); have := congrArg Int32.toInt (show FI106 121 73 = x9 from (gf_at f108 (c121 hS) (s121 hS) rfl (h10))); exact (by have := wp_nc rel_wh (t := FI 121 68) (u := FI106 121 68) (by omega); omega))) (show FI106 149 = FI 149 from (gf_row f108 (c149 hS) (s149 hS) rfl (rfl))) (show FI106 151 = FI 151 from (gf_row f108 (c151 hS) (s151 hS) rfl (rfl))) (by have := ((by decide : (0 : Int32).toInt = 0) : ((0 : Int32)).toInt = 0); have := congrArg Int32.toInt (show FI106 121 68 = x115 from h116); omega)) ⟨rfl, rfl, rfl, trivial⟩
