def nX12_location : Nat := 0xb154040302b42a9300b42a0d00a42c0111641bed01b42ae701b6042a0800a72002b62a0a00991d02b62a1600a7ea01b56404ea01b42a2a0f02b67d102a54ffa7de01b56004de01b42a2a61ff991d3ee401b62c102a3d60041cde01b56004de01b42a2a2502b62fde01b42a6c00b42a2af001b69300112ab1040099db01b42ae701b6062a08009e942302142fde01b42a6c00b42a18009adb01b42ae701b6042a08009f062ede01b42a6900b42a15009adb01b42a0f02b62f102a2002b62ab1040099db01b42ae701b606102a0900a008101c0f00a7e701b6042a0b009a1d02b62aa7009adb01b42aae00991d3e043d031a02b62acd0099e401b67b102a3ced01b42a
theorem bX12_location : cX12_location.data.toList.map UInt8.toNat = x_un nX12_location 258 := by decide +kernel
def iX12_location : List (Nat × Jvm.ClassFile.Instr × Nat) := [(0, .aload_n 0, 1), (1, .getfield 493, 3), (4, .istore_n 1, 1), (5, .aload_n 0, 1), (6, .bipush 123, 2), (8, .invokevirtual 484, 3), (11, .ifCond .eq 205, 3), (14, .aload_n 0, 1), (15, .invokevirtual 538, 3), (18, .iconst 0, 1), (19, .istore_n 2, 1), (20, .iconst 1, 1), (21, .istore_n 3, 1), (22, .iload_n 3, 1), (23, .ifCond .eq 174, 3), (26, .aload_n 0, 1), (27, .getfield 475, 3), (30, .ifCond .ne 167, 3), (33, .aload_n 0, 1), (34, .invokevirtual 541, 3), (37, .ifCond .ne 11, 3), (40, .aload_n 0, 1), (41, .iconst 1, 1), (42, .invokevirtual 487, 3), (45, .goto 15, 3), (48, .iload_n 2, 1), (49, .bipush 8, 2), (51, .if_icmp .ne 9, 3), (54, .aload_n 0, 1), (55, .bipush 6, 2), (57, .invokevirtual 487, 3), (60, .aload_n 0, 1), (61, .getfield 475, 3), (64, .ifCond .eq 4, 3), (67, .return_, 1), (68, .aload_n 0, 1), (69, .invokevirtual 544, 3), (72, .aload_n 0, 1), (73, .bipush 47, 2), (75, .invokevirtual 527, 3), (78, .aload_n 0, 1), (79, .getfield 475, 3), (82, .ifCond .ne 21, 3), (85, .aload_n 0, 1), (86, .getfield 105, 3), (89, .aload_n 0, 1), (90, .getfield 478, 3), (93, .iaload, 1), (94, .iconst 3, 1), (95, .if_icmp .eq 8, 3), (98, .aload_n 0, 1), (99, .iconst 1, 1), (100, .invokevirtual 487, 3), (103, .aload_n 0, 1), (104, .getfield 475, 3), (107, .ifCond .ne 24, 3), (110, .aload_n 0, 1), (111, .getfield 108, 3), (114, .aload_n 0, 1), (115, .getfield 478, 3), (118, .laload, 1), (119, .ldc2_w 547, 3), (122, .lcmp, 1), (123, .ifCond .le 8, 3), (126, .aload_n 0, 1), (127, .iconst 3, 1), (128, .invokevirtual 487, 3), (131, .aload_n 0, 1), (132, .getfield 475, 3), (135, .ifCond .eq 4, 3), (138, .return_, 1), (139, .aload_n 0, 1), (140, .sipush 147, 3), (143, .invokevirtual 496, 3), (146, .aload_n 0, 1), (147, .aload_n 0, 1), (148, .getfield 108, 3), (151, .aload_n 0, 1), (152, .getfield 478, 3), (155, .laload, 1), (156, .invokevirtual 549, 3), (159, .aload_n 0, 1), (160, .aload_n 0, 1), (161, .getfield 478, 3), (164, .iconst 1, 1), (165, .iadd, 1), (166, .putfield 478, 3), (169, .iload_n 2, 1), (170, .iconst 1, 1), (171, .iadd, 1), (172, .istore_n 2, 1), (173, .aload_n 0, 1), (174, .bipush 44, 2), (176, .invokevirtual 484, 3), (179, .istore_n 3, 1), (180, .iload_n 3, 1), (181, .ifCond .eq (-159), 3), (184, .aload_n 0, 1), (185, .aload_n 0, 1), (186, .getfield 478, 3), (189, .iconst 1, 1), (190, .iadd, 1), (191, .putfield 478, 3), (194, .goto (-172), 3), (197, .aload_n 0, 1), (198, .bipush 125, 2), (200, .invokevirtual 527, 3), (203, .aload_n 0, 1), (204, .aload_n 0, 1), (205, .getfield 490, 3), (208, .iconst 1, 1), (209, .isub, 1), (210, .putfield 490, 3), (213, .goto 22, 3), (216, .aload_n 0, 1), (217, .invokevirtual 541, 3), (220, .ifCond .eq 10, 3), (223, .aload_n 0, 1), (224, .invokevirtual 544, 3), (227, .goto 8, 3), (230, .aload_n 0, 1), (231, .iconst 1, 1), (232, .invokevirtual 487, 3), (235, .aload_n 0, 1), (236, .getfield 493, 3), (239, .iload_n 1, 1), (240, .isub, 1), (241, .sipush 300, 3), (244, .if_icmp .le 13, 3), (247, .aload_n 0, 1), (248, .getfield 147, 3), (251, .aload_n 0, 1), (252, .getfield 515, 3), (255, .iconst 1, 1), (256, .bastore, 1), (257, .return_, 1)]
theorem dX12_location : x_il nX12_location 258 iX12_location = true := by decide +kernel
theorem aX12_location (k : Nat) {pc : Nat} {i : Jvm.ClassFile.Instr} {len : Nat} (hk : iX12_location[k]? = some (pc, i, len)) : x_at xMM 229 pc i len yX12_location 4 none := ⟨cX12_location, rfl, x_il_ok bX12_location dX12_location k hk⟩
set_option maxHeartbeats 4000000 in
set_option maxRecDepth 100000 in
theorem n_location {base d n sl : Nat} {SH : Nat → Nat × Nat} {FI : Nat → Nat → Int32} {FL : Nat → Nat → Int64} {FR : Nat → Nat → Option Nat} (hS : h_S n SH) (hF : h_FR FR) (hI : g_I FI) (g0 : (FI 121 68).toInt ≤ (FI 121 67).toInt - 1) (g1 : (FI 121 69).toInt = 0) (g2 : (FI 121 73).toInt ≤ 20 * (FI 121 68).toInt + 100) (g3 : (FI 121 71).toInt = 0) (g4 : (FI 121 78).toInt ≤ 11) (rel_tend : rl_e (FI 149) (FI 121 67)) (rel_tok : rl_t (FI 149) (FL 150)) : hw base (d + 8) none 229 0 [(0, .ref (base + 121))] [] (n, sl, SH, FI, FL, FR) (h_V (fun s => ∃ FI', s = (n, sl, SH, FI', FL, FR) ∧ g_I FI' ∧ g_fr n SH [(121, 68), (121, 69), (121, 70), (121, 71), (121, 73), (121, 90), (121, 91)] [154, 163, 164, 165, 166, 167, 168] [] FI FI' ∧ ((FI' 121 68).toInt ≤ (FI' 121 67).toInt - 1) ∧ ((FI 121 68).toInt ≤ (FI' 121 68).toInt) ∧ ((FI' 121 73).toInt ≤ (FI 121 73).toInt + 20 * ((FI' 121 68).toInt - (FI 121 68).toInt)) ∧ ((FI 121 73).toInt ≤ (FI' 121 73).toInt) ∧ (-900 ≤ (FI' 121 71).toInt ∧ (FI' 121 71).toInt ≤ 100) ∧ ((FI' 121 69).toInt = 0 → gr_loc (kf (FI 149)) (wf (FL 150)) (FI 121 68).toInt.toNat (FI' 121 68).toInt.toNat) ∧ ((FI' 121 69).toInt = 0 → (FI' 121 71).toInt = (FI 121 71).toInt))) := by
  obtain ⟨x1, h2⟩ : ∃ y, FI 121 68 = y := ⟨_, rfl⟩
  have h2l := congrArg Int32.toInt h2
  have b3 := gI_121_68 hI; rw [h2] at b3
  obtain ⟨x4, h5⟩ : ∃ y, FI 121 67 = y := ⟨_, rfl⟩
  have h5l := congrArg Int32.toInt h5
  have b6 := gI_121_67 hI; rw [h5] at b6
  obtain ⟨x7, h8⟩ : ∃ y, FI 121 69 = y := ⟨_, rfl⟩
  have h8l := congrArg Int32.toInt h8
  have := i_rng x7
  obtain ⟨x9, h10⟩ : ∃ y, FI 121 73 = y := ⟨_, rfl⟩
  have h10l := congrArg Int32.toInt h10
  have b11 := gI_121_73 hI; rw [h10] at b11
  obtain ⟨x12, h13⟩ : ∃ y, FI 121 71 = y := ⟨_, rfl⟩
  have h13l := congrArg Int32.toInt h13
  have := i_rng x12
  obtain ⟨x14, h15⟩ : ∃ y, FI 121 78 = y := ⟨_, rfl⟩
  have h15l := congrArg Int32.toInt h15
  have b16 := gI_121_78 hI; rw [h15] at b16
  have e17 : 0 ≤ (x12).toInt ∧ (x12).toInt ≤ 0 := by omega
  have e18 : 0 ≤ (x7).toInt ∧ (x7).toInt ≤ 0 := by omega
  refine hw_aloadn (aX12_location 0 rfl) rfl ?_
  refine hw_get (v := .int (x9)) (aX12_location 1 rfl) wf_RX12_493 (c121 hS) (s121 hS) (by decide) (congrArg Value.int (show FI 121 73 = x9 from h10)) ?_
  refine xw_istoren (L2 := [(1, .int (x9)), (0, .ref (base + 121))]) (aX12_location 2 rfl) (by decide) rfl ?_
  refine hw_aloadn (aX12_location 3 rfl) rfl ?_
  refine hw_bp (v := (123 : Int32)) (aX12_location 4 rfl) (by decide) ?_
  refine hw_callV (Bs := [.int ((123 : Int32))]) (rest := []) (aX12_location 5 rfl) wc_RX12_484 (by decide) rfl wi_yX12_isSign wv_yX12_isSign (c121 hS) (s121 hS) rfl rfl rfl (Nat.le_of_ble_eq_true rfl) (Nat.le_of_ble_eq_true rfl) (n_isSign (d := d + 7) hS hF hI ((123 : Int32)) (by have := congrArg Int32.toInt (show FI 121 68 = x1 from h2); have := congrArg Int32.toInt (show FI 121 67 = x4 from h5); omega) (show rl_e (FI 149) (FI 121 67) from rel_tend)) (fun v19 sv20 p21 => ?_)
  have := congrArg Int32.toInt (show FI 121 68 = x1 from h2)
  have := congrArg Int32.toInt (show FI 121 67 = x4 from h5)
  obtain ⟨r22, rfl, rfl, t24, t25, u26⟩ := p21
  show hw base _ _ _ _ _ [.int (r22)] _ _
  refine hw_ifeq (tgt := 216) (aX12_location 6 rfl) (by decide) rfl (fun cd27 => ?_) (fun cd27 => ?_)
  · clear t24
    have hncu : ¬ gr_cu (kf (FI 149)) (wf (FL 150)) (FI 121 68).toInt.toNat := fun h => absurd (u26.mpr (by rw [show ((123 : Int32)).toInt = (123 : Int) from by decide]; exact h)) (by omega)
    refine hw_aloadn (aX12_location 114 rfl) rfl ?_
    refine hw_callV (Bs := []) (rest := []) (aX12_location 115 rfl) wc_RX12_541 (by decide) rfl wi_yX12_isPlace wv_yX12_isPlace (c121 hS) (s121 hS) rfl rfl rfl (Nat.le_of_ble_eq_true rfl) (Nat.le_of_ble_eq_true rfl) (n_isPlace (d := d + 6) hS hF hI (by have := congrArg Int32.toInt (show FI 121 68 = x1 from h2); have := congrArg Int32.toInt (show FI 121 67 = x4 from h5); omega) (show rl_e (FI 149) (FI 121 67) from rel_tend)) (fun v28 sv29 p30 => ?_)
    have := congrArg Int32.toInt (show FI 121 68 = x1 from h2)
    have := congrArg Int32.toInt (show FI 121 67 = x4 from h5)
    obtain ⟨r31, rfl, rfl, t33, t34, u35⟩ := p30
    show hw base _ _ _ _ _ [.int (r31)] _ _
    refine hw_ifeq (tgt := 230) (aX12_location 116 rfl) (by decide) rfl (fun cd36 => ?_) (fun cd36 => ?_)
    · clear t33
      refine hw_aloadn (aX12_location 120 rfl) rfl ?_
      refine hw_ic (v := (1 : Int32)) (aX12_location 121 rfl) (by decide) ?_
      refine hw_callV (Bs := [.int ((1 : Int32))]) (rest := []) (aX12_location 122 rfl) wc_RX12_487 (by decide) rfl wi_yX12_fail wv_yX12_fail (c121 hS) (s121 hS) rfl rfl rfl (Nat.le_of_ble_eq_true rfl) (Nat.le_of_ble_eq_true rfl) (n_fail (d := d + 7) hS hF hI ((1 : Int32)) (by have := ((by decide : (1 : Int32).toInt = 1) : ((1 : Int32)).toInt = 1); omega)) (fun v37 sv38 p39 => ?_)
      obtain ⟨rfl, FI41, rfl, hI42, f43, t44⟩ := p39
      have rl45 : rl_e (FI41 149) (FI41 121 67) := by rw [show FI41 149 = FI 149 from gf_row f43 (c149 hS) (s149 hS) rfl rfl, show FI41 121 67 = FI 121 67 from gf_at f43 (c121 hS) (s121 hS) rfl rfl]; exact rel_tend
      have rl46 : rl_t (FI41 149) (FL 150) := by rw [show FI41 149 = FI 149 from gf_row f43 (c149 hS) (s149 hS) rfl rfl]; exact rel_tok
      obtain ⟨x47, h48⟩ : ∃ y, FI41 121 69 = y := ⟨_, rfl⟩
      have h48l := congrArg Int32.toInt h48
      have := i_rng x47
      show hw base _ _ _ _ _ [] _ _
      refine hw_aloadn (aX12_location 123 rfl) rfl ?_
      refine hw_get (v := .int (x9)) (aX12_location 124 rfl) wf_RX12_493 (c121 hS) (s121 hS) (by decide) (congrArg Value.int (show FI41 121 73 = x9 from (gf_at f43 (c121 hS) (s121 hS) rfl (h10)))) ?_
      refine xw_iloadn (aX12_location 125 rfl) rfl ?_
      refine xw_isub (aX12_location 126 rfl) ?_
      refine hw_tie (A := ((x9).toInt) - ((x9).toInt)) (i_sub rfl rfl (by omega) (by omega)) (fun x49 e50 => ?_)
      refine hw_sp (v := (300 : Int32)) (aX12_location 127 rfl) (by decide) ?_
      refine hw_icle (tgt := 257) (aX12_location 128 rfl) (by decide) e50 (by decide : (300 : Int32).toInt = 300) (fun cd51 => ?_) (fun cd51 => ?_)
      · refine xw_vret (aX12_location 135 rfl) rfl ?_
        exact ⟨rfl, FI41, rfl, hI42, (gf_tr ex_rf gf_rf f43 rfl rfl rfl), (by have := congrArg Int32.toInt (show FI41 121 67 = x4 from (gf_at f43 (c121 hS) (s121 hS) rfl (h5))); have := congrArg Int32.toInt (show FI41 121 68 = x1 from (gf_at f43 (c121 hS) (s121 hS) rfl (h2))); omega), (by have := congrArg Int32.toInt (show FI41 121 68 = x1 from (gf_at f43 (c121 hS) (s121 hS) rfl (h2))); omega), (by have := congrArg Int32.toInt (show FI41 121 68 = x1 from (gf_at f43 (c121 hS) (s121 hS) rfl (h2))); have := congrArg Int32.toInt (show FI41 121 73 = x9 from (gf_at f43 (c121 hS) (s121 hS) rfl (h10))); omega), (by have := congrArg Int32.toInt (show FI41 121 73 = x9 from (gf_at f43 (c121 hS) (s121 hS) rfl (h10))); omega), (by have := congrArg Int32.toInt (show FI41 121 71 = x12 from (gf_at f43 (c121 hS) (s121 hS) rfl (h13))); omega), (by have := congrArg Int32.toInt (show FI41 121 69 = x47 from h48); exact fun h => absurd h (by omega)), (by have := congrArg Int32.toInt (show FI41 121 69 = x47 from h48); exact fun h => absurd h (by omega))⟩
      · refine hw_aloadn (aX12_location 129 rfl) rfl ?_
        refine hw_get (v := .ref (base + 163)) (aX12_location 130 rfl) wf_RX12_147 (c121 hS) (s121 hS) (by decide) (congrArg (fun r => va_rf (h_rf base r)) (r121_84 hF)) ?_
        refine hw_aloadn (aX12_location 131 rfl) rfl ?_
        refine hw_get (v := .int (x14)) (aX12_location 132 rfl) wf_RX12_515 (c121 hS) (s121 hS) (by decide) (congrArg Value.int (show FI41 121 78 = x14 from (gf_at f43 (c121 hS) (s121 hS) rfl (h15)))) ?_
        refine hw_ic (v := (1 : Int32)) (aX12_location 133 rfl) (by decide) ?_
        refine hv_zast (w := (1 : Int32)) (k := (x14).toNatClampNeg) (aX12_location 134 rfl) (c163 hS) (s163 hS) (h_in rfl (by omega) (by omega)) rfl (by decide) (fun FI52 u53 => ?_)
        have rl57 : rl_e (FI52 149) (FI52 121 67) := by rw [show FI52 149 = FI41 149 from up_row u53 (by decide) rfl, show FI52 121 67 = FI41 121 67 from up_c u53 (by decide) rfl]; exact rl45
        have rl58 : rl_t (FI52 149) (FL 150) := by rw [show FI52 149 = FI41 149 from up_row u53 (by decide) rfl]; exact rl46
        have hI59 : g_I FI52 := gU_163 hI42 u53 (by have := ((by decide : (1 : Int32).toInt = 1) : ((1 : Int32)).toInt = 1); omega) (by have := ((by decide : (1 : Int32).toInt = 1) : ((1 : Int32)).toInt = 1); omega)
        refine xw_vret (aX12_location 135 rfl) rfl ?_
        exact ⟨rfl, FI52, rfl, hI59, (gf_a (gf_tr ex_rf gf_rf f43 rfl rfl rfl) u53 (by decide)), (by have := congrArg Int32.toInt (show FI52 121 67 = x4 from (up_c u53 (by decide) ((gf_at f43 (c121 hS) (s121 hS) rfl (h5))))); have := congrArg Int32.toInt (show FI52 121 68 = x1 from (up_c u53 (by decide) ((gf_at f43 (c121 hS) (s121 hS) rfl (h2))))); omega), (by have := congrArg Int32.toInt (show FI52 121 68 = x1 from (up_c u53 (by decide) ((gf_at f43 (c121 hS) (s121 hS) rfl (h2))))); omega), (by have := congrArg Int32.toInt (show FI52 121 68 = x1 from (up_c u53 (by decide) ((gf_at f43 (c121 hS) (s121 hS) rfl (h2))))); have := congrArg Int32.toInt (show FI52 121 73 = x9 from (up_c u53 (by decide) ((gf_at f43 (c121 hS) (s121 hS) rfl (h10))))); omega), (by have := congrArg Int32.toInt (show FI52 121 73 = x9 from (up_c u53 (by decide) ((gf_at f43 (c121 hS) (s121 hS) rfl (h10))))); omega), (by have := congrArg Int32.toInt (show FI52 121 71 = x12 from (up_c u53 (by decide) ((gf_at f43 (c121 hS) (s121 hS) rfl (h13))))); omega), (by have := congrArg Int32.toInt (show FI52 121 69 = x47 from (up_c u53 (by decide) (h48))); exact fun h => absurd h (by omega)), (by have := congrArg Int32.toInt (show FI52 121 69 = x47 from (up_c u53 (by decide) (h48))); exact fun h => absurd h (by omega))⟩
    · replace t33 := t33 (by omega)
      have hisp := u35.mp (by omega)
      refine hw_aloadn (aX12_location 117 rfl) rfl ?_
      have := congrArg Int32.toInt (show FI 121 68 = x1 from h2)
      have := congrArg Int32.toInt (show FI 121 69 = x7 from h8)
      have := congrArg Int32.toInt (show FI 121 71 = x12 from h13)
      refine hw_callV (Bs := []) (rest := []) (aX12_location 118 rfl) wc_RX12_544 (by decide) rfl wi_yX12_place wv_yX12_place (c121 hS) (s121 hS) rfl rfl rfl (Nat.le_of_ble_eq_true rfl) (Nat.le_of_ble_eq_true rfl) (n_place (d := d) hS hF hI (by have := congrArg Int32.toInt (show FI 121 68 = x1 from h2); have := congrArg Int32.toInt (show FI 121 67 = x4 from h5); omega) (by have := congrArg Int32.toInt (show FI 121 69 = x7 from h8); omega) (by have := congrArg Int32.toInt (show FI 121 73 = x9 from h10); have := congrArg Int32.toInt (show FI 121 68 = x1 from h2); omega) (by have := congrArg Int32.toInt (show FI 121 71 = x12 from h13); have := congrArg Int32.toInt (show FI 121 71 = x12 from h13); omega) (hisp) (show rl_e (FI 149) (FI 121 67) from rel_tend) (show rl_t (FI 149) (FL 150) from rel_tok)) (fun v60 sv61 p62 => ?_)
      have := congrArg Int32.toInt (show FI 121 68 = x1 from h2)
      have := congrArg Int32.toInt (show FI 121 73 = x9 from h10)
      have := congrArg Int32.toInt (show FI 121 68 = x1 from h2)
      have := congrArg Int32.toInt (show FI 121 73 = x9 from h10)
      obtain ⟨rfl, FI64, rfl, hI65, f66, t67, t68, t69, t70, t71, u72, u73⟩ := p62
      have rl74 : rl_e (FI64 149) (FI64 121 67) := by rw [show FI64 149 = FI 149 from gf_row f66 (c149 hS) (s149 hS) rfl rfl, show FI64 121 67 = FI 121 67 from gf_at f66 (c121 hS) (s121 hS) rfl rfl]; exact rel_tend
      have rl75 : rl_t (FI64 149) (FL 150) := by rw [show FI64 149 = FI 149 from gf_row f66 (c149 hS) (s149 hS) rfl rfl]; exact rel_tok
      obtain ⟨x76, h77⟩ : ∃ y, FI64 121 68 = y := ⟨_, rfl⟩
      have h77l := congrArg Int32.toInt h77
      have b78 := gI_121_68 hI65; rw [h77] at b78
      have := congrArg Int32.toInt (show FI64 121 67 = x4 from (gf_at f66 (c121 hS) (s121 hS) rfl (h5)))
      obtain ⟨x79, h80⟩ : ∃ y, FI64 121 73 = y := ⟨_, rfl⟩
      have h80l := congrArg Int32.toInt h80
      have b81 := gI_121_73 hI65; rw [h80] at b81
      obtain ⟨x82, h83⟩ : ∃ y, FI64 121 71 = y := ⟨_, rfl⟩
      have h83l := congrArg Int32.toInt h83
      have := i_rng x82
      show hw base _ _ _ _ _ [] _ _
      have hgp := u72; rw [show FI 149 = FI 149 from rfl] at hgp
      have ho71 := u73
      obtain ⟨x84, h85⟩ : ∃ y, FI64 121 69 = y := ⟨_, rfl⟩
      have h85l := congrArg Int32.toInt h85
      have := i_rng x84
      have := congrArg Int32.toInt (show FI64 121 69 = x84 from h85)
      have := congrArg Int32.toInt (show FI64 121 68 = x76 from h77)
      have := congrArg Int32.toInt (show FI64 121 71 = x82 from h83)
      refine xw_goto (tgt := 235) (aX12_location 119 rfl) (by decide) ?_
      refine hw_aloadn (aX12_location 123 rfl) rfl ?_
      refine hw_get (v := .int (x79)) (aX12_location 124 rfl) wf_RX12_493 (c121 hS) (s121 hS) (by decide) (congrArg Value.int (show FI64 121 73 = x79 from h80)) ?_
      refine xw_iloadn (aX12_location 125 rfl) rfl ?_
      refine xw_isub (aX12_location 126 rfl) ?_
      refine hw_tie (A := ((x79).toInt) - ((x9).toInt)) (i_sub rfl rfl (by omega) (by omega)) (fun x86 e87 => ?_)
      refine hw_sp (v := (300 : Int32)) (aX12_location 127 rfl) (by decide) ?_
      refine hw_icle (tgt := 257) (aX12_location 128 rfl) (by decide) e87 (by decide : (300 : Int32).toInt = 300) (fun cd88 => ?_) (fun cd88 => ?_)
      · refine xw_vret (aX12_location 135 rfl) rfl ?_
        exact ⟨rfl, FI64, rfl, hI65, (gf_tr ex_rf gf_rf f66 rfl rfl rfl), (by have := congrArg Int32.toInt (show FI64 121 67 = x4 from (gf_at f66 (c121 hS) (s121 hS) rfl (h5))); have := congrArg Int32.toInt (show FI64 121 68 = x76 from h77); omega), (by have := congrArg Int32.toInt (show FI64 121 68 = x76 from h77); omega), (by have := congrArg Int32.toInt (show FI64 121 68 = x76 from h77); have := congrArg Int32.toInt (show FI64 121 73 = x79 from h80); omega), (by have := congrArg Int32.toInt (show FI64 121 73 = x79 from h80); omega), (by have := congrArg Int32.toInt (show FI64 121 71 = x82 from h83); omega), (by have := congrArg Int32.toInt (show FI64 121 68 = x76 from h77); have := congrArg Int32.toInt (show FI64 121 69 = x84 from h85); intro h69; have hg := hgp (by omega); rw [show FI 121 68 = FI 121 68 from (h2).trans (h2).symm] at hg; rw [show FI64 121 68 = FI64 121 68 from (h77).trans (h77).symm]; exact Or.inl ⟨hncu, hg⟩), (by have := congrArg Int32.toInt (show FI64 121 69 = x84 from h85); have := congrArg Int32.toInt (show FI64 121 71 = x82 from h83); intro h69; have := ho71 (by omega); omega)⟩
      · refine hw_aloadn (aX12_location 129 rfl) rfl ?_
        refine hw_get (v := .ref (base + 163)) (aX12_location 130 rfl) wf_RX12_147 (c121 hS) (s121 hS) (by decide) (congrArg (fun r => va_rf (h_rf base r)) (r121_84 hF)) ?_
        refine hw_aloadn (aX12_location 131 rfl) rfl ?_
        refine hw_get (v := .int (x14)) (aX12_location 132 rfl) wf_RX12_515 (c121 hS) (s121 hS) (by decide) (congrArg Value.int (show FI64 121 78 = x14 from (gf_at f66 (c121 hS) (s121 hS) rfl (h15)))) ?_
        refine hw_ic (v := (1 : Int32)) (aX12_location 133 rfl) (by decide) ?_
        refine hv_zast (w := (1 : Int32)) (k := (x14).toNatClampNeg) (aX12_location 134 rfl) (c163 hS) (s163 hS) (h_in rfl (by omega) (by omega)) rfl (by decide) (fun FI89 u90 => ?_)
        have rl94 : rl_e (FI89 149) (FI89 121 67) := by rw [show FI89 149 = FI64 149 from up_row u90 (by decide) rfl, show FI89 121 67 = FI64 121 67 from up_c u90 (by decide) rfl]; exact rl74
        have rl95 : rl_t (FI89 149) (FL 150) := by rw [show FI89 149 = FI64 149 from up_row u90 (by decide) rfl]; exact rl75
        have hI96 : g_I FI89 := gU_163 hI65 u90 (by have := ((by decide : (1 : Int32).toInt = 1) : ((1 : Int32)).toInt = 1); omega) (by have := ((by decide : (1 : Int32).toInt = 1) : ((1 : Int32)).toInt = 1); omega)
        refine xw_vret (aX12_location 135 rfl) rfl ?_
        exact ⟨rfl, FI89, rfl, hI96, (gf_a (gf_tr ex_rf gf_rf f66 rfl rfl rfl) u90 (by decide)), (by have := congrArg Int32.toInt (show FI89 121 67 = x4 from (up_c u90 (by decide) ((gf_at f66 (c121 hS) (s121 hS) rfl (h5))))); have := congrArg Int32.toInt (show FI89 121 68 = x76 from (up_c u90 (by decide) (h77))); omega), (by have := congrArg Int32.toInt (show FI89 121 68 = x76 from (up_c u90 (by decide) (h77))); omega), (by have := congrArg Int32.toInt (show FI89 121 68 = x76 from (up_c u90 (by decide) (h77))); have := congrArg Int32.toInt (show FI89 121 73 = x79 from (up_c u90 (by decide) (h80))); omega), (by have := congrArg Int32.toInt (show FI89 121 73 = x79 from (up_c u90 (by decide) (h80))); omega), (by have := congrArg Int32.toInt (show FI89 121 71 = x82 from (up_c u90 (by decide) (h83))); omega), (by have := congrArg Int32.toInt (show FI89 121 68 = x76 from (up_c u90 (by decide) (h77))); have := congrArg Int32.toInt (show FI89 121 69 = x84 from (up_c u90 (by decide) (h85))); intro h69; have hg := hgp (by omega); rw [show FI 121 68 = FI 121 68 from (h2).trans (h2).symm] at hg; rw [show FI89 121 68 = FI64 121 68 from ((up_c u90 (by decide) (h77))).trans (h77).symm]; exact Or.inl ⟨hncu, hg⟩), (by have := congrArg Int32.toInt (show FI89 121 69 = x84 from (up_c u90 (by decide) (h85))); have := congrArg Int32.toInt (show FI89 121 71 = x82 from (up_c u90 (by decide) (h83))); intro h69; have := ho71 (by omega); omega)⟩
  · replace t24 := t24 (by omega)
    have hcu := u26.mp (by omega); rw [show ((123 : Int32)).toInt = (123 : Int) from by decide] at hcu
    refine hw_aloadn (aX12_location 7 rfl) rfl ?_
    refine hw_callV (Bs := []) (rest := []) (aX12_location 8 rfl) wc_RX12_538 (by decide) rfl wi_yX12_opens wv_yX12_opens (c121 hS) (s121 hS) rfl rfl rfl (Nat.le_of_ble_eq_true rfl) (Nat.le_of_ble_eq_true rfl) (n_opens (d := d + 6) hS hF hI (by have := congrArg Int32.toInt (show FI 121 68 = x1 from h2); have := congrArg Int32.toInt (show FI 121 67 = x4 from h5); omega) (by have := congrArg Int32.toInt (show FI 121 71 = x12 from h13); have := congrArg Int32.toInt (show FI 121 71 = x12 from h13); omega)) (fun v97 sv98 p99 => ?_)
    have := congrArg Int32.toInt (show FI 121 68 = x1 from h2)
    have := congrArg Int32.toInt (show FI 121 71 = x12 from h13)
    have := congrArg Int32.toInt (show FI 121 71 = x12 from h13)
    have := congrArg Int32.toInt (show FI 121 69 = x7 from h8)
    obtain ⟨rfl, FI101, rfl, hI102, f103, t104, t105, t106⟩ := p99
    have rl107 : rl_e (FI101 149) (FI101 121 67) := by rw [show FI101 149 = FI 149 from gf_row f103 (c149 hS) (s149 hS) rfl rfl, show FI101 121 67 = FI 121 67 from gf_at f103 (c121 hS) (s121 hS) rfl rfl]; exact rel_tend
    have rl108 : rl_t (FI101 149) (FL 150) := by rw [show FI101 149 = FI 149 from gf_row f103 (c149 hS) (s149 hS) rfl rfl]; exact rel_tok
    obtain ⟨x109, h110⟩ : ∃ y, FI101 121 68 = y := ⟨_, rfl⟩
    have h110l := congrArg Int32.toInt h110
    have b111 := gI_121_68 hI102; rw [h110] at b111
    obtain ⟨x112, h113⟩ : ∃ y, FI101 121 71 = y := ⟨_, rfl⟩
    have h113l := congrArg Int32.toInt h113
    have := i_rng x112
    obtain ⟨x114, h115⟩ : ∃ y, FI101 121 69 = y := ⟨_, rfl⟩
    have h115l := congrArg Int32.toInt h115
    have := i_rng x114
    show hw base _ _ _ _ _ [] _ _
    have e116 : 0 ≤ (x112).toInt ∧ (x112).toInt ≤ 100 := by omega
    refine hw_ic (v := (0 : Int32)) (aX12_location 9 rfl) (by decide) ?_
    refine xw_istoren (L2 := [(2, .int ((0 : Int32))), (1, .int (x9)), (0, .ref (base + 121))]) (aX12_location 10 rfl) (by decide) rfl ?_
    refine hw_ic (v := (1 : Int32)) (aX12_location 11 rfl) (by decide) ?_
    refine xw_istoren (L2 := [(3, .int ((1 : Int32))), (2, .int ((0 : Int32))), (1, .int (x9)), (0, .ref (base + 121))]) (aX12_location 12 rfl) (by decide) rfl ?_
    refine xw_iloadn (aX12_location 13 rfl) rfl ?_
    refine hw_ifeq (tgt := 197) (aX12_location 14 rfl) (by decide) (by decide : (1 : Int32).toInt = 1) (fun cd117 => ?_) (fun cd117 => ?_)
    · omega
    · refine hw_aloadn (aX12_location 15 rfl) rfl ?_
      refine hw_get (v := .int (x114)) (aX12_location 16 rfl) wf_RX12_475 (c121 hS) (s121 hS) (by decide) (congrArg Value.int (show FI101 121 69 = x114 from h115)) ?_
      refine hw_ifne (tgt := 197) (aX12_location 17 rfl) (by decide) rfl (fun cd118 => ?_) (fun cd118 => ?_)
      · refine hw_aloadn (aX12_location 104 rfl) rfl ?_
        refine hw_bp (v := (125 : Int32)) (aX12_location 105 rfl) (by decide) ?_
        refine hw_callV (Bs := [.int ((125 : Int32))]) (rest := []) (aX12_location 106 rfl) wc_RX12_527 (by decide) rfl wi_yX12_need wv_yX12_need (c121 hS) (s121 hS) rfl rfl rfl (Nat.le_of_ble_eq_true rfl) (Nat.le_of_ble_eq_true rfl) (n_need (d := d + 6) hS hF hI102 ((125 : Int32)) (by have := congrArg Int32.toInt (show FI101 121 68 = x109 from h110); have := congrArg Int32.toInt (show FI101 121 67 = x4 from (gf_at f103 (c121 hS) (s121 hS) rfl (h5))); omega) (show rl_e (FI101 149) (FI101 121 67) from rl107)) (fun v119 sv120 p121 => ?_)
        have := congrArg Int32.toInt (show FI101 121 68 = x109 from h110)
        have := congrArg Int32.toInt (show FI101 121 69 = x114 from h115)
        have := congrArg Int32.toInt (show FI101 121 68 = x109 from h110)
        have := congrArg Int32.toInt (show FI101 121 68 = x109 from h110)
        obtain ⟨rfl, FI123, rfl, hI124, f125, t126, t127, t128⟩ := p121
        have rl129 : rl_e (FI123 149) (FI123 121 67) := by rw [show FI123 149 = FI101 149 from gf_row f125 (c149 hS) (s149 hS) rfl rfl, show FI123 121 67 = FI101 121 67 from gf_at f125 (c121 hS) (s121 hS) rfl rfl]; exact rl107
        have rl130 : rl_t (FI123 149) (FL 150) := by rw [show FI123 149 = FI101 149 from gf_row f125 (c149 hS) (s149 hS) rfl rfl]; exact rl108
        obtain ⟨x131, h132⟩ : ∃ y, FI123 121 68 = y := ⟨_, rfl⟩
        have h132l := congrArg Int32.toInt h132
        have b133 := gI_121_68 hI124; rw [h132] at b133
        have := congrArg Int32.toInt (show FI123 121 67 = x4 from (gf_at f125 (c121 hS) (s121 hS) rfl ((gf_at f103 (c121 hS) (s121 hS) rfl (h5)))))
        obtain ⟨x134, h135⟩ : ∃ y, FI123 121 69 = y := ⟨_, rfl⟩
        have h135l := congrArg Int32.toInt h135
        have := i_rng x134
        show hw base _ _ _ _ _ [] _ _
        refine hw_aloadn (aX12_location 107 rfl) rfl ?_
        refine hw_aloadn (aX12_location 108 rfl) rfl ?_
        refine hw_get (v := .int (x112)) (aX12_location 109 rfl) wf_RX12_490 (c121 hS) (s121 hS) (by decide) (congrArg Value.int (show FI123 121 71 = x112 from (gf_at f125 (c121 hS) (s121 hS) rfl (h113)))) ?_
        refine hw_ic (v := (1 : Int32)) (aX12_location 110 rfl) (by decide) ?_
        refine xw_isub (aX12_location 111 rfl) ?_
        refine hw_tie (A := ((x112).toInt) - (1)) (i_sub rfl (by decide : (1 : Int32).toInt = 1) (by omega) (by omega)) (fun x136 e137 => ?_)
        refine hv_puti (aX12_location 112 rfl) wf_RX12_490 (c121 hS) (s121 hS) (by decide) rfl rfl (fun FI138 u139 => ?_)
        have rl140 : rl_e (FI138 149) (FI138 121 67) := by rw [show FI138 149 = FI123 149 from up_row u139 (by decide) rfl, show FI138 121 67 = FI123 121 67 from up_k u139 (by decide) rfl]; exact rl129
        have rl141 : rl_t (FI138 149) (FL 150) := by rw [show FI138 149 = FI123 149 from up_row u139 (by decide) rfl]; exact rl130
        have hI142 : g_I FI138 := gU_F hI124 u139 rfl
        refine xw_goto (tgt := 235) (aX12_location 113 rfl) (by decide) ?_
        refine hw_aloadn (aX12_location 123 rfl) rfl ?_
        refine hw_get (v := .int (x9)) (aX12_location 124 rfl) wf_RX12_493 (c121 hS) (s121 hS) (by decide) (congrArg Value.int (show FI138 121 73 = x9 from (up_k u139 (by decide) ((gf_at f125 (c121 hS) (s121 hS) rfl ((gf_at f103 (c121 hS) (s121 hS) rfl (h10)))))))) ?_
        refine xw_iloadn (aX12_location 125 rfl) rfl ?_
        refine xw_isub (aX12_location 126 rfl) ?_
        refine hw_tie (A := ((x9).toInt) - ((x9).toInt)) (i_sub rfl rfl (by omega) (by omega)) (fun x143 e144 => ?_)
        refine hw_sp (v := (300 : Int32)) (aX12_location 127 rfl) (by decide) ?_
        refine hw_icle (tgt := 257) (aX12_location 128 rfl) (by decide) e144 (by decide : (300 : Int32).toInt = 300) (fun cd145 => ?_) (fun cd145 => ?_)
        · refine xw_vret (aX12_location 135 rfl) rfl ?_
          exact ⟨rfl, FI138, rfl, hI142, (gf_f (gf_tr ex_rf (gf_tr ex_rf gf_rf f103 rfl rfl rfl) f125 rfl rfl rfl) u139 (by decide)), (by have := congrArg Int32.toInt (show FI138 121 67 = x4 from (up_k u139 (by decide) ((gf_at f125 (c121 hS) (s121 hS) rfl ((gf_at f103 (c121 hS) (s121 hS) rfl (h5))))))); have := congrArg Int32.toInt (show FI138 121 68 = x131 from (up_k u139 (by decide) (h132))); omega), (by have := congrArg Int32.toInt (show FI138 121 68 = x131 from (up_k u139 (by decide) (h132))); omega), (by have := congrArg Int32.toInt (show FI138 121 68 = x131 from (up_k u139 (by decide) (h132))); have := congrArg Int32.toInt (show FI138 121 73 = x9 from (up_k u139 (by decide) ((gf_at f125 (c121 hS) (s121 hS) rfl ((gf_at f103 (c121 hS) (s121 hS) rfl (h10))))))); omega), (by have := congrArg Int32.toInt (show FI138 121 73 = x9 from (up_k u139 (by decide) ((gf_at f125 (c121 hS) (s121 hS) rfl ((gf_at f103 (c121 hS) (s121 hS) rfl (h10))))))); omega), (by have := congrArg Int32.toInt (show FI138 121 71 = x136 from up_eq u139); have := (e137 : (x136).toInt = ((x112).toInt) - (1)); omega), (by have := congrArg Int32.toInt (show FI138 121 69 = x134 from (up_k u139 (by decide) (h135))); exact fun h => absurd h (by omega)), (by have := congrArg Int32.toInt (show FI138 121 69 = x134 from (up_k u139 (by decide) (h135))); exact fun h => absurd h (by omega))⟩
        · refine hw_aloadn (aX12_location 129 rfl) rfl ?_
          refine hw_get (v := .ref (base + 163)) (aX12_location 130 rfl) wf_RX12_147 (c121 hS) (s121 hS) (by decide) (congrArg (fun r => va_rf (h_rf base r)) (r121_84 hF)) ?_
          refine hw_aloadn (aX12_location 131 rfl) rfl ?_
          refine hw_get (v := .int (x14)) (aX12_location 132 rfl) wf_RX12_515 (c121 hS) (s121 hS) (by decide) (congrArg Value.int (show FI138 121 78 = x14 from (up_k u139 (by decide) ((gf_at f125 (c121 hS) (s121 hS) rfl ((gf_at f103 (c121 hS) (s121 hS) rfl (h15)))))))) ?_
          refine hw_ic (v := (1 : Int32)) (aX12_location 133 rfl) (by decide) ?_
          refine hv_zast (w := (1 : Int32)) (k := (x14).toNatClampNeg) (aX12_location 134 rfl) (c163 hS) (s163 hS) (h_in rfl (by omega) (by omega)) rfl (by decide) (fun FI146 u147 => ?_)
          have rl151 : rl_e (FI146 149) (FI146 121 67) := by rw [show FI146 149 = FI138 149 from up_row u147 (by decide) rfl, show FI146 121 67 = FI138 121 67 from up_c u147 (by decide) rfl]; exact rl140
          have rl152 : rl_t (FI146 149) (FL 150) := by rw [show FI146 149 = FI138 149 from up_row u147 (by decide) rfl]; exact rl141
          have hI153 : g_I FI146 := gU_163 hI142 u147 (by have := ((by decide : (1 : Int32).toInt = 1) : ((1 : Int32)).toInt = 1); omega) (by have := ((by decide : (1 : Int32).toInt = 1) : ((1 : Int32)).toInt = 1); omega)
          refine xw_vret (aX12_location 135 rfl) rfl ?_
          exact ⟨rfl, FI146, rfl, hI153, (gf_a (gf_f (gf_tr ex_rf (gf_tr ex_rf gf_rf f103 rfl rfl rfl) f125 rfl rfl rfl) u139 (by decide)) u147 (by decide)), (by have := congrArg Int32.toInt (show FI146 121 67 = x4 from (up_c u147 (by decide) ((up_k u139 (by decide) ((gf_at f125 (c121 hS) (s121 hS) rfl ((gf_at f103 (c121 hS) (s121 hS) rfl (h5))))))))); have := congrArg Int32.toInt (show FI146 121 68 = x131 from (up_c u147 (by decide) ((up_k u139 (by decide) (h132))))); omega), (by have := congrArg Int32.toInt (show FI146 121 68 = x131 from (up_c u147 (by decide) ((up_k u139 (by decide) (h132))))); omega), (by have := congrArg Int32.toInt (show FI146 121 68 = x131 from (up_c u147 (by decide) ((up_k u139 (by decide) (h132))))); have := congrArg Int32.toInt (show FI146 121 73 = x9 from (up_c u147 (by decide) ((up_k u139 (by decide) ((gf_at f125 (c121 hS) (s121 hS) rfl ((gf_at f103 (c121 hS) (s121 hS) rfl (h10))))))))); omega), (by have := congrArg Int32.toInt (show FI146 121 73 = x9 from (up_c u147 (by decide) ((up_k u139 (by decide) ((gf_at f125 (c121 hS) (s121 hS) rfl ((gf_at f103 (c121 hS) (s121 hS) rfl (h10))))))))); omega), (by have := congrArg Int32.toInt (show FI146 121 71 = x136 from (up_c u147 (by decide) (up_eq u139))); have := (e137 : (x136).toInt = ((x112).toInt) - (1)); omega), (by have := congrArg Int32.toInt (show FI146 121 69 = x134 from (up_c u147 (by decide) ((up_k u139 (by decide) (h135))))); exact fun h => absurd h (by omega)), (by have := congrArg Int32.toInt (show FI146 121 69 = x134 from (up_c u147 (by decide) ((up_k u139 (by decide) (h135))))); exact fun h => absurd h (by omega))⟩
      · have lp170 : ∀ (m : Nat) (y2 : Int32) (FIv154 : Nat → Nat → Int32), (g_fr n SH [(121, 68), (121, 69), (121, 70), (121, 71), (121, 73), (121, 90), (121, 91)] [154, 163, 164, 165, 166, 167, 168] [] FI FIv154) → (g_I FIv154) → (FIv154 121 67 = x4) → (FIv154 121 78 = x14) → (rl_e (FIv154 149) (FIv154 121 67)) → (rl_t (FIv154 149) (FL 150)) → (0 ≤ (y2).toInt ∧ (y2).toInt ≤ 8) → (0 ≤ (FIv154 121 68).toInt ∧ (FIv154 121 68).toInt ≤ 1000) → ((FIv154 121 69).toInt = 0) → ((FIv154 121 68).toInt ≤ (x4).toInt - 1) → ((FI 121 68).toInt ≤ (FIv154 121 68).toInt) → ((FIv154 121 73).toInt ≤ (FI 121 73).toInt + 20 * ((FIv154 121 68).toInt - (FI 121 68).toInt)) → ((FI 121 73).toInt ≤ (FIv154 121 73).toInt) → ((FIv154 121 71).toInt = 1) → (gr_pf (kf (FI 149)) (wf (FL 150)) ((y2).toInt : Int).toNat ((FI 121 68).toInt.toNat + 1) ((FIv154 121 68).toInt).toNat) → (FIv154 149 = FI 149) → 1001 - (FIv154 121 68).toInt < m → hw base (d + 8) none 229 33 [(2, .int (y2)), (1, .int (x9)), (0, .ref (base + 121))] [] (n, sl, SH, FIv154, FL, FR) (h_V (fun s => ∃ FI', s = (n, sl, SH, FI', FL, FR) ∧ g_I FI' ∧ g_fr n SH [(121, 68), (121, 69), (121, 70), (121, 71), (121, 73), (121, 90), (121, 91)] [154, 163, 164, 165, 166, 167, 168] [] FI FI' ∧ ((FI' 121 68).toInt ≤ (FI' 121 67).toInt - 1) ∧ ((FI 121 68).toInt ≤ (FI' 121 68).toInt) ∧ ((FI' 121 73).toInt ≤ (FI 121 73).toInt + 20 * ((FI' 121 68).toInt - (FI 121 68).toInt)) ∧ ((FI 121 73).toInt ≤ (FI' 121 73).toInt) ∧ (-900 ≤ (FI' 121 71).toInt ∧ (FI' 121 71).toInt ≤ 100) ∧ ((FI' 121 69).toInt = 0 → gr_loc (kf (FI 149)) (wf (FL 150)) (FI 121 68).toInt.toNat (FI' 121 68).toInt.toNat) ∧ ((FI' 121 69).toInt = 0 → (FI' 121 71).toInt = (FI 121 71).toInt))) := by
          intro m
          induction m with
          | zero => intro y2 FIv154 fr155 hI156 kp157 kp158 rl159 rl160 iv161 iv162 iv163 iv164 iv165 iv166 iv167 iv168 xi33_0 rw169 hm; omega
          | succ m ih =>
            intro y2 FIv154 fr155 hI156 kp157 kp158 rl159 rl160 iv161 iv162 iv163 iv164 iv165 iv166 iv167 iv168 xi33_0 rw169 hm
            have rg_y2 := i_rng y2
            have := congrArg Int32.toInt kp157
            have := congrArg Int32.toInt kp158
            obtain ⟨x171, h172⟩ : ∃ y, FIv154 121 68 = y := ⟨_, rfl⟩
            have h172l := congrArg Int32.toInt h172
            have b173 := gI_121_68 hI156; rw [h172] at b173
            obtain ⟨x174, h175⟩ : ∃ y, FIv154 121 69 = y := ⟨_, rfl⟩
            have h175l := congrArg Int32.toInt h175
            have := i_rng x174
            obtain ⟨x176, h177⟩ : ∃ y, FIv154 121 73 = y := ⟨_, rfl⟩
            have h177l := congrArg Int32.toInt h177
            have b178 := gI_121_73 hI156; rw [h177] at b178
            obtain ⟨x179, h180⟩ : ∃ y, FIv154 121 71 = y := ⟨_, rfl⟩
            have h180l := congrArg Int32.toInt h180
            have := i_rng x179
            refine hw_aloadn (aX12_location 18 rfl) rfl ?_
            have e181 : 0 ≤ (x174).toInt ∧ (x174).toInt ≤ 0 := by omega
            have e182 : 1 ≤ (x179).toInt ∧ (x179).toInt ≤ 1 := by omega
            refine hw_callV (Bs := []) (rest := []) (aX12_location 19 rfl) wc_RX12_541 (by decide) rfl wi_yX12_isPlace wv_yX12_isPlace (c121 hS) (s121 hS) rfl rfl rfl (Nat.le_of_ble_eq_true rfl) (Nat.le_of_ble_eq_true rfl) (n_isPlace (d := d + 6) hS hF hI156 (by have := congrArg Int32.toInt (show FIv154 121 68 = x171 from h172); have := congrArg Int32.toInt (show FIv154 121 67 = x4 from kp157); omega) (show rl_e (FIv154 149) (FIv154 121 67) from rl159)) (fun v183 sv184 p185 => ?_)
            have := congrArg Int32.toInt (show FIv154 121 68 = x171 from h172)
            have := congrArg Int32.toInt (show FIv154 121 67 = x4 from kp157)
            obtain ⟨r186, rfl, rfl, t188, t189, u190⟩ := p185
            show hw base _ _ _ _ _ [.int (r186)] _ _
            refine hw_ifne (tgt := 48) (aX12_location 20 rfl) (by decide) rfl (fun cd191 => ?_) (fun cd191 => ?_)
            · replace t188 := t188 (by omega)
              have hisp := u190.mp (by omega)
              refine xw_iloadn (aX12_location 25 rfl) rfl ?_
              refine hw_bp (v := (8 : Int32)) (aX12_location 26 rfl) (by decide) ?_
              refine hw_icne (tgt := 60) (aX12_location 27 rfl) (by decide) rfl (by decide : (8 : Int32).toInt = 8) (fun cd192 => ?_) (fun cd192 => ?_)
              · refine hw_aloadn (aX12_location 31 rfl) rfl ?_
                refine hw_get (v := .int (x174)) (aX12_location 32 rfl) wf_RX12_475 (c121 hS) (s121 hS) (by decide) (congrArg Value.int (show FIv154 121 69 = x174 from h175)) ?_
                refine hw_ifeq (tgt := 68) (aX12_location 33 rfl) (by decide) rfl (fun cd193 => ?_) (fun cd193 => ?_)
                · refine hw_aloadn (aX12_location 35 rfl) rfl ?_
                  have := congrArg Int32.toInt (show FIv154 121 68 = x171 from h172)
                  have := congrArg Int32.toInt (show FIv154 121 69 = x174 from h175)
                  have := congrArg Int32.toInt (show FIv154 121 71 = x179 from h180)
                  refine hw_callV (Bs := []) (rest := []) (aX12_location 36 rfl) wc_RX12_544 (by decide) rfl wi_yX12_place wv_yX12_place (c121 hS) (s121 hS) rfl rfl rfl (Nat.le_of_ble_eq_true rfl) (Nat.le_of_ble_eq_true rfl) (n_place (d := d) hS hF hI156 (by have := congrArg Int32.toInt (show FIv154 121 68 = x171 from h172); have := congrArg Int32.toInt (show FIv154 121 67 = x4 from kp157); omega) (by have := congrArg Int32.toInt (show FIv154 121 69 = x174 from h175); omega) (by have := congrArg Int32.toInt (show FIv154 121 73 = x176 from h177); have := congrArg Int32.toInt (show FIv154 121 68 = x171 from h172); omega) (by have := congrArg Int32.toInt (show FIv154 121 71 = x179 from h180); have := congrArg Int32.toInt (show FIv154 121 71 = x179 from h180); omega) (hisp) (show rl_e (FIv154 149) (FIv154 121 67) from rl159) (show rl_t (FIv154 149) (FL 150) from rl160)) (fun v194 sv195 p196 => ?_)
                  have := congrArg Int32.toInt (show FIv154 121 68 = x171 from h172)
                  have := congrArg Int32.toInt (show FIv154 121 73 = x176 from h177)
                  have := congrArg Int32.toInt (show FIv154 121 68 = x171 from h172)
                  have := congrArg Int32.toInt (show FIv154 121 73 = x176 from h177)
                  obtain ⟨rfl, FI198, rfl, hI199, f200, t201, t202, t203, t204, t205, u206, u207⟩ := p196
                  have rl208 : rl_e (FI198 149) (FI198 121 67) := by rw [show FI198 149 = FIv154 149 from gf_row f200 (c149 hS) (s149 hS) rfl rfl, show FI198 121 67 = FIv154 121 67 from gf_at f200 (c121 hS) (s121 hS) rfl rfl]; exact rl159
                  have rl209 : rl_t (FI198 149) (FL 150) := by rw [show FI198 149 = FIv154 149 from gf_row f200 (c149 hS) (s149 hS) rfl rfl]; exact rl160
                  obtain ⟨x210, h211⟩ : ∃ y, FI198 121 68 = y := ⟨_, rfl⟩
                  have h211l := congrArg Int32.toInt h211
                  have b212 := gI_121_68 hI199; rw [h211] at b212
                  have := congrArg Int32.toInt (show FI198 121 67 = x4 from (gf_at f200 (c121 hS) (s121 hS) rfl (kp157)))
                  obtain ⟨x213, h214⟩ : ∃ y, FI198 121 73 = y := ⟨_, rfl⟩
                  have h214l := congrArg Int32.toInt h214
                  have b215 := gI_121_73 hI199; rw [h214] at b215
                  obtain ⟨x216, h217⟩ : ∃ y, FI198 121 71 = y := ⟨_, rfl⟩
                  have h217l := congrArg Int32.toInt h217
                  have := i_rng x216
                  show hw base _ _ _ _ _ [] _ _
                  have hgp := u206; rw [show FIv154 149 = FI 149 from rw169] at hgp
                  have ho71 := u207
                  obtain ⟨x218, h219⟩ : ∃ y, FI198 121 69 = y := ⟨_, rfl⟩
                  have h219l := congrArg Int32.toInt h219
                  have := i_rng x218
                  have := congrArg Int32.toInt (show FI198 121 69 = x218 from h219)
                  have := congrArg Int32.toInt (show FI198 121 68 = x210 from h211)
                  have := congrArg Int32.toInt (show FI198 121 71 = x216 from h217)
                  refine hw_aloadn (aX12_location 37 rfl) rfl ?_
                  refine hw_bp (v := (47 : Int32)) (aX12_location 38 rfl) (by decide) ?_
                  refine hw_callV (Bs := [.int ((47 : Int32))]) (rest := []) (aX12_location 39 rfl) wc_RX12_527 (by decide) rfl wi_yX12_need wv_yX12_need (c121 hS) (s121 hS) rfl rfl rfl (Nat.le_of_ble_eq_true rfl) (Nat.le_of_ble_eq_true rfl) (n_need (d := d + 6) hS hF hI199 ((47 : Int32)) (by have := congrArg Int32.toInt (show FI198 121 68 = x210 from h211); have := congrArg Int32.toInt (show FI198 121 67 = x4 from (gf_at f200 (c121 hS) (s121 hS) rfl (kp157))); omega) (show rl_e (FI198 149) (FI198 121 67) from rl208)) (fun v220 sv221 p222 => ?_)
                  have := congrArg Int32.toInt (show FI198 121 68 = x210 from h211)
                  have := congrArg Int32.toInt (show FI198 121 69 = x218 from h219)
                  have := congrArg Int32.toInt (show FI198 121 68 = x210 from h211)
                  have := congrArg Int32.toInt (show FI198 121 68 = x210 from h211)
                  obtain ⟨rfl, FI224, rfl, hI225, f226, t227, t228, t229⟩ := p222
                  have rl230 : rl_e (FI224 149) (FI224 121 67) := by rw [show FI224 149 = FI198 149 from gf_row f226 (c149 hS) (s149 hS) rfl rfl, show FI224 121 67 = FI198 121 67 from gf_at f226 (c121 hS) (s121 hS) rfl rfl]; exact rl208
                  have rl231 : rl_t (FI224 149) (FL 150) := by rw [show FI224 149 = FI198 149 from gf_row f226 (c149 hS) (s149 hS) rfl rfl]; exact rl209
                  obtain ⟨x232, h233⟩ : ∃ y, FI224 121 68 = y := ⟨_, rfl⟩
                  have h233l := congrArg Int32.toInt h233
                  have b234 := gI_121_68 hI225; rw [h233] at b234
                  have := congrArg Int32.toInt (show FI224 121 67 = x4 from (gf_at f226 (c121 hS) (s121 hS) rfl ((gf_at f200 (c121 hS) (s121 hS) rfl (kp157)))))
                  obtain ⟨x235, h236⟩ : ∃ y, FI224 121 69 = y := ⟨_, rfl⟩
                  have h236l := congrArg Int32.toInt h236
                  have := i_rng x235
                  show hw base _ _ _ _ _ [] _ _
                  refine hw_aloadn (aX12_location 40 rfl) rfl ?_
                  refine hw_get (v := .int (x235)) (aX12_location 41 rfl) wf_RX12_475 (c121 hS) (s121 hS) (by decide) (congrArg Value.int (show FI224 121 69 = x235 from h236)) ?_
                  refine hw_ifne (tgt := 103) (aX12_location 42 rfl) (by decide) rfl (fun cd237 => ?_) (fun cd237 => ?_)
                  · refine hw_aloadn (aX12_location 53 rfl) rfl ?_
                    refine hw_get (v := .int (x235)) (aX12_location 54 rfl) wf_RX12_475 (c121 hS) (s121 hS) (by decide) (congrArg Value.int (show FI224 121 69 = x235 from h236)) ?_
                    refine hw_ifne (tgt := 131) (aX12_location 55 rfl) (by decide) rfl (fun cd238 => ?_) (fun cd238 => ?_)
                    · refine hw_aloadn (aX12_location 67 rfl) rfl ?_
                      refine hw_get (v := .int (x235)) (aX12_location 68 rfl) wf_RX12_475 (c121 hS) (s121 hS) (by decide) (congrArg Value.int (show FI224 121 69 = x235 from h236)) ?_
                      refine hw_ifeq (tgt := 139) (aX12_location 69 rfl) (by decide) rfl (fun cd239 => ?_) (fun cd239 => ?_)
                      · omega
                      · refine xw_vret (aX12_location 70 rfl) rfl ?_
                        exact ⟨rfl, FI224, rfl, hI225, (gf_tr ex_rf (gf_tr ex_rf fr155 f200 rfl rfl rfl) f226 rfl rfl rfl), (by have := congrArg Int32.toInt (show FI224 121 67 = x4 from (gf_at f226 (c121 hS) (s121 hS) rfl ((gf_at f200 (c121 hS) (s121 hS) rfl (kp157))))); have := congrArg Int32.toInt (show FI224 121 68 = x232 from h233); omega), (by have := congrArg Int32.toInt (show FI224 121 68 = x232 from h233); omega), (by have := congrArg Int32.toInt (show FI224 121 68 = x232 from h233); have := congrArg Int32.toInt (show FI224 121 73 = x213 from (gf_at f226 (c121 hS) (s121 hS) rfl (h214))); omega), (by have := congrArg Int32.toInt (show FI224 121 73 = x213 from (gf_at f226 (c121 hS) (s121 hS) rfl (h214))); omega), (by have := congrArg Int32.toInt (show FI224 121 71 = x216 from (gf_at f226 (c121 hS) (s121 hS) rfl (h217))); omega), (by have := congrArg Int32.toInt (show FI224 121 69 = x235 from h236); exact fun h => absurd h (by omega)), (by have := congrArg Int32.toInt (show FI224 121 69 = x235 from h236); exact fun h => absurd h (by omega))⟩
                    · omega
                  · refine hw_aloadn (aX12_location 43 rfl) rfl ?_
                    refine hw_get (v := .ref (base + 149)) (aX12_location 44 rfl) wf_RX12_105 (c121 hS) (s121 hS) (by decide) (congrArg (fun r => va_rf (h_rf base r)) (r121_62 hF)) ?_
                    refine hw_aloadn (aX12_location 45 rfl) rfl ?_
                    refine hw_get (v := .int (x232)) (aX12_location 46 rfl) wf_RX12_478 (c121 hS) (s121 hS) (by decide) (congrArg Value.int (show FI224 121 68 = x232 from h233)) ?_
                    obtain ⟨x240, h241⟩ : ∃ y, FI224 149 (x232).toNatClampNeg = y := ⟨_, rfl⟩
                    have h241l := congrArg Int32.toInt h241
                    have := i_rng x240
                    refine hw_iald (v := x240) (aX12_location 47 rfl) (c149 hS) (s149 hS) (h_in rfl (by omega) (by omega)) (show FI224 149 (x232).toNatClampNeg = x240 from h241) ?_
                    refine hw_ic (v := (3 : Int32)) (aX12_location 48 rfl) (by decide) ?_
                    refine hw_iceq (tgt := 103) (aX12_location 49 rfl) (by decide) rfl (by decide : (3 : Int32).toInt = 3) (fun cd242 => ?_) (fun cd242 => ?_)
                    · refine hw_aloadn (aX12_location 53 rfl) rfl ?_
                      refine hw_get (v := .int (x235)) (aX12_location 54 rfl) wf_RX12_475 (c121 hS) (s121 hS) (by decide) (congrArg Value.int (show FI224 121 69 = x235 from h236)) ?_
                      refine hw_ifne (tgt := 131) (aX12_location 55 rfl) (by decide) rfl (fun cd243 => ?_) (fun cd243 => ?_)
                      · omega
                      · have := congrArg Int32.toInt (show FI224 121 67 = x4 from (gf_at f226 (c121 hS) (s121 hS) rfl ((gf_at f200 (c121 hS) (s121 hS) rfl (kp157)))))
                        have hne243 := rl_e_ne rl230 (t := x232) (by omega)
                        refine hw_aloadn (aX12_location 56 rfl) rfl ?_
                        refine hw_get (v := .ref (base + 150)) (aX12_location 57 rfl) wf_RX12_108 (c121 hS) (s121 hS) (by decide) (congrArg (fun r => va_rf (h_rf base r)) (r121_63 hF)) ?_
                        refine hw_aloadn (aX12_location 58 rfl) rfl ?_
                        refine hw_get (v := .int (x232)) (aX12_location 59 rfl) wf_RX12_478 (c121 hS) (s121 hS) (by decide) (congrArg Value.int (show FI224 121 68 = x232 from h233)) ?_
                        obtain ⟨x244, h245⟩ : ∃ y, FL 150 (x232).toNatClampNeg = y := ⟨_, rfl⟩
                        have h245l := congrArg Int64.toInt h245
                        have := l_rng x244
                        refine hw_lald (v := x244) (aX12_location 60 rfl) (c150 hS) (s150 hS) (h_in rfl (by omega) (by omega)) (show FL 150 (x232).toNatClampNeg = x244 from h245) ?_
                        refine xw_ldc2 (aX12_location 61 rfl) wk_RX12_547 ?_
                        refine hw_lcle (tgt := 131) (aX12_location 62 rfl) (aX12_location 63 rfl) (by decide) rfl (by decide : (64 : Int64).toInt = 64) (fun cd246 => ?_) (fun cd246 => ?_)
                        · refine hw_aloadn (aX12_location 67 rfl) rfl ?_
                          refine hw_get (v := .int (x235)) (aX12_location 68 rfl) wf_RX12_475 (c121 hS) (s121 hS) (by decide) (congrArg Value.int (show FI224 121 69 = x235 from h236)) ?_
                          refine hw_ifeq (tgt := 139) (aX12_location 69 rfl) (by decide) rfl (fun cd247 => ?_) (fun cd247 => ?_)
                          · refine hw_aloadn (aX12_location 71 rfl) rfl ?_
                            refine hw_sp (v := (147 : Int32)) (aX12_location 72 rfl) (by decide) ?_
                            refine hw_callV (Bs := [.int ((147 : Int32))]) (rest := []) (aX12_location 73 rfl) wc_RX12_496 (by decide) rfl wi_yX12_emit wv_yX12_emit (c121 hS) (s121 hS) rfl rfl rfl (Nat.le_of_ble_eq_true rfl) (Nat.le_of_ble_eq_true rfl) (n_emit0 (d := d + 7) hS hF hI225 ((147 : Int32)) (by have := congrArg Int32.toInt (show FI224 121 73 = x213 from (gf_at f226 (c121 hS) (s121 hS) rfl (h214))); omega)) (fun v248 sv249 p250 => ?_)
                            have := congrArg Int32.toInt (show FI224 121 73 = x213 from (gf_at f226 (c121 hS) (s121 hS) rfl (h214)))
                            obtain ⟨rfl, FI252, rfl, hI253, f254, t255⟩ := p250
                            have rl256 : rl_e (FI252 149) (FI252 121 67) := by rw [show FI252 149 = FI224 149 from gf_row f254 (c149 hS) (s149 hS) rfl rfl, show FI252 121 67 = FI224 121 67 from gf_at f254 (c121 hS) (s121 hS) rfl rfl]; exact rl230
                            have rl257 : rl_t (FI252 149) (FL 150) := by rw [show FI252 149 = FI224 149 from gf_row f254 (c149 hS) (s149 hS) rfl rfl]; exact rl231
                            obtain ⟨x258, h259⟩ : ∃ y, FI252 121 73 = y := ⟨_, rfl⟩
                            have h259l := congrArg Int32.toInt h259
                            have b260 := gI_121_73 hI253; rw [h259] at b260
                            show hw base _ _ _ _ _ [] _ _
                            refine hw_aloadn (aX12_location 74 rfl) rfl ?_
                            refine hw_aloadn (aX12_location 75 rfl) rfl ?_
                            refine hw_get (v := .ref (base + 150)) (aX12_location 76 rfl) wf_RX12_108 (c121 hS) (s121 hS) (by decide) (congrArg (fun r => va_rf (h_rf base r)) (r121_63 hF)) ?_
                            refine hw_aloadn (aX12_location 77 rfl) rfl ?_
                            refine hw_get (v := .int (x232)) (aX12_location 78 rfl) wf_RX12_478 (c121 hS) (s121 hS) (by decide) (congrArg Value.int (show FI252 121 68 = x232 from (gf_at f254 (c121 hS) (s121 hS) rfl (h233)))) ?_
                            refine hw_lald (v := x244) (aX12_location 79 rfl) (c150 hS) (s150 hS) (h_in rfl (by omega) (by omega)) (show FL 150 (x232).toNatClampNeg = x244 from h245) ?_
                            have hv := (rl257 (x232).toNatClampNeg).1 (by have := congrArg Int32.toInt (show FI252 149 (x232).toNatClampNeg = x240 from (gf_at f254 (c149 hS) (s149 hS) rfl (h241))); omega)
                            have e261 : 0 ≤ (x244).toInt ∧ (x244).toInt ≤ 999999999999999999 := by omega
                            refine hw_callV (Bs := [.long (x244)]) (rest := []) (aX12_location 80 rfl) wc_RX12_549 (by decide) rfl wi_yX12_unsigned wv_yX12_unsigned (c121 hS) (s121 hS) rfl rfl rfl (Nat.le_of_ble_eq_true rfl) (Nat.le_of_ble_eq_true rfl) (n_unsigned0 (d := d + 6) hS hF hI253 (x244) (by have := congrArg Int32.toInt (show FI252 121 73 = x258 from h259); omega) (by omega)) (fun v262 sv263 p264 => ?_)
                            have := congrArg Int32.toInt (show FI252 121 73 = x258 from h259)
                            have := congrArg Int32.toInt (show FI252 121 73 = x258 from h259)
                            obtain ⟨rfl, FI266, rfl, hI267, f268, t269, t270⟩ := p264
                            have rl271 : rl_e (FI266 149) (FI266 121 67) := by rw [show FI266 149 = FI252 149 from gf_row f268 (c149 hS) (s149 hS) rfl rfl, show FI266 121 67 = FI252 121 67 from gf_at f268 (c121 hS) (s121 hS) rfl rfl]; exact rl256
                            have rl272 : rl_t (FI266 149) (FL 150) := by rw [show FI266 149 = FI252 149 from gf_row f268 (c149 hS) (s149 hS) rfl rfl]; exact rl257
                            obtain ⟨x273, h274⟩ : ∃ y, FI266 121 73 = y := ⟨_, rfl⟩
                            have h274l := congrArg Int32.toInt h274
                            have b275 := gI_121_73 hI267; rw [h274] at b275
                            show hw base _ _ _ _ _ [] _ _
                            refine hw_aloadn (aX12_location 81 rfl) rfl ?_
                            refine hw_aloadn (aX12_location 82 rfl) rfl ?_
                            refine hw_get (v := .int (x232)) (aX12_location 83 rfl) wf_RX12_478 (c121 hS) (s121 hS) (by decide) (congrArg Value.int (show FI266 121 68 = x232 from (gf_at f268 (c121 hS) (s121 hS) rfl ((gf_at f254 (c121 hS) (s121 hS) rfl (h233)))))) ?_
                            refine hw_ic (v := (1 : Int32)) (aX12_location 84 rfl) (by decide) ?_
                            refine xw_iadd (aX12_location 85 rfl) ?_
                            refine hw_tie (A := ((x232).toInt) + (1)) (i_add rfl (by decide : (1 : Int32).toInt = 1) (by omega) (by omega)) (fun x276 e277 => ?_)
                            refine hv_puti (aX12_location 86 rfl) wf_RX12_478 (c121 hS) (s121 hS) (by decide) rfl rfl (fun FI278 u279 => ?_)
                            have rl280 : rl_e (FI278 149) (FI278 121 67) := by rw [show FI278 149 = FI266 149 from up_row u279 (by decide) rfl, show FI278 121 67 = FI266 121 67 from up_k u279 (by decide) rfl]; exact rl271
                            have rl281 : rl_t (FI278 149) (FL 150) := by rw [show FI278 149 = FI266 149 from up_row u279 (by decide) rfl]; exact rl272
                            have hI282 : g_I FI278 := gU_121_68 hI267 u279 (by have := (e277 : (x276).toInt = ((x232).toInt) + (1)); omega) (by have := (e277 : (x276).toInt = ((x232).toInt) + (1)); omega)
                            refine xw_iloadn (aX12_location 87 rfl) rfl ?_
                            refine hw_ic (v := (1 : Int32)) (aX12_location 88 rfl) (by decide) ?_
                            refine xw_iadd (aX12_location 89 rfl) ?_
                            refine hw_tie (A := ((y2).toInt) + (1)) (i_add rfl (by decide : (1 : Int32).toInt = 1) (by omega) (by omega)) (fun x283 e284 => ?_)
                            refine xw_istoren (L2 := [(2, .int (x283)), (1, .int (x9)), (0, .ref (base + 121))]) (aX12_location 90 rfl) (by decide) rfl ?_
                            refine hw_aloadn (aX12_location 91 rfl) rfl ?_
                            refine hw_bp (v := (44 : Int32)) (aX12_location 92 rfl) (by decide) ?_
                            refine hw_callV (Bs := [.int ((44 : Int32))]) (rest := []) (aX12_location 93 rfl) wc_RX12_484 (by decide) rfl wi_yX12_isSign wv_yX12_isSign (c121 hS) (s121 hS) rfl rfl rfl (Nat.le_of_ble_eq_true rfl) (Nat.le_of_ble_eq_true rfl) (n_isSign (d := d + 7) hS hF hI282 ((44 : Int32)) (by have := congrArg Int32.toInt (show FI278 121 68 = x276 from up_eq u279); have := (e277 : (x276).toInt = ((x232).toInt) + (1)); have := congrArg Int32.toInt (show FI278 121 67 = x4 from (up_k u279 (by decide) ((gf_at f268 (c121 hS) (s121 hS) rfl ((gf_at f254 (c121 hS) (s121 hS) rfl ((gf_at f226 (c121 hS) (s121 hS) rfl ((gf_at f200 (c121 hS) (s121 hS) rfl (kp157))))))))))); omega) (show rl_e (FI278 149) (FI278 121 67) from rl280)) (fun v285 sv286 p287 => ?_)
                            have := congrArg Int32.toInt (show FI278 121 68 = x276 from up_eq u279)
                            have := (e277 : (x276).toInt = ((x232).toInt) + (1))
                            have := congrArg Int32.toInt (show FI278 121 67 = x4 from (up_k u279 (by decide) ((gf_at f268 (c121 hS) (s121 hS) rfl ((gf_at f254 (c121 hS) (s121 hS) rfl ((gf_at f226 (c121 hS) (s121 hS) rfl ((gf_at f200 (c121 hS) (s121 hS) rfl (kp157)))))))))))
                            obtain ⟨r288, rfl, rfl, t290, t291, u292⟩ := p287
                            show hw base _ _ _ _ _ [.int (r288)] _ _
                            have := congrArg Int32.toInt (show FI278 121 68 = x276 from up_eq u279)
                            have hcm := u292; rw [show ((44 : Int32)).toInt = (44 : Int) from by decide, show FI278 149 = FI 149 from (up_row u279 (by decide) ((gf_row f268 (c149 hS) (s149 hS) rfl ((gf_row f254 (c149 hS) (s149 hS) rfl ((gf_row f226 (c149 hS) (s149 hS) rfl ((gf_row f200 (c149 hS) (s149 hS) rfl (rw169)))))))))), show (FI278 121 68).toInt.toNat = (FI198 121 68).toInt.toNat + 2 by omega] at hcm
                            refine xw_istoren (L2 := [(3, .int (r288)), (2, .int (x283)), (1, .int (x9)), (0, .ref (base + 121))]) (aX12_location 94 rfl) (by decide) rfl ?_
                            refine xw_iloadn (aX12_location 95 rfl) rfl ?_
                            refine hw_ifeq (tgt := 22) (aX12_location 96 rfl) (by decide) rfl (fun cd293 => ?_) (fun cd293 => ?_)
                            · clear t290
                              refine xw_iloadn (aX12_location 13 rfl) rfl ?_
                              refine hw_ifeq (tgt := 197) (aX12_location 14 rfl) (by decide) rfl (fun cd294 => ?_) (fun cd294 => ?_)
                              · have hpts := gr_pf_end xi33_0 (hgp (by omega)) (fun h => absurd (hcm.mpr h) (by omega))
                                refine hw_aloadn (aX12_location 104 rfl) rfl ?_
                                refine hw_bp (v := (125 : Int32)) (aX12_location 105 rfl) (by decide) ?_
                                refine hw_callV (Bs := [.int ((125 : Int32))]) (rest := []) (aX12_location 106 rfl) wc_RX12_527 (by decide) rfl wi_yX12_need wv_yX12_need (c121 hS) (s121 hS) rfl rfl rfl (Nat.le_of_ble_eq_true rfl) (Nat.le_of_ble_eq_true rfl) (n_need (d := d + 6) hS hF hI282 ((125 : Int32)) (by have := congrArg Int32.toInt (show FI278 121 68 = x276 from up_eq u279); have := (e277 : (x276).toInt = ((x232).toInt) + (1)); have := congrArg Int32.toInt (show FI278 121 67 = x4 from (up_k u279 (by decide) ((gf_at f268 (c121 hS) (s121 hS) rfl ((gf_at f254 (c121 hS) (s121 hS) rfl ((gf_at f226 (c121 hS) (s121 hS) rfl ((gf_at f200 (c121 hS) (s121 hS) rfl (kp157))))))))))); omega) (show rl_e (FI278 149) (FI278 121 67) from rl280)) (fun v295 sv296 p297 => ?_)
                                have := congrArg Int32.toInt (show FI278 121 68 = x276 from up_eq u279)
                                have := (e277 : (x276).toInt = ((x232).toInt) + (1))
                                have := congrArg Int32.toInt (show FI278 121 69 = x235 from (up_k u279 (by decide) ((gf_at f268 (c121 hS) (s121 hS) rfl ((gf_at f254 (c121 hS) (s121 hS) rfl (h236)))))))
                                have := congrArg Int32.toInt (show FI278 121 68 = x276 from up_eq u279)
                                have := (e277 : (x276).toInt = ((x232).toInt) + (1))
                                have := congrArg Int32.toInt (show FI278 121 68 = x276 from up_eq u279)
                                have := (e277 : (x276).toInt = ((x232).toInt) + (1))
                                obtain ⟨rfl, FI299, rfl, hI300, f301, t302, t303, t304⟩ := p297
                                have rl305 : rl_e (FI299 149) (FI299 121 67) := by rw [show FI299 149 = FI278 149 from gf_row f301 (c149 hS) (s149 hS) rfl rfl, show FI299 121 67 = FI278 121 67 from gf_at f301 (c121 hS) (s121 hS) rfl rfl]; exact rl280
                                have rl306 : rl_t (FI299 149) (FL 150) := by rw [show FI299 149 = FI278 149 from gf_row f301 (c149 hS) (s149 hS) rfl rfl]; exact rl281
                                obtain ⟨x307, h308⟩ : ∃ y, FI299 121 68 = y := ⟨_, rfl⟩
                                have h308l := congrArg Int32.toInt h308
                                have b309 := gI_121_68 hI300; rw [h308] at b309
                                have := congrArg Int32.toInt (show FI299 121 67 = x4 from (gf_at f301 (c121 hS) (s121 hS) rfl ((up_k u279 (by decide) ((gf_at f268 (c121 hS) (s121 hS) rfl ((gf_at f254 (c121 hS) (s121 hS) rfl ((gf_at f226 (c121 hS) (s121 hS) rfl ((gf_at f200 (c121 hS) (s121 hS) rfl (kp157)))))))))))))
                                obtain ⟨x310, h311⟩ : ∃ y, FI299 121 69 = y := ⟨_, rfl⟩
                                have h311l := congrArg Int32.toInt h311
                                have := i_rng x310
                                show hw base _ _ _ _ _ [] _ _
                                refine hw_aloadn (aX12_location 107 rfl) rfl ?_
                                refine hw_aloadn (aX12_location 108 rfl) rfl ?_
                                refine hw_get (v := .int (x216)) (aX12_location 109 rfl) wf_RX12_490 (c121 hS) (s121 hS) (by decide) (congrArg Value.int (show FI299 121 71 = x216 from (gf_at f301 (c121 hS) (s121 hS) rfl ((up_k u279 (by decide) ((gf_at f268 (c121 hS) (s121 hS) rfl ((gf_at f254 (c121 hS) (s121 hS) rfl ((gf_at f226 (c121 hS) (s121 hS) rfl (h217)))))))))))) ?_
                                refine hw_ic (v := (1 : Int32)) (aX12_location 110 rfl) (by decide) ?_
                                refine xw_isub (aX12_location 111 rfl) ?_
                                refine hw_tie (A := ((x216).toInt) - (1)) (i_sub rfl (by decide : (1 : Int32).toInt = 1) (by omega) (by omega)) (fun x312 e313 => ?_)
                                refine hv_puti (aX12_location 112 rfl) wf_RX12_490 (c121 hS) (s121 hS) (by decide) rfl rfl (fun FI314 u315 => ?_)
                                have rl316 : rl_e (FI314 149) (FI314 121 67) := by rw [show FI314 149 = FI299 149 from up_row u315 (by decide) rfl, show FI314 121 67 = FI299 121 67 from up_k u315 (by decide) rfl]; exact rl305
                                have rl317 : rl_t (FI314 149) (FL 150) := by rw [show FI314 149 = FI299 149 from up_row u315 (by decide) rfl]; exact rl306
                                have hI318 : g_I FI314 := gU_F hI300 u315 rfl
                                refine xw_goto (tgt := 235) (aX12_location 113 rfl) (by decide) ?_
                                refine hw_aloadn (aX12_location 123 rfl) rfl ?_
                                refine hw_get (v := .int (x273)) (aX12_location 124 rfl) wf_RX12_493 (c121 hS) (s121 hS) (by decide) (congrArg Value.int (show FI314 121 73 = x273 from (up_k u315 (by decide) ((gf_at f301 (c121 hS) (s121 hS) rfl ((up_k u279 (by decide) (h274)))))))) ?_
                                refine xw_iloadn (aX12_location 125 rfl) rfl ?_
                                refine xw_isub (aX12_location 126 rfl) ?_
                                refine hw_tie (A := ((x273).toInt) - ((x9).toInt)) (i_sub rfl rfl (by omega) (by omega)) (fun x319 e320 => ?_)
                                refine hw_sp (v := (300 : Int32)) (aX12_location 127 rfl) (by decide) ?_
                                refine hw_icle (tgt := 257) (aX12_location 128 rfl) (by decide) e320 (by decide : (300 : Int32).toInt = 300) (fun cd321 => ?_) (fun cd321 => ?_)
                                · have hq3 : (FI314 121 69).toInt = 0 → ((FI314 121 68).toInt).toNat = (FI198 121 68).toInt.toNat + 3 := fun h => by have := congrArg Int32.toInt (show FI314 121 68 = x307 from (up_k u315 (by decide) (h308))); have := congrArg Int32.toInt (show FI314 121 69 = x310 from (up_k u315 (by decide) (h311))); omega
                                  refine xw_vret (aX12_location 135 rfl) rfl ?_
                                  exact ⟨rfl, FI314, rfl, hI318, (gf_f (gf_tr ex_rf (gf_f (gf_tr ex_rf (gf_tr ex_rf (gf_tr ex_rf (gf_tr ex_rf fr155 f200 rfl rfl rfl) f226 rfl rfl rfl) f254 rfl rfl rfl) f268 rfl rfl rfl) u279 (by decide)) f301 rfl rfl rfl) u315 (by decide)), (by have := congrArg Int32.toInt (show FI314 121 67 = x4 from (up_k u315 (by decide) ((gf_at f301 (c121 hS) (s121 hS) rfl ((up_k u279 (by decide) ((gf_at f268 (c121 hS) (s121 hS) rfl ((gf_at f254 (c121 hS) (s121 hS) rfl ((gf_at f226 (c121 hS) (s121 hS) rfl ((gf_at f200 (c121 hS) (s121 hS) rfl (kp157))))))))))))))); have := congrArg Int32.toInt (show FI314 121 68 = x307 from (up_k u315 (by decide) (h308))); omega), (by have := congrArg Int32.toInt (show FI314 121 68 = x307 from (up_k u315 (by decide) (h308))); omega), (by have := congrArg Int32.toInt (show FI314 121 68 = x307 from (up_k u315 (by decide) (h308))); have := congrArg Int32.toInt (show FI314 121 73 = x273 from (up_k u315 (by decide) ((gf_at f301 (c121 hS) (s121 hS) rfl ((up_k u279 (by decide) (h274))))))); omega), (by have := congrArg Int32.toInt (show FI314 121 73 = x273 from (up_k u315 (by decide) ((gf_at f301 (c121 hS) (s121 hS) rfl ((up_k u279 (by decide) (h274))))))); omega), (by have := congrArg Int32.toInt (show FI314 121 71 = x312 from up_eq u315); have := (e313 : (x312).toInt = ((x216).toInt) - (1)); omega), (by have := congrArg Int32.toInt (show FI314 121 68 = x307 from (up_k u315 (by decide) (h308))); have := congrArg Int32.toInt (show FI314 121 69 = x310 from (up_k u315 (by decide) (h311))); intro h69; rw [hq3 (by omega)]; exact Or.inr ⟨hcu, (y2).toInt.toNat + 1, by omega, hpts⟩), (by have := congrArg Int32.toInt (show FI314 121 69 = x310 from (up_k u315 (by decide) (h311))); have := congrArg Int32.toInt (show FI314 121 71 = x312 from up_eq u315); have := (e313 : (x312).toInt = ((x216).toInt) - (1)); exact fun _ => by omega)⟩
                                · refine hw_aloadn (aX12_location 129 rfl) rfl ?_
                                  refine hw_get (v := .ref (base + 163)) (aX12_location 130 rfl) wf_RX12_147 (c121 hS) (s121 hS) (by decide) (congrArg (fun r => va_rf (h_rf base r)) (r121_84 hF)) ?_
                                  refine hw_aloadn (aX12_location 131 rfl) rfl ?_
                                  refine hw_get (v := .int (x14)) (aX12_location 132 rfl) wf_RX12_515 (c121 hS) (s121 hS) (by decide) (congrArg Value.int (show FI314 121 78 = x14 from (up_k u315 (by decide) ((gf_at f301 (c121 hS) (s121 hS) rfl ((up_k u279 (by decide) ((gf_at f268 (c121 hS) (s121 hS) rfl ((gf_at f254 (c121 hS) (s121 hS) rfl ((gf_at f226 (c121 hS) (s121 hS) rfl ((gf_at f200 (c121 hS) (s121 hS) rfl (kp158)))))))))))))))) ?_
                                  refine hw_ic (v := (1 : Int32)) (aX12_location 133 rfl) (by decide) ?_
                                  refine hv_zast (w := (1 : Int32)) (k := (x14).toNatClampNeg) (aX12_location 134 rfl) (c163 hS) (s163 hS) (h_in rfl (by omega) (by omega)) rfl (by decide) (fun FI322 u323 => ?_)
                                  have rl327 : rl_e (FI322 149) (FI322 121 67) := by rw [show FI322 149 = FI314 149 from up_row u323 (by decide) rfl, show FI322 121 67 = FI314 121 67 from up_c u323 (by decide) rfl]; exact rl316
                                  have rl328 : rl_t (FI322 149) (FL 150) := by rw [show FI322 149 = FI314 149 from up_row u323 (by decide) rfl]; exact rl317
                                  have hI329 : g_I FI322 := gU_163 hI318 u323 (by have := ((by decide : (1 : Int32).toInt = 1) : ((1 : Int32)).toInt = 1); omega) (by have := ((by decide : (1 : Int32).toInt = 1) : ((1 : Int32)).toInt = 1); omega)
                                  have hq3 : (FI322 121 69).toInt = 0 → ((FI322 121 68).toInt).toNat = (FI198 121 68).toInt.toNat + 3 := fun h => by have := congrArg Int32.toInt (show FI322 121 68 = x307 from (up_c u323 (by decide) ((up_k u315 (by decide) (h308))))); have := congrArg Int32.toInt (show FI322 121 69 = x310 from (up_c u323 (by decide) ((up_k u315 (by decide) (h311))))); omega
                                  refine xw_vret (aX12_location 135 rfl) rfl ?_
                                  exact ⟨rfl, FI322, rfl, hI329, (gf_a (gf_f (gf_tr ex_rf (gf_f (gf_tr ex_rf (gf_tr ex_rf (gf_tr ex_rf (gf_tr ex_rf fr155 f200 rfl rfl rfl) f226 rfl rfl rfl) f254 rfl rfl rfl) f268 rfl rfl rfl) u279 (by decide)) f301 rfl rfl rfl) u315 (by decide)) u323 (by decide)), (by have := congrArg Int32.toInt (show FI322 121 67 = x4 from (up_c u323 (by decide) ((up_k u315 (by decide) ((gf_at f301 (c121 hS) (s121 hS) rfl ((up_k u279 (by decide) ((gf_at f268 (c121 hS) (s121 hS) rfl ((gf_at f254 (c121 hS) (s121 hS) rfl ((gf_at f226 (c121 hS) (s121 hS) rfl ((gf_at f200 (c121 hS) (s121 hS) rfl (kp157))))))))))))))))); have := congrArg Int32.toInt (show FI322 121 68 = x307 from (up_c u323 (by decide) ((up_k u315 (by decide) (h308))))); omega), (by have := congrArg Int32.toInt (show FI322 121 68 = x307 from (up_c u323 (by decide) ((up_k u315 (by decide) (h308))))); omega), (by have := congrArg Int32.toInt (show FI322 121 68 = x307 from (up_c u323 (by decide) ((up_k u315 (by decide) (h308))))); have := congrArg Int32.toInt (show FI322 121 73 = x273 from (up_c u323 (by decide) ((up_k u315 (by decide) ((gf_at f301 (c121 hS) (s121 hS) rfl ((up_k u279 (by decide) (h274))))))))); omega), (by have := congrArg Int32.toInt (show FI322 121 73 = x273 from (up_c u323 (by decide) ((up_k u315 (by decide) ((gf_at f301 (c121 hS) (s121 hS) rfl ((up_k u279 (by decide) (h274))))))))); omega), (by have := congrArg Int32.toInt (show FI322 121 71 = x312 from (up_c u323 (by decide) (up_eq u315))); have := (e313 : (x312).toInt = ((x216).toInt) - (1)); omega), (by have := congrArg Int32.toInt (show FI322 121 68 = x307 from (up_c u323 (by decide) ((up_k u315 (by decide) (h308))))); have := congrArg Int32.toInt (show FI322 121 69 = x310 from (up_c u323 (by decide) ((up_k u315 (by decide) (h311))))); intro h69; rw [hq3 (by omega)]; exact Or.inr ⟨hcu, (y2).toInt.toNat + 1, by omega, hpts⟩), (by have := congrArg Int32.toInt (show FI322 121 69 = x310 from (up_c u323 (by decide) ((up_k u315 (by decide) (h311))))); have := congrArg Int32.toInt (show FI322 121 71 = x312 from (up_c u323 (by decide) (up_eq u315))); have := (e313 : (x312).toInt = ((x216).toInt) - (1)); exact fun _ => by omega)⟩
                              · omega
                            · replace t290 := t290 (by omega)
                              have hsn := gr_pf_snoc xi33_0 (hgp (by omega)) (hcm.mp (by omega))
                              refine hw_aloadn (aX12_location 97 rfl) rfl ?_
                              refine hw_aloadn (aX12_location 98 rfl) rfl ?_
                              refine hw_get (v := .int (x276)) (aX12_location 99 rfl) wf_RX12_478 (c121 hS) (s121 hS) (by decide) (congrArg Value.int (show FI278 121 68 = x276 from up_eq u279)) ?_
                              refine hw_ic (v := (1 : Int32)) (aX12_location 100 rfl) (by decide) ?_
                              refine xw_iadd (aX12_location 101 rfl) ?_
                              refine hw_tie (A := (((x232).toInt) + (1)) + (1)) (i_add e277 (by decide : (1 : Int32).toInt = 1) (by omega) (by omega)) (fun x330 e331 => ?_)
                              refine hv_puti (aX12_location 102 rfl) wf_RX12_478 (c121 hS) (s121 hS) (by decide) rfl rfl (fun FI332 u333 => ?_)
                              have rl334 : rl_e (FI332 149) (FI332 121 67) := by rw [show FI332 149 = FI278 149 from up_row u333 (by decide) rfl, show FI332 121 67 = FI278 121 67 from up_k u333 (by decide) rfl]; exact rl280
                              have rl335 : rl_t (FI332 149) (FL 150) := by rw [show FI332 149 = FI278 149 from up_row u333 (by decide) rfl]; exact rl281
                              have hI336 : g_I FI332 := gU_121_68 hI282 u333 (by have := (e331 : (x330).toInt = (((x232).toInt) + (1)) + (1)); omega) (by have := (e331 : (x330).toInt = (((x232).toInt) + (1)) + (1)); omega)
                              have hq68 : ((FI332 121 68).toInt).toNat = (FI198 121 68).toInt.toNat + 3 := by have := congrArg Int32.toInt (show FI332 121 68 = x330 from up_eq u333); have := (e331 : (x330).toInt = (((x232).toInt) + (1)) + (1)); omega
                              refine xw_goto (tgt := 22) (aX12_location 103 rfl) (by decide) ?_
                              refine xw_iloadn (aX12_location 13 rfl) rfl ?_
                              refine hw_ifeq (tgt := 197) (aX12_location 14 rfl) (by decide) rfl (fun cd337 => ?_) (fun cd337 => ?_)
                              · omega
                              · refine hw_aloadn (aX12_location 15 rfl) rfl ?_
                                refine hw_get (v := .int (x235)) (aX12_location 16 rfl) wf_RX12_475 (c121 hS) (s121 hS) (by decide) (congrArg Value.int (show FI332 121 69 = x235 from (up_k u333 (by decide) ((up_k u279 (by decide) ((gf_at f268 (c121 hS) (s121 hS) rfl ((gf_at f254 (c121 hS) (s121 hS) rfl (h236)))))))))) ?_
                                refine hw_ifne (tgt := 197) (aX12_location 17 rfl) (by decide) rfl (fun cd338 => ?_) (fun cd338 => ?_)
                                · omega
                                · exact hw_L (ih (x283) FI332 (gf_f (gf_f (gf_tr ex_rf (gf_tr ex_rf (gf_tr ex_rf (gf_tr ex_rf fr155 f200 rfl rfl rfl) f226 rfl rfl rfl) f254 rfl rfl rfl) f268 rfl rfl rfl) u279 (by decide)) u333 (by decide)) hI336 (show FI332 121 67 = x4 from (up_k u333 (by decide) ((up_k u279 (by decide) ((gf_at f268 (c121 hS) (s121 hS) rfl ((gf_at f254 (c121 hS) (s121 hS) rfl ((gf_at f226 (c121 hS) (s121 hS) rfl ((gf_at f200 (c121 hS) (s121 hS) rfl (kp157))))))))))))) (show FI332 121 78 = x14 from (up_k u333 (by decide) ((up_k u279 (by decide) ((gf_at f268 (c121 hS) (s121 hS) rfl ((gf_at f254 (c121 hS) (s121 hS) rfl ((gf_at f226 (c121 hS) (s121 hS) rfl ((gf_at f200 (c121 hS) (s121 hS) rfl (kp158))))))))))))) (show rl_e (FI332 149) (FI332 121 67) from rl334) (show rl_t (FI332 149) (FL 150) from rl335) (by have := (e284 : (x283).toInt = ((y2).toInt) + (1)); omega) (by have := (e284 : (x283).toInt = ((y2).toInt) + (1)); have := congrArg Int32.toInt (show FI332 121 68 = x330 from up_eq u333); have := (e331 : (x330).toInt = (((x232).toInt) + (1)) + (1)); omega) (by have := (e284 : (x283).toInt = ((y2).toInt) + (1)); have := congrArg Int32.toInt (show FI332 121 69 = x235 from (up_k u333 (by decide) ((up_k u279 (by decide) ((gf_at f268 (c121 hS) (s121 hS) rfl ((gf_at f254 (c121 hS) (s121 hS) rfl (h236))))))))); omega) (by have := (e284 : (x283).toInt = ((y2).toInt) + (1)); have := congrArg Int32.toInt (show FI332 121 67 = x4 from (up_k u333 (by decide) ((up_k u279 (by decide) ((gf_at f268 (c121 hS) (s121 hS) rfl ((gf_at f254 (c121 hS) (s121 hS) rfl ((gf_at f226 (c121 hS) (s121 hS) rfl ((gf_at f200 (c121 hS) (s121 hS) rfl (kp157))))))))))))); have := congrArg Int32.toInt (show FI332 121 68 = x330 from up_eq u333); have := (e331 : (x330).toInt = (((x232).toInt) + (1)) + (1)); omega) (by have := (e284 : (x283).toInt = ((y2).toInt) + (1)); have := congrArg Int32.toInt (show FI332 121 68 = x330 from up_eq u333); have := (e331 : (x330).toInt = (((x232).toInt) + (1)) + (1)); omega) (by have := (e284 : (x283).toInt = ((y2).toInt) + (1)); have := congrArg Int32.toInt (show FI332 121 68 = x330 from up_eq u333); have := (e331 : (x330).toInt = (((x232).toInt) + (1)) + (1)); have := congrArg Int32.toInt (show FI332 121 73 = x273 from (up_k u333 (by decide) ((up_k u279 (by decide) (h274))))); omega) (by have := (e284 : (x283).toInt = ((y2).toInt) + (1)); have := congrArg Int32.toInt (show FI332 121 73 = x273 from (up_k u333 (by decide) ((up_k u279 (by decide) (h274))))); omega) (by have := (e284 : (x283).toInt = ((y2).toInt) + (1)); have := congrArg Int32.toInt (show FI332 121 71 = x216 from (up_k u333 (by decide) ((up_k u279 (by decide) ((gf_at f268 (c121 hS) (s121 hS) rfl ((gf_at f254 (c121 hS) (s121 hS) rfl ((gf_at f226 (c121 hS) (s121 hS) rfl (h217))))))))))); omega) (show gr_pf (kf (FI 149)) (wf (FL 150)) ((x283).toInt : Int).toNat ((FI 121 68).toInt.toNat + 1) ((FI332 121 68).toInt).toNat from (by have := (e284 : (x283).toInt = ((y2).toInt) + (1)); have := congrArg Int32.toInt (show FI332 121 68 = x330 from up_eq u333); have := (e331 : (x330).toInt = (((x232).toInt) + (1)) + (1)); exact (by have z := hsn; rw [show ((x283).toInt : Int).toNat = (y2).toInt.toNat + 1 by omega, hq68]; exact z))) (show FI332 149 = FI 149 from (up_row u333 (by decide) ((up_row u279 (by decide) ((gf_row f268 (c149 hS) (s149 hS) rfl ((gf_row f254 (c149 hS) (s149 hS) rfl ((gf_row f226 (c149 hS) (s149 hS) rfl ((gf_row f200 (c149 hS) (s149 hS) rfl (rw169))))))))))))) (by have := (e284 : (x283).toInt = ((y2).toInt) + (1)); have := congrArg Int32.toInt (show FI332 121 68 = x330 from up_eq u333); have := (e331 : (x330).toInt = (((x232).toInt) + (1)) + (1)); omega)) ⟨rfl, rfl, rfl, trivial⟩
                          · omega
                        · refine hw_aloadn (aX12_location 64 rfl) rfl ?_
                          refine hw_ic (v := (3 : Int32)) (aX12_location 65 rfl) (by decide) ?_
                          refine hw_callV (Bs := [.int ((3 : Int32))]) (rest := []) (aX12_location 66 rfl) wc_RX12_487 (by decide) rfl wi_yX12_fail wv_yX12_fail (c121 hS) (s121 hS) rfl rfl rfl (Nat.le_of_ble_eq_true rfl) (Nat.le_of_ble_eq_true rfl) (n_fail (d := d + 7) hS hF hI225 ((3 : Int32)) (by have := ((by decide : (3 : Int32).toInt = 3) : ((3 : Int32)).toInt = 3); omega)) (fun v339 sv340 p341 => ?_)
                          obtain ⟨rfl, FI343, rfl, hI344, f345, t346⟩ := p341
                          have rl347 : rl_e (FI343 149) (FI343 121 67) := by rw [show FI343 149 = FI224 149 from gf_row f345 (c149 hS) (s149 hS) rfl rfl, show FI343 121 67 = FI224 121 67 from gf_at f345 (c121 hS) (s121 hS) rfl rfl]; exact rl230
                          have rl348 : rl_t (FI343 149) (FL 150) := by rw [show FI343 149 = FI224 149 from gf_row f345 (c149 hS) (s149 hS) rfl rfl]; exact rl231
                          obtain ⟨x349, h350⟩ : ∃ y, FI343 121 69 = y := ⟨_, rfl⟩
                          have h350l := congrArg Int32.toInt h350
                          have := i_rng x349
                          show hw base _ _ _ _ _ [] _ _
                          refine hw_aloadn (aX12_location 67 rfl) rfl ?_
                          refine hw_get (v := .int (x349)) (aX12_location 68 rfl) wf_RX12_475 (c121 hS) (s121 hS) (by decide) (congrArg Value.int (show FI343 121 69 = x349 from h350)) ?_
                          refine hw_ifeq (tgt := 139) (aX12_location 69 rfl) (by decide) rfl (fun cd351 => ?_) (fun cd351 => ?_)
                          · omega
                          · refine xw_vret (aX12_location 70 rfl) rfl ?_
                            exact ⟨rfl, FI343, rfl, hI344, (gf_tr ex_rf (gf_tr ex_rf (gf_tr ex_rf fr155 f200 rfl rfl rfl) f226 rfl rfl rfl) f345 rfl rfl rfl), (by have := congrArg Int32.toInt (show FI343 121 67 = x4 from (gf_at f345 (c121 hS) (s121 hS) rfl ((gf_at f226 (c121 hS) (s121 hS) rfl ((gf_at f200 (c121 hS) (s121 hS) rfl (kp157))))))); have := congrArg Int32.toInt (show FI343 121 68 = x232 from (gf_at f345 (c121 hS) (s121 hS) rfl (h233))); omega), (by have := congrArg Int32.toInt (show FI343 121 68 = x232 from (gf_at f345 (c121 hS) (s121 hS) rfl (h233))); omega), (by have := congrArg Int32.toInt (show FI343 121 68 = x232 from (gf_at f345 (c121 hS) (s121 hS) rfl (h233))); have := congrArg Int32.toInt (show FI343 121 73 = x213 from (gf_at f345 (c121 hS) (s121 hS) rfl ((gf_at f226 (c121 hS) (s121 hS) rfl (h214))))); omega), (by have := congrArg Int32.toInt (show FI343 121 73 = x213 from (gf_at f345 (c121 hS) (s121 hS) rfl ((gf_at f226 (c121 hS) (s121 hS) rfl (h214))))); omega), (by have := congrArg Int32.toInt (show FI343 121 71 = x216 from (gf_at f345 (c121 hS) (s121 hS) rfl ((gf_at f226 (c121 hS) (s121 hS) rfl (h217))))); omega), (by have := congrArg Int32.toInt (show FI343 121 69 = x349 from h350); exact fun h => absurd h (by omega)), (by have := congrArg Int32.toInt (show FI343 121 69 = x349 from h350); exact fun h => absurd h (by omega))⟩
                    · refine hw_aloadn (aX12_location 50 rfl) rfl ?_
                      refine hw_ic (v := (1 : Int32)) (aX12_location 51 rfl) (by decide) ?_
                      refine hw_callV (Bs := [.int ((1 : Int32))]) (rest := []) (aX12_location 52 rfl) wc_RX12_487 (by decide) rfl wi_yX12_fail wv_yX12_fail (c121 hS) (s121 hS) rfl rfl rfl (Nat.le_of_ble_eq_true rfl) (Nat.le_of_ble_eq_true rfl) (n_fail (d := d + 7) hS hF hI225 ((1 : Int32)) (by have := ((by decide : (1 : Int32).toInt = 1) : ((1 : Int32)).toInt = 1); omega)) (fun v352 sv353 p354 => ?_)
                      obtain ⟨rfl, FI356, rfl, hI357, f358, t359⟩ := p354
                      have rl360 : rl_e (FI356 149) (FI356 121 67) := by rw [show FI356 149 = FI224 149 from gf_row f358 (c149 hS) (s149 hS) rfl rfl, show FI356 121 67 = FI224 121 67 from gf_at f358 (c121 hS) (s121 hS) rfl rfl]; exact rl230
                      have rl361 : rl_t (FI356 149) (FL 150) := by rw [show FI356 149 = FI224 149 from gf_row f358 (c149 hS) (s149 hS) rfl rfl]; exact rl231
                      obtain ⟨x362, h363⟩ : ∃ y, FI356 121 69 = y := ⟨_, rfl⟩
                      have h363l := congrArg Int32.toInt h363
                      have := i_rng x362
                      show hw base _ _ _ _ _ [] _ _
                      refine hw_aloadn (aX12_location 53 rfl) rfl ?_
                      refine hw_get (v := .int (x362)) (aX12_location 54 rfl) wf_RX12_475 (c121 hS) (s121 hS) (by decide) (congrArg Value.int (show FI356 121 69 = x362 from h363)) ?_
                      refine hw_ifne (tgt := 131) (aX12_location 55 rfl) (by decide) rfl (fun cd364 => ?_) (fun cd364 => ?_)
                      · refine hw_aloadn (aX12_location 67 rfl) rfl ?_
                        refine hw_get (v := .int (x362)) (aX12_location 68 rfl) wf_RX12_475 (c121 hS) (s121 hS) (by decide) (congrArg Value.int (show FI356 121 69 = x362 from h363)) ?_
                        refine hw_ifeq (tgt := 139) (aX12_location 69 rfl) (by decide) rfl (fun cd365 => ?_) (fun cd365 => ?_)
                        · omega
                        · refine xw_vret (aX12_location 70 rfl) rfl ?_
                          exact ⟨rfl, FI356, rfl, hI357, (gf_tr ex_rf (gf_tr ex_rf (gf_tr ex_rf fr155 f200 rfl rfl rfl) f226 rfl rfl rfl) f358 rfl rfl rfl), (by have := congrArg Int32.toInt (show FI356 121 67 = x4 from (gf_at f358 (c121 hS) (s121 hS) rfl ((gf_at f226 (c121 hS) (s121 hS) rfl ((gf_at f200 (c121 hS) (s121 hS) rfl (kp157))))))); have := congrArg Int32.toInt (show FI356 121 68 = x232 from (gf_at f358 (c121 hS) (s121 hS) rfl (h233))); omega), (by have := congrArg Int32.toInt (show FI356 121 68 = x232 from (gf_at f358 (c121 hS) (s121 hS) rfl (h233))); omega), (by have := congrArg Int32.toInt (show FI356 121 68 = x232 from (gf_at f358 (c121 hS) (s121 hS) rfl (h233))); have := congrArg Int32.toInt (show FI356 121 73 = x213 from (gf_at f358 (c121 hS) (s121 hS) rfl ((gf_at f226 (c121 hS) (s121 hS) rfl (h214))))); omega), (by have := congrArg Int32.toInt (show FI356 121 73 = x213 from (gf_at f358 (c121 hS) (s121 hS) rfl ((gf_at f226 (c121 hS) (s121 hS) rfl (h214))))); omega), (by have := congrArg Int32.toInt (show FI356 121 71 = x216 from (gf_at f358 (c121 hS) (s121 hS) rfl ((gf_at f226 (c121 hS) (s121 hS) rfl (h217))))); omega), (by have := congrArg Int32.toInt (show FI356 121 69 = x362 from h363); exact fun h => absurd h (by omega)), (by have := congrArg Int32.toInt (show FI356 121 69 = x362 from h363); exact fun h => absurd h (by omega))⟩
                      · omega
                · omega
              · refine hw_aloadn (aX12_location 28 rfl) rfl ?_
                refine hw_bp (v := (6 : Int32)) (aX12_location 29 rfl) (by decide) ?_
                refine hw_callV (Bs := [.int ((6 : Int32))]) (rest := []) (aX12_location 30 rfl) wc_RX12_487 (by decide) rfl wi_yX12_fail wv_yX12_fail (c121 hS) (s121 hS) rfl rfl rfl (Nat.le_of_ble_eq_true rfl) (Nat.le_of_ble_eq_true rfl) (n_fail (d := d + 7) hS hF hI156 ((6 : Int32)) (by have := ((by decide : (6 : Int32).toInt = 6) : ((6 : Int32)).toInt = 6); omega)) (fun v366 sv367 p368 => ?_)
                obtain ⟨rfl, FI370, rfl, hI371, f372, t373⟩ := p368
                have rl374 : rl_e (FI370 149) (FI370 121 67) := by rw [show FI370 149 = FIv154 149 from gf_row f372 (c149 hS) (s149 hS) rfl rfl, show FI370 121 67 = FIv154 121 67 from gf_at f372 (c121 hS) (s121 hS) rfl rfl]; exact rl159
                have rl375 : rl_t (FI370 149) (FL 150) := by rw [show FI370 149 = FIv154 149 from gf_row f372 (c149 hS) (s149 hS) rfl rfl]; exact rl160
                obtain ⟨x376, h377⟩ : ∃ y, FI370 121 69 = y := ⟨_, rfl⟩
                have h377l := congrArg Int32.toInt h377
                have := i_rng x376
                show hw base _ _ _ _ _ [] _ _
                refine hw_aloadn (aX12_location 31 rfl) rfl ?_
                refine hw_get (v := .int (x376)) (aX12_location 32 rfl) wf_RX12_475 (c121 hS) (s121 hS) (by decide) (congrArg Value.int (show FI370 121 69 = x376 from h377)) ?_
                refine hw_ifeq (tgt := 68) (aX12_location 33 rfl) (by decide) rfl (fun cd378 => ?_) (fun cd378 => ?_)
                · omega
                · refine xw_vret (aX12_location 34 rfl) rfl ?_
                  exact ⟨rfl, FI370, rfl, hI371, (gf_tr ex_rf fr155 f372 rfl rfl rfl), (by have := congrArg Int32.toInt (show FI370 121 67 = x4 from (gf_at f372 (c121 hS) (s121 hS) rfl (kp157))); have := congrArg Int32.toInt (show FI370 121 68 = x171 from (gf_at f372 (c121 hS) (s121 hS) rfl (h172))); omega), (by have := congrArg Int32.toInt (show FI370 121 68 = x171 from (gf_at f372 (c121 hS) (s121 hS) rfl (h172))); omega), (by have := congrArg Int32.toInt (show FI370 121 68 = x171 from (gf_at f372 (c121 hS) (s121 hS) rfl (h172))); have := congrArg Int32.toInt (show FI370 121 73 = x176 from (gf_at f372 (c121 hS) (s121 hS) rfl (h177))); omega), (by have := congrArg Int32.toInt (show FI370 121 73 = x176 from (gf_at f372 (c121 hS) (s121 hS) rfl (h177))); omega), (by have := congrArg Int32.toInt (show FI370 121 71 = x179 from (gf_at f372 (c121 hS) (s121 hS) rfl (h180))); omega), (by have := congrArg Int32.toInt (show FI370 121 69 = x376 from h377); exact fun h => absurd h (by omega)), (by have := congrArg Int32.toInt (show FI370 121 69 = x376 from h377); exact fun h => absurd h (by omega))⟩
            · clear t188
              refine hw_aloadn (aX12_location 21 rfl) rfl ?_
              refine hw_ic (v := (1 : Int32)) (aX12_location 22 rfl) (by decide) ?_
              refine hw_callV (Bs := [.int ((1 : Int32))]) (rest := []) (aX12_location 23 rfl) wc_RX12_487 (by decide) rfl wi_yX12_fail wv_yX12_fail (c121 hS) (s121 hS) rfl rfl rfl (Nat.le_of_ble_eq_true rfl) (Nat.le_of_ble_eq_true rfl) (n_fail (d := d + 7) hS hF hI156 ((1 : Int32)) (by have := ((by decide : (1 : Int32).toInt = 1) : ((1 : Int32)).toInt = 1); omega)) (fun v379 sv380 p381 => ?_)
              obtain ⟨rfl, FI383, rfl, hI384, f385, t386⟩ := p381
              have rl387 : rl_e (FI383 149) (FI383 121 67) := by rw [show FI383 149 = FIv154 149 from gf_row f385 (c149 hS) (s149 hS) rfl rfl, show FI383 121 67 = FIv154 121 67 from gf_at f385 (c121 hS) (s121 hS) rfl rfl]; exact rl159
              have rl388 : rl_t (FI383 149) (FL 150) := by rw [show FI383 149 = FIv154 149 from gf_row f385 (c149 hS) (s149 hS) rfl rfl]; exact rl160
              obtain ⟨x389, h390⟩ : ∃ y, FI383 121 69 = y := ⟨_, rfl⟩
              have h390l := congrArg Int32.toInt h390
              have := i_rng x389
              show hw base _ _ _ _ _ [] _ _
              refine xw_goto (tgt := 60) (aX12_location 24 rfl) (by decide) ?_
              refine hw_aloadn (aX12_location 31 rfl) rfl ?_
              refine hw_get (v := .int (x389)) (aX12_location 32 rfl) wf_RX12_475 (c121 hS) (s121 hS) (by decide) (congrArg Value.int (show FI383 121 69 = x389 from h390)) ?_
              refine hw_ifeq (tgt := 68) (aX12_location 33 rfl) (by decide) rfl (fun cd391 => ?_) (fun cd391 => ?_)
              · omega
              · refine xw_vret (aX12_location 34 rfl) rfl ?_
                exact ⟨rfl, FI383, rfl, hI384, (gf_tr ex_rf fr155 f385 rfl rfl rfl), (by have := congrArg Int32.toInt (show FI383 121 67 = x4 from (gf_at f385 (c121 hS) (s121 hS) rfl (kp157))); have := congrArg Int32.toInt (show FI383 121 68 = x171 from (gf_at f385 (c121 hS) (s121 hS) rfl (h172))); omega), (by have := congrArg Int32.toInt (show FI383 121 68 = x171 from (gf_at f385 (c121 hS) (s121 hS) rfl (h172))); omega), (by have := congrArg Int32.toInt (show FI383 121 68 = x171 from (gf_at f385 (c121 hS) (s121 hS) rfl (h172))); have := congrArg Int32.toInt (show FI383 121 73 = x176 from (gf_at f385 (c121 hS) (s121 hS) rfl (h177))); omega), (by have := congrArg Int32.toInt (show FI383 121 73 = x176 from (gf_at f385 (c121 hS) (s121 hS) rfl (h177))); omega), (by have := congrArg Int32.toInt (show FI383 121 71 = x179 from (gf_at f385 (c121 hS) (s121 hS) rfl (h180))); omega), (by have := congrArg Int32.toInt (show FI383 121 69 = x389 from h390); exact fun h => absurd h (by omega)), (by have := congrArg Int32.toInt (show FI383 121 69 = x389 from h390); exact fun h => absurd h (by omega))⟩
        exact hw_L (lp170 ((1001 - (x109).toInt : Int).toNat + 1) ((0 : Int32)) FI101 (gf_tr ex_rf gf_rf f103 rfl rfl rfl) hI102 (show FI101 121 67 = x4 from (gf_at f103 (c121 hS) (s121 hS) rfl (h5))) (show FI101 121 78 = x14 from (gf_at f103 (c121 hS) (s121 hS) rfl (h15))) (show rl_e (FI101 149) (FI101 121 67) from rl107) (show rl_t (FI101 149) (FL 150) from rl108) (by have := ((by decide : (0 : Int32).toInt = 0) : ((0 : Int32)).toInt = 0); omega) (by have := ((by decide : (0 : Int32).toInt = 0) : ((0 : Int32)).toInt = 0); have := congrArg Int32.toInt (show FI101 121 68 = x109 from h110); omega) (by have := ((by decide : (0 : Int32).toInt = 0) : ((0 : Int32)).toInt = 0); have := congrArg Int32.toInt (show FI101 121 69 = x114 from h115); omega) (by have := ((by decide : (0 : Int32).toInt = 0) : ((0 : Int32)).toInt = 0); have := congrArg Int32.toInt (show FI101 121 67 = x4 from (gf_at f103 (c121 hS) (s121 hS) rfl (h5))); have := congrArg Int32.toInt (show FI101 121 68 = x109 from h110); omega) (by have := ((by decide : (0 : Int32).toInt = 0) : ((0 : Int32)).toInt = 0); have := congrArg Int32.toInt (show FI101 121 68 = x109 from h110); omega) (by have := ((by decide : (0 : Int32).toInt = 0) : ((0 : Int32)).toInt = 0); have := congrArg Int32.toInt (show FI101 121 68 = x109 from h110); have := congrArg Int32.toInt (show FI101 121 73 = x9 from (gf_at f103 (c121 hS) (s121 hS) rfl (h10))); omega) (by have := ((by decide : (0 : Int32).toInt = 0) : ((0 : Int32)).toInt = 0); have := congrArg Int32.toInt (show FI101 121 73 = x9 from (gf_at f103 (c121 hS) (s121 hS) rfl (h10))); omega) (by have := ((by decide : (0 : Int32).toInt = 0) : ((0 : Int32)).toInt = 0); have := congrArg Int32.toInt (show FI101 121 71 = x112 from h113); omega) (show gr_pf (kf (FI 149)) (wf (FL 150)) (0 : Int).toNat ((FI 121 68).toInt.toNat + 1) ((FI101 121 68).toInt).toNat from (by have := ((by decide : (0 : Int32).toInt = 0) : ((0 : Int32)).toInt = 0); have := congrArg Int32.toInt (show FI101 121 68 = x109 from h110); exact (by rw [show ((FI101 121 68).toInt).toNat = (FI 121 68).toInt.toNat + 1 by omega, show (0 : Int).toNat = 0 by omega]; rfl))) (show FI101 149 = FI 149 from (gf_row f103 (c149 hS) (s149 hS) rfl (rfl))) (by have := ((by decide : (0 : Int32).toInt = 0) : ((0 : Int32)).toInt = 0); have := congrArg Int32.toInt (show FI101 121 68 = x109 from h110); omega)) ⟨rfl, rfl, rfl, trivial⟩
