def nX12_turned : Nat := 0xb14f7eff00117a08106006041560041b7800b42a4f7eff0011600604151b7800b42ae4ffa70106844f2e06159700b42a600615600605157800b42a1c00a21d06150636034f7eff00117a08101d600505157800b42a4f7eff00111d600405157800b42a4f2f1005157800b42a053660041560051be2ffa70105844f2e6005151c7800b42a60051560051b7800b42a1d00a204150515053603e5ffa70105844f2e60051560051b7800b42a05159700b42a1b00a21d0515053603b10400a4a00f11ed01b42af901b606092a0436641ced01b42a3e6405641b1c3d2e2c02b42aa300b42a3c2e2c02b42aa000b42aea01b56404ea01b42a2a2c02b564042c02b42a2a
theorem bX12_turned : cX12_turned.data.toList.map UInt8.toNat = x_un nX12_turned 256 := by decide +kernel
def iX12_turned : List (Nat × Jvm.ClassFile.Instr × Nat) := [(0, .aload_n 0, 1), (1, .aload_n 0, 1), (2, .getfield 556, 3), (5, .iconst 1, 1), (6, .isub, 1), (7, .putfield 556, 3), (10, .aload_n 0, 1), (11, .aload_n 0, 1), (12, .getfield 490, 3), (15, .iconst 1, 1), (16, .isub, 1), (17, .putfield 490, 3), (20, .aload_n 0, 1), (21, .getfield 160, 3), (24, .aload_n 0, 1), (25, .getfield 556, 3), (28, .iaload, 1), (29, .istore_n 1, 1), (30, .aload_n 0, 1), (31, .getfield 163, 3), (34, .aload_n 0, 1), (35, .getfield 556, 3), (38, .iaload, 1), (39, .istore_n 2, 1), (40, .iload_n 2, 1), (41, .iload_n 1, 1), (42, .isub, 1), (43, .iconst 2, 1), (44, .isub, 1), (45, .istore_n 3, 1), (46, .aload_n 0, 1), (47, .getfield 493, 3), (50, .iload_n 2, 1), (51, .isub, 1), (52, .istore 4, 2), (54, .aload_n 0, 1), (55, .lconst 0, 1), (56, .iconst 3, 1), (57, .invokevirtual 505, 3), (60, .aload_n 0, 1), (61, .getfield 493, 3), (64, .sipush 4000, 3), (67, .if_icmp .le 4, 3), (70, .return_, 1), (71, .iconst 0, 1), (72, .istore 5, 2), (74, .iload 5, 2), (76, .iload_n 3, 1), (77, .if_icmp .ge 27, 3), (80, .aload_n 0, 1), (81, .getfield 151, 3), (84, .iload 5, 2), (86, .aload_n 0, 1), (87, .getfield 120, 3), (90, .iload_n 1, 1), (91, .iconst 2, 1), (92, .iadd, 1), (93, .iload 5, 2), (95, .iadd, 1), (96, .iaload, 1), (97, .iastore, 1), (98, .iinc 5 1, 3), (101, .goto (-27), 3), (104, .iconst 0, 1), (105, .istore 5, 2), (107, .iload 5, 2), (109, .iload 4, 2), (111, .if_icmp .ge 29, 3), (114, .aload_n 0, 1), (115, .getfield 120, 3), (118, .iload_n 1, 1), (119, .iconst 2, 1), (120, .iadd, 1), (121, .iload 5, 2), (123, .iadd, 1), (124, .aload_n 0, 1), (125, .getfield 120, 3), (128, .iload_n 2, 1), (129, .iload 5, 2), (131, .iadd, 1), (132, .iaload, 1), (133, .iastore, 1), (134, .iinc 5 1, 3), (137, .goto (-30), 3), (140, .iload_n 1, 1), (141, .iconst 2, 1), (142, .iadd, 1), (143, .iload 4, 2), (145, .iadd, 1), (146, .istore 5, 2), (148, .aload_n 0, 1), (149, .getfield 120, 3), (152, .iload 5, 2), (154, .bipush 47, 2), (156, .iastore, 1), (157, .aload_n 0, 1), (158, .getfield 120, 3), (161, .iload 5, 2), (163, .iconst 1, 1), (164, .iadd, 1), (165, .iload_n 3, 1), (166, .sipush 255, 3), (169, .iand, 1), (170, .iastore, 1), (171, .aload_n 0, 1), (172, .getfield 120, 3), (175, .iload 5, 2), (177, .iconst 2, 1), (178, .iadd, 1), (179, .iload_n 3, 1), (180, .bipush 8, 2), (182, .ishr, 1), (183, .sipush 255, 3), (186, .iand, 1), (187, .iastore, 1), (188, .iconst 0, 1), (189, .istore 6, 2), (191, .iload 6, 2), (193, .iload_n 3, 1), (194, .if_icmp .ge 28, 3), (197, .aload_n 0, 1), (198, .getfield 120, 3), (201, .iload 5, 2), (203, .iconst 3, 1), (204, .iadd, 1), (205, .iload 6, 2), (207, .iadd, 1), (208, .aload_n 0, 1), (209, .getfield 151, 3), (212, .iload 6, 2), (214, .iaload, 1), (215, .iastore, 1), (216, .iinc 6 1, 3), (219, .goto (-28), 3), (222, .aload_n 0, 1), (223, .getfield 120, 3), (226, .iload_n 1, 1), (227, .iload 4, 2), (229, .iconst 3, 1), (230, .iadd, 1), (231, .sipush 255, 3), (234, .iand, 1), (235, .iastore, 1), (236, .aload_n 0, 1), (237, .getfield 120, 3), (240, .iload_n 1, 1), (241, .iconst 1, 1), (242, .iadd, 1), (243, .iload 4, 2), (245, .iconst 3, 1), (246, .iadd, 1), (247, .bipush 8, 2), (249, .ishr, 1), (250, .sipush 255, 3), (253, .iand, 1), (254, .iastore, 1), (255, .return_, 1)]
theorem dX12_turned : x_il nX12_turned 256 iX12_turned = true := by decide +kernel
theorem aX12_turned (k : Nat) {pc : Nat} {i : Jvm.ClassFile.Instr} {len : Nat} (hk : iX12_turned[k]? = some (pc, i, len)) : x_at xMM 236 pc i len yX12_turned 7 none := ⟨cX12_turned, rfl, x_il_ok bX12_turned dX12_turned k hk⟩
set_option maxHeartbeats 4000000 in
set_option maxRecDepth 100000 in
theorem n_turned {zk : xK} {base d n sl : Nat} {SH : Nat → Nat × Nat} {FI : Nat → Nat → Int32} {FL : Nat → Nat → Int64} {FR : Nat → Nat → Option Nat} (hS : h_S n SH) (hF : h_FR FR) (hI : g_I FI) (g0 : 1 ≤ (FI 121 90).toInt) (g1 : (FI 121 73).toInt ≤ 29000) (g2 : -300 ≤ (FI 121 71).toInt ∧ (FI 121 71).toInt ≤ 300) (gg0 : (FI 166 ((FI 121 90).toInt - 1).toNat).toInt = -3) (rel_pm : rl_pm (FI 121 90) (FI 121 73) (FI 166) (FI 167) (FI 168)) : hw zk base (d + 2) none 236 0 [(0, .ref (base + 121))] [] (n, sl, SH, FI, FL, FR) (h_V (fun s => ∃ FI', s = (n, sl, SH, FI', FL, FR) ∧ g_I FI' ∧ g_fr n SH [(121, 71), (121, 73), (121, 90)] [154, 164] [] FI FI' ∧ ((FI' 121 90).toInt = (FI 121 90).toInt - 1) ∧ ((FI' 121 71).toInt = (FI 121 71).toInt - 1) ∧ ((FI' 121 73).toInt = (FI 121 73).toInt + 3) ∧ (rl_pm (FI' 121 90) (FI' 121 73) (FI' 166) (FI' 167) (FI' 168)))) := by
  obtain ⟨x1, h2⟩ : ∃ y, FI 121 90 = y := ⟨_, rfl⟩
  have h2l := congrArg Int32.toInt h2
  have b3 := gI_121_90 hI; rw [h2] at b3
  obtain ⟨x4, h5⟩ : ∃ y, FI 121 73 = y := ⟨_, rfl⟩
  have h5l := congrArg Int32.toInt h5
  have b6 := gI_121_73 hI; rw [h5] at b6
  obtain ⟨x7, h8⟩ : ∃ y, FI 121 71 = y := ⟨_, rfl⟩
  have h8l := congrArg Int32.toInt h8
  have := i_rng x7
  have e9 : -300 ≤ (x7).toInt ∧ (x7).toInt ≤ 300 := by omega
  refine hw_aloadn (aX12_turned 0 rfl) rfl ?_
  refine hw_aloadn (aX12_turned 1 rfl) rfl ?_
  refine hw_get (v := .int (x1)) (aX12_turned 2 rfl) wf_RX12_556 (c121 hS) (s121 hS) (by decide) (congrArg Value.int (show FI 121 90 = x1 from h2)) ?_
  refine hw_ic (v := (1 : Int32)) (aX12_turned 3 rfl) (by decide) ?_
  refine xw_isub (aX12_turned 4 rfl) ?_
  refine hw_tie (A := ((x1).toInt) - (1)) (i_sub rfl (by decide : (1 : Int32).toInt = 1) (by omega) (by omega)) (fun x10 e11 => ?_)
  refine hv_puti (aX12_turned 5 rfl) wf_RX12_556 (c121 hS) (s121 hS) (by decide) rfl rfl (fun FI12 u13 => ?_)
  have rl14 : rl_pm (FI12 121 90) (FI12 121 73) (FI12 166) (FI12 167) (FI12 168) := by have z0 := congrArg Int32.toInt (show FI 121 90 = x1 from h2); have z1 := congrArg Int32.toInt (show FI12 121 90 = x10 from up_eq u13); have := (e11 : (x10).toInt = ((x1).toInt) - (1)); rw [show FI12 166 = FI 166 from up_row u13 (by decide) rfl, show FI12 167 = FI 167 from up_row u13 (by decide) rfl, show FI12 168 = FI 168 from up_row u13 (by decide) rfl, show FI12 121 73 = FI 121 73 from up_k u13 (by decide) rfl]; exact rl_pm_mono rel_pm (by omega) (by omega)
  have hI15 : g_I FI12 := gU_121_90 hI u13 (by have := (e11 : (x10).toInt = ((x1).toInt) - (1)); omega) (by have := (e11 : (x10).toInt = ((x1).toInt) - (1)); omega)
  refine hw_aloadn (aX12_turned 6 rfl) rfl ?_
  refine hw_aloadn (aX12_turned 7 rfl) rfl ?_
  refine hw_get (v := .int (x7)) (aX12_turned 8 rfl) wf_RX12_490 (c121 hS) (s121 hS) (by decide) (congrArg Value.int (show FI12 121 71 = x7 from (up_k u13 (by decide) (h8)))) ?_
  refine hw_ic (v := (1 : Int32)) (aX12_turned 9 rfl) (by decide) ?_
  refine xw_isub (aX12_turned 10 rfl) ?_
  refine hw_tie (A := ((x7).toInt) - (1)) (i_sub rfl (by decide : (1 : Int32).toInt = 1) (by omega) (by omega)) (fun x16 e17 => ?_)
  refine hv_puti (aX12_turned 11 rfl) wf_RX12_490 (c121 hS) (s121 hS) (by decide) rfl rfl (fun FI18 u19 => ?_)
  have rl20 : rl_pm (FI18 121 90) (FI18 121 73) (FI18 166) (FI18 167) (FI18 168) := by rw [show FI18 166 = FI12 166 from up_row u19 (by decide) rfl, show FI18 167 = FI12 167 from up_row u19 (by decide) rfl, show FI18 168 = FI12 168 from up_row u19 (by decide) rfl, show FI18 121 90 = FI12 121 90 from up_k u19 (by decide) rfl, show FI18 121 73 = FI12 121 73 from up_k u19 (by decide) rfl]; exact rl14
  have hI21 : g_I FI18 := gU_F hI15 u19 rfl
  refine hw_aloadn (aX12_turned 12 rfl) rfl ?_
  refine hw_get (v := .ref (base + 167)) (aX12_turned 13 rfl) wf_RX12_160 (c121 hS) (s121 hS) (by decide) (congrArg (fun r => va_rf (h_rf base r)) (r121_88 hF)) ?_
  refine hw_aloadn (aX12_turned 14 rfl) rfl ?_
  refine hw_get (v := .int (x10)) (aX12_turned 15 rfl) wf_RX12_556 (c121 hS) (s121 hS) (by decide) (congrArg Value.int (show FI18 121 90 = x10 from (up_k u19 (by decide) (up_eq u13)))) ?_
  obtain ⟨x22, h23⟩ : ∃ y, FI18 167 (x10).toNatClampNeg = y := ⟨_, rfl⟩
  have h23l := congrArg Int32.toInt h23
  have := i_rng x22
  refine hw_iald (v := x22) (aX12_turned 16 rfl) (c167 hS) (s167 hS) (h_in e11 (by omega) (by omega)) (show FI18 167 (x10).toNatClampNeg = x22 from h23) ?_
  refine xw_istoren (L2 := [(1, .int (x22)), (0, .ref (base + 121))]) (aX12_turned 17 rfl) (by decide) rfl ?_
  refine hw_aloadn (aX12_turned 18 rfl) rfl ?_
  refine hw_get (v := .ref (base + 168)) (aX12_turned 19 rfl) wf_RX12_163 (c121 hS) (s121 hS) (by decide) (congrArg (fun r => va_rf (h_rf base r)) (r121_89 hF)) ?_
  refine hw_aloadn (aX12_turned 20 rfl) rfl ?_
  refine hw_get (v := .int (x10)) (aX12_turned 21 rfl) wf_RX12_556 (c121 hS) (s121 hS) (by decide) (congrArg Value.int (show FI18 121 90 = x10 from (up_k u19 (by decide) (up_eq u13)))) ?_
  obtain ⟨x24, h25⟩ : ∃ y, FI18 168 (x10).toNatClampNeg = y := ⟨_, rfl⟩
  have h25l := congrArg Int32.toInt h25
  have := i_rng x24
  refine hw_iald (v := x24) (aX12_turned 22 rfl) (c168 hS) (s168 hS) (h_in e11 (by omega) (by omega)) (show FI18 168 (x10).toNatClampNeg = x24 from h25) ?_
  refine xw_istoren (L2 := [(2, .int (x24)), (1, .int (x22)), (0, .ref (base + 121))]) (aX12_turned 23 rfl) (by decide) rfl ?_
  have hq := (rel_pm ((FI 121 90).toInt - 1).toNat (by omega)).2 gg0
  rw [← i_cl (x := x10) (A := (FI 121 90).toInt - 1) (by omega), ← (show FI18 167 = FI 167 from (up_row u19 (by decide) ((up_row u13 (by decide) (rfl))))), ← (show FI18 168 = FI 168 from (up_row u19 (by decide) ((up_row u13 (by decide) (rfl)))))] at hq
  have e26 : 0 ≤ (x22).toInt ∧ (x22).toInt ≤ 30000 := by omega
  have e27 : 0 ≤ (x24).toInt ∧ (x24).toInt ≤ 30000 := by omega
  refine xw_iloadn (aX12_turned 24 rfl) rfl ?_
  refine xw_iloadn (aX12_turned 25 rfl) rfl ?_
  refine xw_isub (aX12_turned 26 rfl) ?_
  refine hw_tie (A := ((x24).toInt) - ((x22).toInt)) (i_sub rfl rfl (by omega) (by omega)) (fun x28 e29 => ?_)
  refine hw_ic (v := (2 : Int32)) (aX12_turned 27 rfl) (by decide) ?_
  refine xw_isub (aX12_turned 28 rfl) ?_
  refine hw_tie (A := (((x24).toInt) - ((x22).toInt)) - (2)) (i_sub e29 (by decide : (2 : Int32).toInt = 2) (by omega) (by omega)) (fun x30 e31 => ?_)
  refine xw_istoren (L2 := [(3, .int (x30)), (2, .int (x24)), (1, .int (x22)), (0, .ref (base + 121))]) (aX12_turned 29 rfl) (by decide) rfl ?_
  refine hw_aloadn (aX12_turned 30 rfl) rfl ?_
  refine hw_get (v := .int (x4)) (aX12_turned 31 rfl) wf_RX12_493 (c121 hS) (s121 hS) (by decide) (congrArg Value.int (show FI18 121 73 = x4 from (up_k u19 (by decide) ((up_k u13 (by decide) (h5)))))) ?_
  refine xw_iloadn (aX12_turned 32 rfl) rfl ?_
  refine xw_isub (aX12_turned 33 rfl) ?_
  refine hw_tie (A := ((x4).toInt) - ((x24).toInt)) (i_sub rfl rfl (by omega) (by omega)) (fun x32 e33 => ?_)
  refine xw_istore (L2 := [(4, .int (x32)), (3, .int (x30)), (2, .int (x24)), (1, .int (x22)), (0, .ref (base + 121))]) (aX12_turned 34 rfl) (by decide) rfl ?_
  refine hw_aloadn (aX12_turned 35 rfl) rfl ?_
  refine hw_lc (v := (0 : Int64)) (aX12_turned 36 rfl) (by decide) ?_
  refine hw_ic (v := (3 : Int32)) (aX12_turned 37 rfl) (by decide) ?_
  refine hw_callV (Bs := [.long ((0 : Int64)), .int ((3 : Int32))]) (rest := []) (aX12_turned 38 rfl) wc_RX12_505 (by decide) rfl wi_yX12_emits wv_yX12_emits (c121 hS) (s121 hS) rfl rfl rfl (Nat.le_of_ble_eq_true rfl) (Nat.le_of_ble_eq_true rfl) (n_emits (d := d) hS hF hI21 ((0 : Int64)) ((3 : Int32)) (by have := congrArg Int32.toInt (show FI18 121 73 = x4 from (up_k u19 (by decide) ((up_k u13 (by decide) (h5))))); omega) (by have := ((by decide : (3 : Int32).toInt = 3) : ((3 : Int32)).toInt = 3); have := ((by decide : (3 : Int32).toInt = 3) : ((3 : Int32)).toInt = 3); omega) (show rl_pm (FI18 121 90) (FI18 121 73) (FI18 166) (FI18 167) (FI18 168) from rl20)) (fun v34 sv35 p36 => ?_)
  have := congrArg Int32.toInt (show FI18 121 73 = x4 from (up_k u19 (by decide) ((up_k u13 (by decide) (h5)))))
  have := ((by decide : (3 : Int32).toInt = 3) : ((3 : Int32)).toInt = 3)
  obtain ⟨rfl, FI38, rfl, hI39, f40, t41, rl42⟩ := p36
  obtain ⟨x43, h44⟩ : ∃ y, FI38 121 73 = y := ⟨_, rfl⟩
  have h44l := congrArg Int32.toInt h44
  have b45 := gI_121_73 hI39; rw [h44] at b45
  show hw zk base _ _ _ _ _ [] _ _
  refine hw_aloadn (aX12_turned 39 rfl) rfl ?_
  refine hw_get (v := .int (x43)) (aX12_turned 40 rfl) wf_RX12_493 (c121 hS) (s121 hS) (by decide) (congrArg Value.int (show FI38 121 73 = x43 from h44)) ?_
  refine hw_sp (v := (4000 : Int32)) (aX12_turned 41 rfl) (by decide) ?_
  refine hw_icle (tgt := 71) (aX12_turned 42 rfl) (by decide) rfl (by decide : (4000 : Int32).toInt = 4000) (fun cd46 => ?_) (fun cd46 => ?_)
  · refine hw_ic (v := (0 : Int32)) (aX12_turned 44 rfl) (by decide) ?_
    refine xw_istore (L2 := [(5, .int ((0 : Int32))), (4, .int (x32)), (3, .int (x30)), (2, .int (x24)), (1, .int (x22)), (0, .ref (base + 121))]) (aX12_turned 45 rfl) (by decide) rfl ?_
    have lp60 : ∀ (m : Nat) (y5 : Int32) (FIv47 : Nat → Nat → Int32), (g_fr n SH [(121, 71), (121, 73), (121, 90)] [154, 164] [] FI FIv47) → (g_I FIv47) → (FIv47 121 90 = x10) → (FIv47 121 71 = x16) → (FIv47 167 (x10).toNatClampNeg = x22) → (FIv47 168 (x10).toNatClampNeg = x24) → (FIv47 121 73 = x43) → (rl_pm (FIv47 121 90) (FIv47 121 73) (FIv47 166) (FIv47 167) (FIv47 168)) → (0 ≤ (y5).toInt ∧ (y5).toInt ≤ 4000) → ((y5).toInt ≤ (x30).toInt) → (FIv47 167 = FI 167) → (FIv47 168 = FI 168) → (x30).toInt - (y5).toInt < m → hw zk base (d + 2) none 236 74 [(5, .int (y5)), (4, .int (x32)), (3, .int (x30)), (2, .int (x24)), (1, .int (x22)), (0, .ref (base + 121))] [] (n, sl, SH, FIv47, FL, FR) (h_V (fun s => ∃ FI', s = (n, sl, SH, FI', FL, FR) ∧ g_I FI' ∧ g_fr n SH [(121, 71), (121, 73), (121, 90)] [154, 164] [] FI FI' ∧ ((FI' 121 90).toInt = (FI 121 90).toInt - 1) ∧ ((FI' 121 71).toInt = (FI 121 71).toInt - 1) ∧ ((FI' 121 73).toInt = (FI 121 73).toInt + 3) ∧ (rl_pm (FI' 121 90) (FI' 121 73) (FI' 166) (FI' 167) (FI' 168)))) := by
      intro m
      induction m with
      | zero => intro y5 FIv47 fr48 hI49 kp50 kp51 kp52 kp53 kp54 rl55 iv56 iv57 rw58 rw59 hm; omega
      | succ m ih =>
        intro y5 FIv47 fr48 hI49 kp50 kp51 kp52 kp53 kp54 rl55 iv56 iv57 rw58 rw59 hm
        have rg_y5 := i_rng y5
        have := congrArg Int32.toInt kp50
        have := congrArg Int32.toInt kp51
        have := congrArg Int32.toInt kp52
        have := congrArg Int32.toInt kp53
        have := congrArg Int32.toInt kp54
        refine xw_iload (aX12_turned 46 rfl) rfl ?_
        refine xw_iloadn (aX12_turned 47 rfl) rfl ?_
        refine hw_icge (tgt := 104) (aX12_turned 48 rfl) (by decide) rfl e31 (fun cd61 => ?_) (fun cd61 => ?_)
        · refine hw_ic (v := (0 : Int32)) (aX12_turned 63 rfl) (by decide) ?_
          refine xw_istore (L2 := [(5, .int ((0 : Int32))), (4, .int (x32)), (3, .int (x30)), (2, .int (x24)), (1, .int (x22)), (0, .ref (base + 121))]) (aX12_turned 64 rfl) (by decide) rfl ?_
          have lp76 : ∀ (m : Nat) (y5_62 : Int32) (FIv63 : Nat → Nat → Int32), (g_fr n SH [(121, 71), (121, 73), (121, 90)] [154, 164] [] FI FIv63) → (g_I FIv63) → (FIv63 121 90 = x10) → (FIv63 121 71 = x16) → (FIv63 167 (x10).toNatClampNeg = x22) → (FIv63 168 (x10).toNatClampNeg = x24) → (FIv63 121 73 = x43) → (rl_pm (FIv63 121 90) (FIv63 121 73) (FIv63 166) (FIv63 167) (FIv63 168)) → (0 ≤ (y5_62).toInt ∧ (y5_62).toInt ≤ 4000) → ((y5_62).toInt ≤ (x32).toInt) → (FIv63 167 = FI 167) → (FIv63 168 = FI 168) → (x32).toInt - (y5_62).toInt < m → hw zk base (d + 2) none 236 107 [(5, .int (y5_62)), (4, .int (x32)), (3, .int (x30)), (2, .int (x24)), (1, .int (x22)), (0, .ref (base + 121))] [] (n, sl, SH, FIv63, FL, FR) (h_V (fun s => ∃ FI', s = (n, sl, SH, FI', FL, FR) ∧ g_I FI' ∧ g_fr n SH [(121, 71), (121, 73), (121, 90)] [154, 164] [] FI FI' ∧ ((FI' 121 90).toInt = (FI 121 90).toInt - 1) ∧ ((FI' 121 71).toInt = (FI 121 71).toInt - 1) ∧ ((FI' 121 73).toInt = (FI 121 73).toInt + 3) ∧ (rl_pm (FI' 121 90) (FI' 121 73) (FI' 166) (FI' 167) (FI' 168)))) := by
            intro m
            induction m with
            | zero => intro y5_62 FIv63 fr64 hI65 kp66 kp67 kp68 kp69 kp70 rl71 iv72 iv73 rw74 rw75 hm; omega
            | succ m ih107 =>
              intro y5_62 FIv63 fr64 hI65 kp66 kp67 kp68 kp69 kp70 rl71 iv72 iv73 rw74 rw75 hm
              have rg_y5_62 := i_rng y5_62
              have := congrArg Int32.toInt kp66
              have := congrArg Int32.toInt kp67
              have := congrArg Int32.toInt kp68
              have := congrArg Int32.toInt kp69
              have := congrArg Int32.toInt kp70
              refine xw_iload (aX12_turned 65 rfl) rfl ?_
              refine xw_iload (aX12_turned 66 rfl) rfl ?_
              refine hw_icge (tgt := 140) (aX12_turned 67 rfl) (by decide) rfl e33 (fun cd77 => ?_) (fun cd77 => ?_)
              · refine xw_iloadn (aX12_turned 84 rfl) rfl ?_
                refine hw_ic (v := (2 : Int32)) (aX12_turned 85 rfl) (by decide) ?_
                refine xw_iadd (aX12_turned 86 rfl) ?_
                refine hw_tie (A := ((x22).toInt) + (2)) (i_add rfl (by decide : (2 : Int32).toInt = 2) (by omega) (by omega)) (fun x78 e79 => ?_)
                refine xw_iload (aX12_turned 87 rfl) rfl ?_
                refine xw_iadd (aX12_turned 88 rfl) ?_
                refine hw_tie (A := (((x22).toInt) + (2)) + (((x4).toInt) - ((x24).toInt))) (i_add e79 e33 (by omega) (by omega)) (fun x80 e81 => ?_)
                refine xw_istore (L2 := [(5, .int (x80)), (4, .int (x32)), (3, .int (x30)), (2, .int (x24)), (1, .int (x22)), (0, .ref (base + 121))]) (aX12_turned 89 rfl) (by decide) rfl ?_
                have hP : 0 ≤ (x80).toInt ∧ (x80).toInt + (x30).toInt + 3 ≤ 4000 ∧ 0 ≤ (x30).toInt ∧ 0 ≤ (x32).toInt ∧ (x32).toInt ≤ 4000 ∧ 0 ≤ (x22).toInt ∧ (x22).toInt + 2 ≤ 4000 := by omega
                clear e81
                clear e31
                clear e33
                clear hq
                refine hw_aloadn (aX12_turned 90 rfl) rfl ?_
                refine hw_get (v := .ref (base + 154)) (aX12_turned 91 rfl) wf_RX12_120 (c121 hS) (s121 hS) (by decide) (congrArg (fun r => va_rf (h_rf base r)) (r121_72 hF)) ?_
                refine xw_iload (aX12_turned 92 rfl) rfl ?_
                refine hw_bp (v := (47 : Int32)) (aX12_turned 93 rfl) (by decide) ?_
                refine hv_iast (k := (x80).toNatClampNeg) (aX12_turned 94 rfl) (c154 hS) (s154 hS) (h_in rfl (by omega) (by omega)) rfl (fun FI82 u83 => ?_)
                have rl84 : rl_pm (FI82 121 90) (FI82 121 73) (FI82 166) (FI82 167) (FI82 168) := by rw [show FI82 166 = FIv63 166 from up_row u83 (by decide) rfl, show FI82 167 = FIv63 167 from up_row u83 (by decide) rfl, show FI82 168 = FIv63 168 from up_row u83 (by decide) rfl, show FI82 121 90 = FIv63 121 90 from up_c u83 (by decide) rfl, show FI82 121 73 = FIv63 121 73 from up_c u83 (by decide) rfl]; exact rl71
                have hI85 : g_I FI82 := gU_154 hI65 u83 (by have := ((by decide : (47 : Int32).toInt = 47) : ((47 : Int32)).toInt = 47); omega) (by have := ((by decide : (47 : Int32).toInt = 47) : ((47 : Int32)).toInt = 47); omega)
                refine hw_aloadn (aX12_turned 95 rfl) rfl ?_
                refine hw_get (v := .ref (base + 154)) (aX12_turned 96 rfl) wf_RX12_120 (c121 hS) (s121 hS) (by decide) (congrArg (fun r => va_rf (h_rf base r)) (r121_72 hF)) ?_
                refine xw_iload (aX12_turned 97 rfl) rfl ?_
                refine hw_ic (v := (1 : Int32)) (aX12_turned 98 rfl) (by decide) ?_
                refine xw_iadd (aX12_turned 99 rfl) ?_
                refine hw_tie (A := ((x80).toInt) + (1)) (i_add rfl (by decide : (1 : Int32).toInt = 1) (by omega) (by omega)) (fun x86 e87 => ?_)
                refine xw_iloadn (aX12_turned 100 rfl) rfl ?_
                refine hw_sp (v := (255 : Int32)) (aX12_turned 101 rfl) (by decide) ?_
                refine xw_iand (aX12_turned 102 rfl) ?_
                refine hw_tib (lo := 0) (hi := 255) (i_and (x := x30) (m := (255 : Int32)) (M := 255) (by decide) (by decide)) (fun x88 b89 => ?_)
                refine hv_iast (k := (x86).toNatClampNeg) (aX12_turned 103 rfl) (c154 hS) (s154 hS) (h_in e87 (by omega) (by omega)) rfl (fun FI90 u91 => ?_)
                have rl92 : rl_pm (FI90 121 90) (FI90 121 73) (FI90 166) (FI90 167) (FI90 168) := by rw [show FI90 166 = FI82 166 from up_row u91 (by decide) rfl, show FI90 167 = FI82 167 from up_row u91 (by decide) rfl, show FI90 168 = FI82 168 from up_row u91 (by decide) rfl, show FI90 121 90 = FI82 121 90 from up_c u91 (by decide) rfl, show FI90 121 73 = FI82 121 73 from up_c u91 (by decide) rfl]; exact rl84
                have hI93 : g_I FI90 := gU_154 hI85 u91 (by omega) (by omega)
                refine hw_aloadn (aX12_turned 104 rfl) rfl ?_
                refine hw_get (v := .ref (base + 154)) (aX12_turned 105 rfl) wf_RX12_120 (c121 hS) (s121 hS) (by decide) (congrArg (fun r => va_rf (h_rf base r)) (r121_72 hF)) ?_
                refine xw_iload (aX12_turned 106 rfl) rfl ?_
                refine hw_ic (v := (2 : Int32)) (aX12_turned 107 rfl) (by decide) ?_
                refine xw_iadd (aX12_turned 108 rfl) ?_
                refine hw_tie (A := ((x80).toInt) + (2)) (i_add rfl (by decide : (2 : Int32).toInt = 2) (by omega) (by omega)) (fun x94 e95 => ?_)
                refine xw_iloadn (aX12_turned 109 rfl) rfl ?_
                refine hw_bp (v := (8 : Int32)) (aX12_turned 110 rfl) (by decide) ?_
                refine xw_ishr (aX12_turned 111 rfl) ?_
                refine hw_ti (fun x96 => ?_)
                have b97 := i_rng x96
                refine hw_sp (v := (255 : Int32)) (aX12_turned 112 rfl) (by decide) ?_
                refine xw_iand (aX12_turned 113 rfl) ?_
                refine hw_tib (lo := 0) (hi := 255) (i_and (x := x96) (m := (255 : Int32)) (M := 255) (by decide) (by decide)) (fun x98 b99 => ?_)
                refine hv_iast (k := (x94).toNatClampNeg) (aX12_turned 114 rfl) (c154 hS) (s154 hS) (h_in e95 (by omega) (by omega)) rfl (fun FI100 u101 => ?_)
                have rl102 : rl_pm (FI100 121 90) (FI100 121 73) (FI100 166) (FI100 167) (FI100 168) := by rw [show FI100 166 = FI90 166 from up_row u101 (by decide) rfl, show FI100 167 = FI90 167 from up_row u101 (by decide) rfl, show FI100 168 = FI90 168 from up_row u101 (by decide) rfl, show FI100 121 90 = FI90 121 90 from up_c u101 (by decide) rfl, show FI100 121 73 = FI90 121 73 from up_c u101 (by decide) rfl]; exact rl92
                have hI103 : g_I FI100 := gU_154 hI93 u101 (by omega) (by omega)
                refine hw_ic (v := (0 : Int32)) (aX12_turned 115 rfl) (by decide) ?_
                refine xw_istore (L2 := [(6, .int ((0 : Int32))), (5, .int (x80)), (4, .int (x32)), (3, .int (x30)), (2, .int (x24)), (1, .int (x22)), (0, .ref (base + 121))]) (aX12_turned 116 rfl) (by decide) rfl ?_
                have lp117 : ∀ (m : Nat) (y6 : Int32) (FIv104 : Nat → Nat → Int32), (g_fr n SH [(121, 71), (121, 73), (121, 90)] [154, 164] [] FI FIv104) → (g_I FIv104) → (FIv104 121 90 = x10) → (FIv104 121 71 = x16) → (FIv104 167 (x10).toNatClampNeg = x22) → (FIv104 168 (x10).toNatClampNeg = x24) → (FIv104 121 73 = x43) → (rl_pm (FIv104 121 90) (FIv104 121 73) (FIv104 166) (FIv104 167) (FIv104 168)) → (0 ≤ (y6).toInt ∧ (y6).toInt ≤ 4000) → ((y6).toInt ≤ (x30).toInt) → (FIv104 167 = FI 167) → (FIv104 168 = FI 168) → (x30).toInt - (y6).toInt < m → hw zk base (d + 2) none 236 191 [(6, .int (y6)), (5, .int (x80)), (4, .int (x32)), (3, .int (x30)), (1, .int (x22)), (0, .ref (base + 121))] [] (n, sl, SH, FIv104, FL, FR) (h_V (fun s => ∃ FI', s = (n, sl, SH, FI', FL, FR) ∧ g_I FI' ∧ g_fr n SH [(121, 71), (121, 73), (121, 90)] [154, 164] [] FI FI' ∧ ((FI' 121 90).toInt = (FI 121 90).toInt - 1) ∧ ((FI' 121 71).toInt = (FI 121 71).toInt - 1) ∧ ((FI' 121 73).toInt = (FI 121 73).toInt + 3) ∧ (rl_pm (FI' 121 90) (FI' 121 73) (FI' 166) (FI' 167) (FI' 168)))) := by
                  intro m
                  induction m with
                  | zero => intro y6 FIv104 fr105 hI106 kp107 kp108 kp109 kp110 kp111 rl112 iv113 iv114 rw115 rw116 hm; omega
                  | succ m ih191 =>
                    intro y6 FIv104 fr105 hI106 kp107 kp108 kp109 kp110 kp111 rl112 iv113 iv114 rw115 rw116 hm
                    have rg_y6 := i_rng y6
                    have := congrArg Int32.toInt kp107
                    have := congrArg Int32.toInt kp108
                    have := congrArg Int32.toInt kp109
                    have := congrArg Int32.toInt kp110
                    have := congrArg Int32.toInt kp111
                    refine xw_iload (aX12_turned 117 rfl) rfl ?_
                    refine xw_iloadn (aX12_turned 118 rfl) rfl ?_
                    refine hw_icge (tgt := 222) (aX12_turned 119 rfl) (by decide) rfl rfl (fun cd118 => ?_) (fun cd118 => ?_)
                    · refine hw_aloadn (aX12_turned 134 rfl) rfl ?_
                      refine hw_get (v := .ref (base + 154)) (aX12_turned 135 rfl) wf_RX12_120 (c121 hS) (s121 hS) (by decide) (congrArg (fun r => va_rf (h_rf base r)) (r121_72 hF)) ?_
                      refine xw_iloadn (aX12_turned 136 rfl) rfl ?_
                      refine xw_iload (aX12_turned 137 rfl) rfl ?_
                      refine hw_ic (v := (3 : Int32)) (aX12_turned 138 rfl) (by decide) ?_
                      refine xw_iadd (aX12_turned 139 rfl) ?_
                      refine hw_tie (A := ((x32).toInt) + (3)) (i_add rfl (by decide : (3 : Int32).toInt = 3) (by omega) (by omega)) (fun x119 e120 => ?_)
                      refine hw_sp (v := (255 : Int32)) (aX12_turned 140 rfl) (by decide) ?_
                      refine xw_iand (aX12_turned 141 rfl) ?_
                      refine hw_tib (lo := 0) (hi := 255) (i_and (x := x119) (m := (255 : Int32)) (M := 255) (by decide) (by decide)) (fun x121 b122 => ?_)
                      refine hv_iast (k := (x22).toNatClampNeg) (aX12_turned 142 rfl) (c154 hS) (s154 hS) (h_in rfl (by omega) (by omega)) rfl (fun FI123 u124 => ?_)
                      have rl125 : rl_pm (FI123 121 90) (FI123 121 73) (FI123 166) (FI123 167) (FI123 168) := by rw [show FI123 166 = FIv104 166 from up_row u124 (by decide) rfl, show FI123 167 = FIv104 167 from up_row u124 (by decide) rfl, show FI123 168 = FIv104 168 from up_row u124 (by decide) rfl, show FI123 121 90 = FIv104 121 90 from up_c u124 (by decide) rfl, show FI123 121 73 = FIv104 121 73 from up_c u124 (by decide) rfl]; exact rl112
                      have hI126 : g_I FI123 := gU_154 hI106 u124 (by omega) (by omega)
                      refine hw_aloadn (aX12_turned 143 rfl) rfl ?_
                      refine hw_get (v := .ref (base + 154)) (aX12_turned 144 rfl) wf_RX12_120 (c121 hS) (s121 hS) (by decide) (congrArg (fun r => va_rf (h_rf base r)) (r121_72 hF)) ?_
                      refine xw_iloadn (aX12_turned 145 rfl) rfl ?_
                      refine hw_ic (v := (1 : Int32)) (aX12_turned 146 rfl) (by decide) ?_
                      refine xw_iadd (aX12_turned 147 rfl) ?_
                      refine hw_tie (A := ((x22).toInt) + (1)) (i_add rfl (by decide : (1 : Int32).toInt = 1) (by omega) (by omega)) (fun x127 e128 => ?_)
                      refine xw_iload (aX12_turned 148 rfl) rfl ?_
                      refine hw_ic (v := (3 : Int32)) (aX12_turned 149 rfl) (by decide) ?_
                      refine xw_iadd (aX12_turned 150 rfl) ?_
                      refine hw_tie (A := ((x32).toInt) + (3)) (i_add rfl (by decide : (3 : Int32).toInt = 3) (by omega) (by omega)) (fun x129 e130 => ?_)
                      refine hw_bp (v := (8 : Int32)) (aX12_turned 151 rfl) (by decide) ?_
                      refine xw_ishr (aX12_turned 152 rfl) ?_
                      refine hw_ti (fun x131 => ?_)
                      have b132 := i_rng x131
                      refine hw_sp (v := (255 : Int32)) (aX12_turned 153 rfl) (by decide) ?_
                      refine xw_iand (aX12_turned 154 rfl) ?_
                      refine hw_tib (lo := 0) (hi := 255) (i_and (x := x131) (m := (255 : Int32)) (M := 255) (by decide) (by decide)) (fun x133 b134 => ?_)
                      refine hv_iast (k := (x127).toNatClampNeg) (aX12_turned 155 rfl) (c154 hS) (s154 hS) (h_in e128 (by omega) (by omega)) rfl (fun FI135 u136 => ?_)
                      have rl137 : rl_pm (FI135 121 90) (FI135 121 73) (FI135 166) (FI135 167) (FI135 168) := by rw [show FI135 166 = FI123 166 from up_row u136 (by decide) rfl, show FI135 167 = FI123 167 from up_row u136 (by decide) rfl, show FI135 168 = FI123 168 from up_row u136 (by decide) rfl, show FI135 121 90 = FI123 121 90 from up_c u136 (by decide) rfl, show FI135 121 73 = FI123 121 73 from up_c u136 (by decide) rfl]; exact rl125
                      have hI138 : g_I FI135 := gU_154 hI126 u136 (by omega) (by omega)
                      refine xw_vret (aX12_turned 156 rfl) rfl ?_
                      exact ⟨rfl, FI135, rfl, hI138, (gf_a (gf_a fr105 u124 (by decide)) u136 (by decide)), (by have := congrArg Int32.toInt (show FI135 121 90 = x10 from (up_c u136 (by decide) ((up_c u124 (by decide) (kp107))))); have := (e11 : (x10).toInt = ((x1).toInt) - (1)); omega), (by have := congrArg Int32.toInt (show FI135 121 71 = x16 from (up_c u136 (by decide) ((up_c u124 (by decide) (kp108))))); have := (e17 : (x16).toInt = ((x7).toInt) - (1)); omega), (by have := congrArg Int32.toInt (show FI135 121 73 = x43 from (up_c u136 (by decide) ((up_c u124 (by decide) (kp111))))); omega), (show rl_pm (FI135 121 90) (FI135 121 73) (FI135 166) (FI135 167) (FI135 168) from rl137)⟩
                    · refine hw_aloadn (aX12_turned 120 rfl) rfl ?_
                      refine hw_get (v := .ref (base + 154)) (aX12_turned 121 rfl) wf_RX12_120 (c121 hS) (s121 hS) (by decide) (congrArg (fun r => va_rf (h_rf base r)) (r121_72 hF)) ?_
                      refine xw_iload (aX12_turned 122 rfl) rfl ?_
                      refine hw_ic (v := (3 : Int32)) (aX12_turned 123 rfl) (by decide) ?_
                      refine xw_iadd (aX12_turned 124 rfl) ?_
                      refine hw_tie (A := ((x80).toInt) + (3)) (i_add rfl (by decide : (3 : Int32).toInt = 3) (by omega) (by omega)) (fun x139 e140 => ?_)
                      refine xw_iload (aX12_turned 125 rfl) rfl ?_
                      refine xw_iadd (aX12_turned 126 rfl) ?_
                      refine hw_tie (A := (((x80).toInt) + (3)) + ((y6).toInt)) (i_add e140 rfl (by omega) (by omega)) (fun x141 e142 => ?_)
                      refine hw_aloadn (aX12_turned 127 rfl) rfl ?_
                      refine hw_get (v := .ref (base + 164)) (aX12_turned 128 rfl) wf_RX12_151 (c121 hS) (s121 hS) (by decide) (congrArg (fun r => va_rf (h_rf base r)) (r121_85 hF)) ?_
                      refine xw_iload (aX12_turned 129 rfl) rfl ?_
                      obtain ⟨x143, h144⟩ : ∃ y, FIv104 164 (y6).toNatClampNeg = y := ⟨_, rfl⟩
                      have h144l := congrArg Int32.toInt h144
                      have := i_rng x143
                      refine hw_iald (v := x143) (aX12_turned 130 rfl) (c164 hS) (s164 hS) (h_in rfl (by omega) (by omega)) (show FIv104 164 (y6).toNatClampNeg = x143 from h144) ?_
                      have b145 := gI_164 hI106 (i_lt (x := y6) rfl (by omega) (by omega)); rw [h144] at b145
                      refine hv_iast (k := (x141).toNatClampNeg) (aX12_turned 131 rfl) (c154 hS) (s154 hS) (h_in e142 (by omega) (by omega)) rfl (fun FI146 u147 => ?_)
                      have rl148 : rl_pm (FI146 121 90) (FI146 121 73) (FI146 166) (FI146 167) (FI146 168) := by rw [show FI146 166 = FIv104 166 from up_row u147 (by decide) rfl, show FI146 167 = FIv104 167 from up_row u147 (by decide) rfl, show FI146 168 = FIv104 168 from up_row u147 (by decide) rfl, show FI146 121 90 = FIv104 121 90 from up_c u147 (by decide) rfl, show FI146 121 73 = FIv104 121 73 from up_c u147 (by decide) rfl]; exact rl112
                      have hI149 : g_I FI146 := gU_154 hI106 u147 (by omega) (by omega)
                      obtain ⟨x150, q152⟩ : ∃ y : Int32, (y6) + Int32.ofInt (1) = y := ⟨_, rfl⟩
                      have e151 : (x150).toInt = (y6).toInt + (1) := by rw [← q152]; exact i_add rfl (by decide) (by omega) (by omega)
                      refine xw_iinc (L2 := [(6, .int (x150)), (5, .int (x80)), (4, .int (x32)), (3, .int (x30)), (1, .int (x22)), (0, .ref (base + 121))]) (aX12_turned 132 rfl) rfl (by decide) (by rw [q152]; rfl) ?_
                      refine xw_goto (tgt := 191) (aX12_turned 133 rfl) (by decide) ?_
                      exact hw_L (ih191 (x150) FI146 (gf_a fr105 u147 (by decide)) hI149 (show FI146 121 90 = x10 from (up_c u147 (by decide) (kp107))) (show FI146 121 71 = x16 from (up_c u147 (by decide) (kp108))) (show FI146 167 (x10).toNatClampNeg = x22 from (up_c u147 (by decide) (kp109))) (show FI146 168 (x10).toNatClampNeg = x24 from (up_c u147 (by decide) (kp110))) (show FI146 121 73 = x43 from (up_c u147 (by decide) (kp111))) (show rl_pm (FI146 121 90) (FI146 121 73) (FI146 166) (FI146 167) (FI146 168) from rl148) (by have := (e151 : (x150).toInt = (y6).toInt + (1)); omega) (by have := (e151 : (x150).toInt = (y6).toInt + (1)); omega) (show FI146 167 = FI 167 from (up_row u147 (by decide) (rw115))) (show FI146 168 = FI 168 from (up_row u147 (by decide) (rw116))) (by have := (e151 : (x150).toInt = (y6).toInt + (1)); omega)) ⟨rfl, rfl, rfl, rfl, rfl, rfl, trivial⟩
                exact hw_L (lp117 (((x30).toInt - 0 : Int).toNat + 1) ((0 : Int32)) FI100 (gf_a (gf_a (gf_a fr64 u83 (by decide)) u91 (by decide)) u101 (by decide)) hI103 (show FI100 121 90 = x10 from (up_c u101 (by decide) ((up_c u91 (by decide) ((up_c u83 (by decide) (kp66))))))) (show FI100 121 71 = x16 from (up_c u101 (by decide) ((up_c u91 (by decide) ((up_c u83 (by decide) (kp67))))))) (show FI100 167 (x10).toNatClampNeg = x22 from (up_c u101 (by decide) ((up_c u91 (by decide) ((up_c u83 (by decide) (kp68))))))) (show FI100 168 (x10).toNatClampNeg = x24 from (up_c u101 (by decide) ((up_c u91 (by decide) ((up_c u83 (by decide) (kp69))))))) (show FI100 121 73 = x43 from (up_c u101 (by decide) ((up_c u91 (by decide) ((up_c u83 (by decide) (kp70))))))) (show rl_pm (FI100 121 90) (FI100 121 73) (FI100 166) (FI100 167) (FI100 168) from rl102) (by have := ((by decide : (0 : Int32).toInt = 0) : ((0 : Int32)).toInt = 0); omega) (by have := ((by decide : (0 : Int32).toInt = 0) : ((0 : Int32)).toInt = 0); omega) (show FI100 167 = FI 167 from (up_row u101 (by decide) ((up_row u91 (by decide) ((up_row u83 (by decide) (rw74))))))) (show FI100 168 = FI 168 from (up_row u101 (by decide) ((up_row u91 (by decide) ((up_row u83 (by decide) (rw75))))))) (by have := ((by decide : (0 : Int32).toInt = 0) : ((0 : Int32)).toInt = 0); omega)) ⟨rfl, rfl, rfl, rfl, rfl, rfl, trivial⟩
              · refine hw_aloadn (aX12_turned 68 rfl) rfl ?_
                refine hw_get (v := .ref (base + 154)) (aX12_turned 69 rfl) wf_RX12_120 (c121 hS) (s121 hS) (by decide) (congrArg (fun r => va_rf (h_rf base r)) (r121_72 hF)) ?_
                refine xw_iloadn (aX12_turned 70 rfl) rfl ?_
                refine hw_ic (v := (2 : Int32)) (aX12_turned 71 rfl) (by decide) ?_
                refine xw_iadd (aX12_turned 72 rfl) ?_
                refine hw_tie (A := ((x22).toInt) + (2)) (i_add rfl (by decide : (2 : Int32).toInt = 2) (by omega) (by omega)) (fun x153 e154 => ?_)
                refine xw_iload (aX12_turned 73 rfl) rfl ?_
                refine xw_iadd (aX12_turned 74 rfl) ?_
                refine hw_tie (A := (((x22).toInt) + (2)) + ((y5_62).toInt)) (i_add e154 rfl (by omega) (by omega)) (fun x155 e156 => ?_)
                refine hw_aloadn (aX12_turned 75 rfl) rfl ?_
                refine hw_get (v := .ref (base + 154)) (aX12_turned 76 rfl) wf_RX12_120 (c121 hS) (s121 hS) (by decide) (congrArg (fun r => va_rf (h_rf base r)) (r121_72 hF)) ?_
                refine xw_iloadn (aX12_turned 77 rfl) rfl ?_
                refine xw_iload (aX12_turned 78 rfl) rfl ?_
                refine xw_iadd (aX12_turned 79 rfl) ?_
                refine hw_tie (A := ((x24).toInt) + ((y5_62).toInt)) (i_add rfl rfl (by omega) (by omega)) (fun x157 e158 => ?_)
                obtain ⟨x159, h160⟩ : ∃ y, FIv63 154 (x157).toNatClampNeg = y := ⟨_, rfl⟩
                have h160l := congrArg Int32.toInt h160
                have := i_rng x159
                refine hw_iald (v := x159) (aX12_turned 80 rfl) (c154 hS) (s154 hS) (h_in e158 (by omega) (by omega)) (show FIv63 154 (x157).toNatClampNeg = x159 from h160) ?_
                have b161 := gI_154 hI65 (i_lt (x := x157) e158 (by omega) (by omega)); rw [h160] at b161
                refine hv_iast (k := (x155).toNatClampNeg) (aX12_turned 81 rfl) (c154 hS) (s154 hS) (h_in e156 (by omega) (by omega)) rfl (fun FI162 u163 => ?_)
                have rl164 : rl_pm (FI162 121 90) (FI162 121 73) (FI162 166) (FI162 167) (FI162 168) := by rw [show FI162 166 = FIv63 166 from up_row u163 (by decide) rfl, show FI162 167 = FIv63 167 from up_row u163 (by decide) rfl, show FI162 168 = FIv63 168 from up_row u163 (by decide) rfl, show FI162 121 90 = FIv63 121 90 from up_c u163 (by decide) rfl, show FI162 121 73 = FIv63 121 73 from up_c u163 (by decide) rfl]; exact rl71
                have hI165 : g_I FI162 := gU_154 hI65 u163 (by omega) (by omega)
                obtain ⟨x166, q168⟩ : ∃ y : Int32, (y5_62) + Int32.ofInt (1) = y := ⟨_, rfl⟩
                have e167 : (x166).toInt = (y5_62).toInt + (1) := by rw [← q168]; exact i_add rfl (by decide) (by omega) (by omega)
                refine xw_iinc (L2 := [(5, .int (x166)), (4, .int (x32)), (3, .int (x30)), (2, .int (x24)), (1, .int (x22)), (0, .ref (base + 121))]) (aX12_turned 82 rfl) rfl (by decide) (by rw [q168]; rfl) ?_
                refine xw_goto (tgt := 107) (aX12_turned 83 rfl) (by decide) ?_
                exact hw_L (ih107 (x166) FI162 (gf_a fr64 u163 (by decide)) hI165 (show FI162 121 90 = x10 from (up_c u163 (by decide) (kp66))) (show FI162 121 71 = x16 from (up_c u163 (by decide) (kp67))) (show FI162 167 (x10).toNatClampNeg = x22 from (up_c u163 (by decide) (kp68))) (show FI162 168 (x10).toNatClampNeg = x24 from (up_c u163 (by decide) (kp69))) (show FI162 121 73 = x43 from (up_c u163 (by decide) (kp70))) (show rl_pm (FI162 121 90) (FI162 121 73) (FI162 166) (FI162 167) (FI162 168) from rl164) (by have := (e167 : (x166).toInt = (y5_62).toInt + (1)); omega) (by have := (e167 : (x166).toInt = (y5_62).toInt + (1)); omega) (show FI162 167 = FI 167 from (up_row u163 (by decide) (rw74))) (show FI162 168 = FI 168 from (up_row u163 (by decide) (rw75))) (by have := (e167 : (x166).toInt = (y5_62).toInt + (1)); omega)) ⟨rfl, rfl, rfl, rfl, rfl, rfl, trivial⟩
          exact hw_L (lp76 (((x32).toInt - 0 : Int).toNat + 1) ((0 : Int32)) FIv47 fr48 hI49 (show FIv47 121 90 = x10 from kp50) (show FIv47 121 71 = x16 from kp51) (show FIv47 167 (x10).toNatClampNeg = x22 from kp52) (show FIv47 168 (x10).toNatClampNeg = x24 from kp53) (show FIv47 121 73 = x43 from kp54) (show rl_pm (FIv47 121 90) (FIv47 121 73) (FIv47 166) (FIv47 167) (FIv47 168) from rl55) (by have := ((by decide : (0 : Int32).toInt = 0) : ((0 : Int32)).toInt = 0); omega) (by have := ((by decide : (0 : Int32).toInt = 0) : ((0 : Int32)).toInt = 0); omega) (show FIv47 167 = FI 167 from rw58) (show FIv47 168 = FI 168 from rw59) (by have := ((by decide : (0 : Int32).toInt = 0) : ((0 : Int32)).toInt = 0); omega)) ⟨rfl, rfl, rfl, rfl, rfl, rfl, trivial⟩
        · refine hw_aloadn (aX12_turned 49 rfl) rfl ?_
          refine hw_get (v := .ref (base + 164)) (aX12_turned 50 rfl) wf_RX12_151 (c121 hS) (s121 hS) (by decide) (congrArg (fun r => va_rf (h_rf base r)) (r121_85 hF)) ?_
          refine xw_iload (aX12_turned 51 rfl) rfl ?_
          refine hw_aloadn (aX12_turned 52 rfl) rfl ?_
          refine hw_get (v := .ref (base + 154)) (aX12_turned 53 rfl) wf_RX12_120 (c121 hS) (s121 hS) (by decide) (congrArg (fun r => va_rf (h_rf base r)) (r121_72 hF)) ?_
          refine xw_iloadn (aX12_turned 54 rfl) rfl ?_
          refine hw_ic (v := (2 : Int32)) (aX12_turned 55 rfl) (by decide) ?_
          refine xw_iadd (aX12_turned 56 rfl) ?_
          refine hw_tie (A := ((x22).toInt) + (2)) (i_add rfl (by decide : (2 : Int32).toInt = 2) (by omega) (by omega)) (fun x169 e170 => ?_)
          refine xw_iload (aX12_turned 57 rfl) rfl ?_
          refine xw_iadd (aX12_turned 58 rfl) ?_
          refine hw_tie (A := (((x22).toInt) + (2)) + ((y5).toInt)) (i_add e170 rfl (by omega) (by omega)) (fun x171 e172 => ?_)
          obtain ⟨x173, h174⟩ : ∃ y, FIv47 154 (x171).toNatClampNeg = y := ⟨_, rfl⟩
          have h174l := congrArg Int32.toInt h174
          have := i_rng x173
          refine hw_iald (v := x173) (aX12_turned 59 rfl) (c154 hS) (s154 hS) (h_in e172 (by omega) (by omega)) (show FIv47 154 (x171).toNatClampNeg = x173 from h174) ?_
          have b175 := gI_154 hI49 (i_lt (x := x171) e172 (by omega) (by omega)); rw [h174] at b175
          refine hv_iast (k := (y5).toNatClampNeg) (aX12_turned 60 rfl) (c164 hS) (s164 hS) (h_in rfl (by omega) (by omega)) rfl (fun FI176 u177 => ?_)
          have rl178 : rl_pm (FI176 121 90) (FI176 121 73) (FI176 166) (FI176 167) (FI176 168) := by rw [show FI176 166 = FIv47 166 from up_row u177 (by decide) rfl, show FI176 167 = FIv47 167 from up_row u177 (by decide) rfl, show FI176 168 = FIv47 168 from up_row u177 (by decide) rfl, show FI176 121 90 = FIv47 121 90 from up_c u177 (by decide) rfl, show FI176 121 73 = FIv47 121 73 from up_c u177 (by decide) rfl]; exact rl55
          have hI179 : g_I FI176 := gU_164 hI49 u177 (by omega) (by omega)
          obtain ⟨x180, q182⟩ : ∃ y : Int32, (y5) + Int32.ofInt (1) = y := ⟨_, rfl⟩
          have e181 : (x180).toInt = (y5).toInt + (1) := by rw [← q182]; exact i_add rfl (by decide) (by omega) (by omega)
          refine xw_iinc (L2 := [(5, .int (x180)), (4, .int (x32)), (3, .int (x30)), (2, .int (x24)), (1, .int (x22)), (0, .ref (base + 121))]) (aX12_turned 61 rfl) rfl (by decide) (by rw [q182]; rfl) ?_
          refine xw_goto (tgt := 74) (aX12_turned 62 rfl) (by decide) ?_
          exact hw_L (ih (x180) FI176 (gf_a fr48 u177 (by decide)) hI179 (show FI176 121 90 = x10 from (up_c u177 (by decide) (kp50))) (show FI176 121 71 = x16 from (up_c u177 (by decide) (kp51))) (show FI176 167 (x10).toNatClampNeg = x22 from (up_c u177 (by decide) (kp52))) (show FI176 168 (x10).toNatClampNeg = x24 from (up_c u177 (by decide) (kp53))) (show FI176 121 73 = x43 from (up_c u177 (by decide) (kp54))) (show rl_pm (FI176 121 90) (FI176 121 73) (FI176 166) (FI176 167) (FI176 168) from rl178) (by have := (e181 : (x180).toInt = (y5).toInt + (1)); omega) (by have := (e181 : (x180).toInt = (y5).toInt + (1)); omega) (show FI176 167 = FI 167 from (up_row u177 (by decide) (rw58))) (show FI176 168 = FI 168 from (up_row u177 (by decide) (rw59))) (by have := (e181 : (x180).toInt = (y5).toInt + (1)); omega)) ⟨rfl, rfl, rfl, rfl, rfl, rfl, trivial⟩
    exact hw_L (lp60 (((x30).toInt - 0 : Int).toNat + 1) ((0 : Int32)) FI38 (gf_tr ex_rf (gf_f (gf_f gf_rf u13 (by decide)) u19 (by decide)) f40 rfl rfl rfl) hI39 (show FI38 121 90 = x10 from (gf_at f40 (c121 hS) (s121 hS) rfl ((up_k u19 (by decide) (up_eq u13))))) (show FI38 121 71 = x16 from (gf_at f40 (c121 hS) (s121 hS) rfl (up_eq u19))) (show FI38 167 (x10).toNatClampNeg = x22 from (gf_at f40 (c167 hS) (s167 hS) rfl (h23))) (show FI38 168 (x10).toNatClampNeg = x24 from (gf_at f40 (c168 hS) (s168 hS) rfl (h25))) (show FI38 121 73 = x43 from h44) (show rl_pm (FI38 121 90) (FI38 121 73) (FI38 166) (FI38 167) (FI38 168) from rl42) (by have := ((by decide : (0 : Int32).toInt = 0) : ((0 : Int32)).toInt = 0); omega) (by have := ((by decide : (0 : Int32).toInt = 0) : ((0 : Int32)).toInt = 0); omega) (show FI38 167 = FI 167 from (gf_row f40 (c167 hS) (s167 hS) rfl ((up_row u19 (by decide) ((up_row u13 (by decide) (rfl))))))) (show FI38 168 = FI 168 from (gf_row f40 (c168 hS) (s168 hS) rfl ((up_row u19 (by decide) ((up_row u13 (by decide) (rfl))))))) (by have := ((by decide : (0 : Int32).toInt = 0) : ((0 : Int32)).toInt = 0); omega)) ⟨rfl, rfl, rfl, rfl, rfl, rfl, trivial⟩
  · refine xw_vret (aX12_turned 43 rfl) rfl ?_
    exact ⟨rfl, FI38, rfl, hI39, (gf_tr ex_rf (gf_f (gf_f gf_rf u13 (by decide)) u19 (by decide)) f40 rfl rfl rfl), (by have := congrArg Int32.toInt (show FI38 121 90 = x10 from (gf_at f40 (c121 hS) (s121 hS) rfl ((up_k u19 (by decide) (up_eq u13))))); have := (e11 : (x10).toInt = ((x1).toInt) - (1)); omega), (by have := congrArg Int32.toInt (show FI38 121 71 = x16 from (gf_at f40 (c121 hS) (s121 hS) rfl (up_eq u19))); have := (e17 : (x16).toInt = ((x7).toInt) - (1)); omega), (by have := congrArg Int32.toInt (show FI38 121 73 = x43 from h44); omega), (show rl_pm (FI38 121 90) (FI38 121 73) (FI38 166) (FI38 167) (FI38 168) from rl42)⟩
