def nX12_declared : Nat := 0xb14fed01b42a0302b42a8d00b42a0302b560040302b42a2a0f02b63b102a1402b62a07009adb01b42a0e00a71202b62a0a00a0062ede01b42a6900b42a17009adb01b42aea01b5032a4fde01b42a0302b42a8a00b42a0f02b63d102ade01b56004de01b42a2a54030302b42a9300b42a4f030302b42a8700b42a4fed01b42a0302b42a8d00b42a4f2ede01b42a6f00b42a0302b42a9000b42a502fde01b42a6c00b42a0302b42a8400b42ab1040099db01b42ae701b606102a0900a00c100302b42addffa7010184e701b6072a08009a942fde01b42a6c00b42a2f1b8400b42a2100a20302b42a1b3c03b1e701b6042a09009f042ede01b42a6900b42a
theorem bX12_declared : cX12_declared.data.toList.map UInt8.toNat = x_un nX12_declared 253 := by decide +kernel
def iX12_declared : List (Nat × Jvm.ClassFile.Instr × Nat) := [(0, .aload_n 0, 1), (1, .getfield 105, 3), (4, .aload_n 0, 1), (5, .getfield 478, 3), (8, .iaload, 1), (9, .iconst 1, 1), (10, .if_icmp .eq 9, 3), (13, .aload_n 0, 1), (14, .iconst 1, 1), (15, .invokevirtual 487, 3), (18, .return_, 1), (19, .iconst 0, 1), (20, .istore_n 1, 1), (21, .iload_n 1, 1), (22, .aload_n 0, 1), (23, .getfield 515, 3), (26, .if_icmp .ge 33, 3), (29, .aload_n 0, 1), (30, .getfield 132, 3), (33, .iload_n 1, 1), (34, .laload, 1), (35, .aload_n 0, 1), (36, .getfield 108, 3), (39, .aload_n 0, 1), (40, .getfield 478, 3), (43, .laload, 1), (44, .lcmp, 1), (45, .ifCond .ne 8, 3), (48, .aload_n 0, 1), (49, .iconst 4, 1), (50, .invokevirtual 487, 3), (53, .iinc 1 1, 3), (56, .goto (-35), 3), (59, .aload_n 0, 1), (60, .getfield 515, 3), (63, .bipush 12, 2), (65, .if_icmp .ne 9, 3), (68, .aload_n 0, 1), (69, .bipush 6, 2), (71, .invokevirtual 487, 3), (74, .aload_n 0, 1), (75, .getfield 475, 3), (78, .ifCond .eq 4, 3), (81, .return_, 1), (82, .aload_n 0, 1), (83, .getfield 132, 3), (86, .aload_n 0, 1), (87, .getfield 515, 3), (90, .aload_n 0, 1), (91, .getfield 108, 3), (94, .aload_n 0, 1), (95, .getfield 478, 3), (98, .laload, 1), (99, .lastore, 1), (100, .aload_n 0, 1), (101, .getfield 144, 3), (104, .aload_n 0, 1), (105, .getfield 515, 3), (108, .aload_n 0, 1), (109, .getfield 111, 3), (112, .aload_n 0, 1), (113, .getfield 478, 3), (116, .iaload, 1), (117, .iastore, 1), (118, .aload_n 0, 1), (119, .getfield 141, 3), (122, .aload_n 0, 1), (123, .getfield 515, 3), (126, .aload_n 0, 1), (127, .getfield 493, 3), (130, .iastore, 1), (131, .aload_n 0, 1), (132, .getfield 135, 3), (135, .aload_n 0, 1), (136, .getfield 515, 3), (139, .iconst 0, 1), (140, .iastore, 1), (141, .aload_n 0, 1), (142, .getfield 147, 3), (145, .aload_n 0, 1), (146, .getfield 515, 3), (149, .iconst 0, 1), (150, .bastore, 1), (151, .aload_n 0, 1), (152, .aload_n 0, 1), (153, .getfield 478, 3), (156, .iconst 1, 1), (157, .iadd, 1), (158, .putfield 478, 3), (161, .aload_n 0, 1), (162, .bipush 61, 2), (164, .invokevirtual 527, 3), (167, .aload_n 0, 1), (168, .getfield 138, 3), (171, .aload_n 0, 1), (172, .getfield 515, 3), (175, .aload_n 0, 1), (176, .getfield 478, 3), (179, .iastore, 1), (180, .aload_n 0, 1), (181, .iconst 0, 1), (182, .putfield 490, 3), (185, .aload_n 0, 1), (186, .getfield 475, 3), (189, .ifCond .ne 23, 3), (192, .aload_n 0, 1), (193, .getfield 105, 3), (196, .aload_n 0, 1), (197, .getfield 478, 3), (200, .iaload, 1), (201, .iconst 3, 1), (202, .if_icmp .ne 10, 3), (205, .aload_n 0, 1), (206, .invokevirtual 530, 3), (209, .goto 14, 3), (212, .aload_n 0, 1), (213, .getfield 475, 3), (216, .ifCond .ne 7, 3), (219, .aload_n 0, 1), (220, .invokevirtual 532, 3), (223, .aload_n 0, 1), (224, .bipush 59, 2), (226, .invokevirtual 527, 3), (229, .aload_n 0, 1), (230, .aload_n 0, 1), (231, .getfield 515, 3), (234, .iconst 1, 1), (235, .iadd, 1), (236, .putfield 515, 3), (239, .aload_n 0, 1), (240, .getfield 141, 3), (243, .aload_n 0, 1), (244, .getfield 515, 3), (247, .aload_n 0, 1), (248, .getfield 493, 3), (251, .iastore, 1), (252, .return_, 1)]
theorem dX12_declared : x_il nX12_declared 253 iX12_declared = true := by decide +kernel
theorem aX12_declared (k : Nat) {pc : Nat} {i : Jvm.ClassFile.Instr} {len : Nat} (hk : iX12_declared[k]? = some (pc, i, len)) : x_at xMM 226 pc i len yX12_declared 2 none := ⟨cX12_declared, rfl, x_il_ok bX12_declared dX12_declared k hk⟩
set_option maxHeartbeats 4000000 in
set_option maxRecDepth 100000 in
theorem n_declared {zk : xK} {base d n sl : Nat} {SH : Nat → Nat × Nat} {FI : Nat → Nat → Int32} {FL : Nat → Nat → Int64} {FR : Nat → Nat → Option Nat} (hS : h_S n SH) (hF : h_FR FR) (hI : g_I FI) (g0 : (FI 121 68).toInt < (FI 121 67).toInt - 1) (g1 : (FI 121 69).toInt = 0) (g2 : (FI 121 73).toInt ≤ 20 * (FI 121 68).toInt) (gg0 : rl_mv (FI 121 78) (FI 121 67) (FI 149) (FL 150) (FI 159) (FI 160)) (gg1 : rl_mb (FI 121 78) (FI 161) (FI 121 73).toInt) (rel_tend : rl_e (FI 149) (FI 121 67)) (rel_tok : rl_t (FI 149) (FL 150)) (rel_wh : rl_w (FI 121 67) (FI 149) (FL 150) (FI 151)) : hw zk base (d + 10) none 226 0 [(0, .ref (base + 121))] [] (n, sl, SH, FI, FL, FR) (h_V (fun s => ∃ FI' FL', s = (n, sl, SH, FI', FL', FR) ∧ g_I FI' ∧ g_fr n SH [(121, 68), (121, 69), (121, 70), (121, 71), (121, 73), (121, 78), (121, 90), (121, 91)] [154, 159, 160, 161, 162, 163, 164, 165, 166, 167, 168] [] FI FI' ∧ g_fr n SH [] [158] [] FL FL' ∧ ((FI' 121 68).toInt ≤ (FI' 121 67).toInt - 1) ∧ ((FI' 121 69).toInt = 0 → (FI' 121 73).toInt ≤ 20 * (FI' 121 68).toInt) ∧ ((FI' 121 69).toInt = 0 → (FI 121 68).toInt < (FI' 121 68).toInt) ∧ ((FI' 121 69).toInt = 0 → rl_mv (FI' 121 78) (FI' 121 67) (FI' 149) (FL' 150) (FI' 159) (FI' 160)) ∧ ((FI' 121 69).toInt = 0 → rl_mb (FI' 121 78) (FI' 161) (FI' 121 73).toInt) ∧ ((FI' 121 69).toInt = 0 → (FI' 121 73).toInt - 4 * wp (FI 151) (FI' 121 68) ≤ (FI 121 73).toInt - 4 * wp (FI 151) (FI 121 68)))) := by
  obtain ⟨x1, h2⟩ : ∃ y, FI 121 68 = y := ⟨_, rfl⟩
  have h2l := congrArg Int32.toInt h2
  have b3 := gI_121_68 hI; rw [h2] at b3
  obtain ⟨x4, h5⟩ : ∃ y, FI 121 67 = y := ⟨_, rfl⟩
  have h5l := congrArg Int32.toInt h5
  have b6 := gI_121_67 hI; rw [h5] at b6
  obtain ⟨x7, h8⟩ : ∃ y, FI 121 69 = y := ⟨_, rfl⟩
  have h8l := congrArg Int32.toInt h8
  have := i_rng x7
  obtain ⟨x9, h10⟩ : ∃ y, FI 121 73 = y := ⟨_, rfl⟩
  have h10l := congrArg Int32.toInt h10
  have b11 := gI_121_73 hI; rw [h10] at b11
  obtain ⟨x12, h13⟩ : ∃ y, FI 121 78 = y := ⟨_, rfl⟩
  have h13l := congrArg Int32.toInt h13
  have b14 := gI_121_78 hI; rw [h13] at b14
  have e15 : 0 ≤ (x7).toInt ∧ (x7).toInt ≤ 0 := by omega
  refine hw_aloadn (aX12_declared 0 rfl) rfl ?_
  refine hw_get (v := .ref (base + 149)) (aX12_declared 1 rfl) wf_RX12_105 (c121 hS) (s121 hS) (by decide) (congrArg (fun r => va_rf (h_rf base r)) (r121_62 hF)) ?_
  refine hw_aloadn (aX12_declared 2 rfl) rfl ?_
  refine hw_get (v := .int (x1)) (aX12_declared 3 rfl) wf_RX12_478 (c121 hS) (s121 hS) (by decide) (congrArg Value.int (show FI 121 68 = x1 from h2)) ?_
  obtain ⟨x16, h17⟩ : ∃ y, FI 149 (x1).toNatClampNeg = y := ⟨_, rfl⟩
  have h17l := congrArg Int32.toInt h17
  have := i_rng x16
  refine hw_iald (v := x16) (aX12_declared 4 rfl) (c149 hS) (s149 hS) (h_in rfl (by omega) (by omega)) (show FI 149 (x1).toNatClampNeg = x16 from h17) ?_
  refine hw_ic (v := (1 : Int32)) (aX12_declared 5 rfl) (by decide) ?_
  refine hw_iceq (tgt := 19) (aX12_declared 6 rfl) (by decide) rfl (by decide : (1 : Int32).toInt = 1) (fun cd18 => ?_) (fun cd18 => ?_)
  · refine hw_ic (v := (0 : Int32)) (aX12_declared 11 rfl) (by decide) ?_
    refine xw_istoren (L2 := [(1, .int ((0 : Int32))), (0, .ref (base + 121))]) (aX12_declared 12 rfl) (by decide) rfl ?_
    have lp38 : ∀ (m : Nat) (y1 : Int32) (FIv19 : Nat → Nat → Int32), (g_fr n SH [(121, 68), (121, 69), (121, 70), (121, 71), (121, 73), (121, 78), (121, 90), (121, 91)] [154, 159, 160, 161, 162, 163, 164, 165, 166, 167, 168] [] FI FIv19) → (g_I FIv19) → (FIv19 121 68 = x1) → (FIv19 121 67 = x4) → (FIv19 121 73 = x9) → (FIv19 121 78 = x12) → (FIv19 149 (x1).toNatClampNeg = x16) → (rl_e (FIv19 149) (FIv19 121 67)) → (rl_t (FIv19 149) (FL 150)) → (rl_w (FIv19 121 67) (FIv19 149) (FL 150) (FIv19 151)) → (0 ≤ (y1).toInt ∧ (y1).toInt ≤ 12) → ((y1).toInt ≤ (x12).toInt) → ((x12).toInt ≤ 12) → (FIv19 149 = FI 149) → (FIv19 151 = FI 151) → (FIv19 159 = FI 159) → (FIv19 160 = FI 160) → (FIv19 161 = FI 161) → (x12).toInt - (y1).toInt < m → hw zk base (d + 10) none 226 21 [(1, .int (y1)), (0, .ref (base + 121))] [] (n, sl, SH, FIv19, FL, FR) (h_V (fun s => ∃ FI' FL', s = (n, sl, SH, FI', FL', FR) ∧ g_I FI' ∧ g_fr n SH [(121, 68), (121, 69), (121, 70), (121, 71), (121, 73), (121, 78), (121, 90), (121, 91)] [154, 159, 160, 161, 162, 163, 164, 165, 166, 167, 168] [] FI FI' ∧ g_fr n SH [] [158] [] FL FL' ∧ ((FI' 121 68).toInt ≤ (FI' 121 67).toInt - 1) ∧ ((FI' 121 69).toInt = 0 → (FI' 121 73).toInt ≤ 20 * (FI' 121 68).toInt) ∧ ((FI' 121 69).toInt = 0 → (FI 121 68).toInt < (FI' 121 68).toInt) ∧ ((FI' 121 69).toInt = 0 → rl_mv (FI' 121 78) (FI' 121 67) (FI' 149) (FL' 150) (FI' 159) (FI' 160)) ∧ ((FI' 121 69).toInt = 0 → rl_mb (FI' 121 78) (FI' 161) (FI' 121 73).toInt) ∧ ((FI' 121 69).toInt = 0 → (FI' 121 73).toInt - 4 * wp (FI 151) (FI' 121 68) ≤ (FI 121 73).toInt - 4 * wp (FI 151) (FI 121 68)))) := by
      intro m
      induction m with
      | zero => intro y1 FIv19 fr20 hI21 kp22 kp23 kp24 kp25 kp26 rl27 rl28 rl29 iv30 iv31 iv32 rw33 rw34 rw35 rw36 rw37 hm; omega
      | succ m ih =>
        intro y1 FIv19 fr20 hI21 kp22 kp23 kp24 kp25 kp26 rl27 rl28 rl29 iv30 iv31 iv32 rw33 rw34 rw35 rw36 rw37 hm
        have rg_y1 := i_rng y1
        have := congrArg Int32.toInt kp22
        have := congrArg Int32.toInt kp23
        have := congrArg Int32.toInt kp24
        have := congrArg Int32.toInt kp25
        have := congrArg Int32.toInt kp26
        refine xw_iloadn (aX12_declared 13 rfl) rfl ?_
        refine hw_aloadn (aX12_declared 14 rfl) rfl ?_
        refine hw_get (v := .int (x12)) (aX12_declared 15 rfl) wf_RX12_515 (c121 hS) (s121 hS) (by decide) (congrArg Value.int (show FIv19 121 78 = x12 from kp25)) ?_
        refine hw_icge (tgt := 59) (aX12_declared 16 rfl) (by decide) rfl rfl (fun cd39 => ?_) (fun cd39 => ?_)
        · refine hw_aloadn (aX12_declared 33 rfl) rfl ?_
          refine hw_get (v := .int (x12)) (aX12_declared 34 rfl) wf_RX12_515 (c121 hS) (s121 hS) (by decide) (congrArg Value.int (show FIv19 121 78 = x12 from kp25)) ?_
          refine hw_bp (v := (12 : Int32)) (aX12_declared 35 rfl) (by decide) ?_
          refine hw_icne (tgt := 74) (aX12_declared 36 rfl) (by decide) rfl (by decide : (12 : Int32).toInt = 12) (fun cd40 => ?_) (fun cd40 => ?_)
          · refine hw_aloadn (aX12_declared 40 rfl) rfl ?_
            obtain ⟨x41, h42⟩ : ∃ y, FIv19 121 69 = y := ⟨_, rfl⟩
            have h42l := congrArg Int32.toInt h42
            have := i_rng x41
            refine hw_get (v := .int (x41)) (aX12_declared 41 rfl) wf_RX12_475 (c121 hS) (s121 hS) (by decide) (congrArg Value.int (show FIv19 121 69 = x41 from h42)) ?_
            refine hw_ifeq (tgt := 82) (aX12_declared 42 rfl) (by decide) rfl (fun cd43 => ?_) (fun cd43 => ?_)
            · refine hw_aloadn (aX12_declared 44 rfl) rfl ?_
              refine hw_get (v := .ref (base + 158)) (aX12_declared 45 rfl) wf_RX12_132 (c121 hS) (s121 hS) (by decide) (congrArg (fun r => va_rf (h_rf base r)) (r121_79 hF)) ?_
              refine hw_aloadn (aX12_declared 46 rfl) rfl ?_
              refine hw_get (v := .int (x12)) (aX12_declared 47 rfl) wf_RX12_515 (c121 hS) (s121 hS) (by decide) (congrArg Value.int (show FIv19 121 78 = x12 from kp25)) ?_
              refine hw_aloadn (aX12_declared 48 rfl) rfl ?_
              refine hw_get (v := .ref (base + 150)) (aX12_declared 49 rfl) wf_RX12_108 (c121 hS) (s121 hS) (by decide) (congrArg (fun r => va_rf (h_rf base r)) (r121_63 hF)) ?_
              refine hw_aloadn (aX12_declared 50 rfl) rfl ?_
              refine hw_get (v := .int (x1)) (aX12_declared 51 rfl) wf_RX12_478 (c121 hS) (s121 hS) (by decide) (congrArg Value.int (show FIv19 121 68 = x1 from kp22)) ?_
              obtain ⟨x44, h45⟩ : ∃ y, FL 150 (x1).toNatClampNeg = y := ⟨_, rfl⟩
              have h45l := congrArg Int64.toInt h45
              have := l_rng x44
              refine hw_lald (v := x44) (aX12_declared 52 rfl) (c150 hS) (s150 hS) (h_in rfl (by omega) (by omega)) (show FL 150 (x1).toNatClampNeg = x44 from h45) ?_
              refine hv_last (k := (x12).toNatClampNeg) (aX12_declared 53 rfl) (c158 hS) (s158 hS) (h_in rfl (by omega) (by omega)) rfl (fun FL46 u47 => ?_)
              have rl48 : rl_t (FIv19 149) (FL46 150) := by rw [show FL46 150 = FL 150 from up_row u47 (by decide) rfl]; exact rl28
              have rl49 : rl_w (FIv19 121 67) (FIv19 149) (FL46 150) (FIv19 151) := by rw [show FL46 150 = FL 150 from up_row u47 (by decide) rfl]; exact rl29
              refine hw_aloadn (aX12_declared 54 rfl) rfl ?_
              refine hw_get (v := .ref (base + 162)) (aX12_declared 55 rfl) wf_RX12_144 (c121 hS) (s121 hS) (by decide) (congrArg (fun r => va_rf (h_rf base r)) (r121_83 hF)) ?_
              refine hw_aloadn (aX12_declared 56 rfl) rfl ?_
              refine hw_get (v := .int (x12)) (aX12_declared 57 rfl) wf_RX12_515 (c121 hS) (s121 hS) (by decide) (congrArg Value.int (show FIv19 121 78 = x12 from kp25)) ?_
              refine hw_aloadn (aX12_declared 58 rfl) rfl ?_
              refine hw_get (v := .ref (base + 151)) (aX12_declared 59 rfl) wf_RX12_111 (c121 hS) (s121 hS) (by decide) (congrArg (fun r => va_rf (h_rf base r)) (r121_64 hF)) ?_
              refine hw_aloadn (aX12_declared 60 rfl) rfl ?_
              refine hw_get (v := .int (x1)) (aX12_declared 61 rfl) wf_RX12_478 (c121 hS) (s121 hS) (by decide) (congrArg Value.int (show FIv19 121 68 = x1 from kp22)) ?_
              obtain ⟨x50, h51⟩ : ∃ y, FIv19 151 (x1).toNatClampNeg = y := ⟨_, rfl⟩
              have h51l := congrArg Int32.toInt h51
              have := i_rng x50
              refine hw_iald (v := x50) (aX12_declared 62 rfl) (c151 hS) (s151 hS) (h_in rfl (by omega) (by omega)) (show FIv19 151 (x1).toNatClampNeg = x50 from h51) ?_
              refine hv_iast (k := (x12).toNatClampNeg) (aX12_declared 63 rfl) (c162 hS) (s162 hS) (h_in rfl (by omega) (by omega)) rfl (fun FI52 u53 => ?_)
              have rl54 : rl_e (FI52 149) (FI52 121 67) := by rw [show FI52 149 = FIv19 149 from up_row u53 (by decide) rfl, show FI52 121 67 = FIv19 121 67 from up_c u53 (by decide) rfl]; exact rl27
              have rl55 : rl_t (FI52 149) (FL46 150) := by rw [show FI52 149 = FIv19 149 from up_row u53 (by decide) rfl]; exact rl48
              have rl56 : rl_w (FI52 121 67) (FI52 149) (FL46 150) (FI52 151) := by rw [show FI52 149 = FIv19 149 from up_row u53 (by decide) rfl, show FI52 151 = FIv19 151 from up_row u53 (by decide) rfl, show FI52 121 67 = FIv19 121 67 from up_c u53 (by decide) rfl]; exact rl49
              have hI57 : g_I FI52 := gU_F hI21 u53 rfl
              refine hw_aloadn (aX12_declared 64 rfl) rfl ?_
              refine hw_get (v := .ref (base + 161)) (aX12_declared 65 rfl) wf_RX12_141 (c121 hS) (s121 hS) (by decide) (congrArg (fun r => va_rf (h_rf base r)) (r121_82 hF)) ?_
              refine hw_aloadn (aX12_declared 66 rfl) rfl ?_
              refine hw_get (v := .int (x12)) (aX12_declared 67 rfl) wf_RX12_515 (c121 hS) (s121 hS) (by decide) (congrArg Value.int (show FI52 121 78 = x12 from (up_c u53 (by decide) (kp25)))) ?_
              refine hw_aloadn (aX12_declared 68 rfl) rfl ?_
              refine hw_get (v := .int (x9)) (aX12_declared 69 rfl) wf_RX12_493 (c121 hS) (s121 hS) (by decide) (congrArg Value.int (show FI52 121 73 = x9 from (up_c u53 (by decide) (kp24)))) ?_
              refine hv_iast (k := (x12).toNatClampNeg) (aX12_declared 70 rfl) (c161 hS) (s161 hS) (h_in rfl (by omega) (by omega)) rfl (fun FI58 u59 => ?_)
              have rl60 : rl_e (FI58 149) (FI58 121 67) := by rw [show FI58 149 = FI52 149 from up_row u59 (by decide) rfl, show FI58 121 67 = FI52 121 67 from up_c u59 (by decide) rfl]; exact rl54
              have rl61 : rl_t (FI58 149) (FL46 150) := by rw [show FI58 149 = FI52 149 from up_row u59 (by decide) rfl]; exact rl55
              have rl62 : rl_w (FI58 121 67) (FI58 149) (FL46 150) (FI58 151) := by rw [show FI58 149 = FI52 149 from up_row u59 (by decide) rfl, show FI58 151 = FI52 151 from up_row u59 (by decide) rfl, show FI58 121 67 = FI52 121 67 from up_c u59 (by decide) rfl]; exact rl56
              have hI63 : g_I FI58 := gU_161 hI57 u59 (by omega) (by omega)
              refine hw_aloadn (aX12_declared 71 rfl) rfl ?_
              refine hw_get (v := .ref (base + 159)) (aX12_declared 72 rfl) wf_RX12_135 (c121 hS) (s121 hS) (by decide) (congrArg (fun r => va_rf (h_rf base r)) (r121_80 hF)) ?_
              refine hw_aloadn (aX12_declared 73 rfl) rfl ?_
              refine hw_get (v := .int (x12)) (aX12_declared 74 rfl) wf_RX12_515 (c121 hS) (s121 hS) (by decide) (congrArg Value.int (show FI58 121 78 = x12 from (up_c u59 (by decide) ((up_c u53 (by decide) (kp25)))))) ?_
              refine hw_ic (v := (0 : Int32)) (aX12_declared 75 rfl) (by decide) ?_
              refine hv_iast (k := (x12).toNatClampNeg) (aX12_declared 76 rfl) (c159 hS) (s159 hS) (h_in rfl (by omega) (by omega)) rfl (fun FI64 u65 => ?_)
              have rl66 : rl_e (FI64 149) (FI64 121 67) := by rw [show FI64 149 = FI58 149 from up_row u65 (by decide) rfl, show FI64 121 67 = FI58 121 67 from up_c u65 (by decide) rfl]; exact rl60
              have rl67 : rl_t (FI64 149) (FL46 150) := by rw [show FI64 149 = FI58 149 from up_row u65 (by decide) rfl]; exact rl61
              have rl68 : rl_w (FI64 121 67) (FI64 149) (FL46 150) (FI64 151) := by rw [show FI64 149 = FI58 149 from up_row u65 (by decide) rfl, show FI64 151 = FI58 151 from up_row u65 (by decide) rfl, show FI64 121 67 = FI58 121 67 from up_c u65 (by decide) rfl]; exact rl62
              have hI69 : g_I FI64 := gU_159 hI63 u65 (by have := ((by decide : (0 : Int32).toInt = 0) : ((0 : Int32)).toInt = 0); omega) (by have := ((by decide : (0 : Int32).toInt = 0) : ((0 : Int32)).toInt = 0); omega)
              refine hw_aloadn (aX12_declared 77 rfl) rfl ?_
              refine hw_get (v := .ref (base + 163)) (aX12_declared 78 rfl) wf_RX12_147 (c121 hS) (s121 hS) (by decide) (congrArg (fun r => va_rf (h_rf base r)) (r121_84 hF)) ?_
              refine hw_aloadn (aX12_declared 79 rfl) rfl ?_
              refine hw_get (v := .int (x12)) (aX12_declared 80 rfl) wf_RX12_515 (c121 hS) (s121 hS) (by decide) (congrArg Value.int (show FI64 121 78 = x12 from (up_c u65 (by decide) ((up_c u59 (by decide) ((up_c u53 (by decide) (kp25)))))))) ?_
              refine hw_ic (v := (0 : Int32)) (aX12_declared 81 rfl) (by decide) ?_
              refine hv_zast (w := (0 : Int32)) (k := (x12).toNatClampNeg) (aX12_declared 82 rfl) (c163 hS) (s163 hS) (h_in rfl (by omega) (by omega)) rfl (by decide) (fun FI70 u71 => ?_)
              have rl75 : rl_e (FI70 149) (FI70 121 67) := by rw [show FI70 149 = FI64 149 from up_row u71 (by decide) rfl, show FI70 121 67 = FI64 121 67 from up_c u71 (by decide) rfl]; exact rl66
              have rl76 : rl_t (FI70 149) (FL46 150) := by rw [show FI70 149 = FI64 149 from up_row u71 (by decide) rfl]; exact rl67
              have rl77 : rl_w (FI70 121 67) (FI70 149) (FL46 150) (FI70 151) := by rw [show FI70 149 = FI64 149 from up_row u71 (by decide) rfl, show FI70 151 = FI64 151 from up_row u71 (by decide) rfl, show FI70 121 67 = FI64 121 67 from up_c u71 (by decide) rfl]; exact rl68
              have hI78 : g_I FI70 := gU_163 hI69 u71 (by have := ((by decide : (0 : Int32).toInt = 0) : ((0 : Int32)).toInt = 0); omega) (by have := ((by decide : (0 : Int32).toInt = 0) : ((0 : Int32)).toInt = 0); omega)
              refine hw_aloadn (aX12_declared 83 rfl) rfl ?_
              refine hw_aloadn (aX12_declared 84 rfl) rfl ?_
              refine hw_get (v := .int (x1)) (aX12_declared 85 rfl) wf_RX12_478 (c121 hS) (s121 hS) (by decide) (congrArg Value.int (show FI70 121 68 = x1 from (up_c u71 (by decide) ((up_c u65 (by decide) ((up_c u59 (by decide) ((up_c u53 (by decide) (kp22)))))))))) ?_
              refine hw_ic (v := (1 : Int32)) (aX12_declared 86 rfl) (by decide) ?_
              refine xw_iadd (aX12_declared 87 rfl) ?_
              refine hw_tie (A := ((x1).toInt) + (1)) (i_add rfl (by decide : (1 : Int32).toInt = 1) (by omega) (by omega)) (fun x79 e80 => ?_)
              refine hv_puti (aX12_declared 88 rfl) wf_RX12_478 (c121 hS) (s121 hS) (by decide) rfl rfl (fun FI81 u82 => ?_)
              have rl83 : rl_e (FI81 149) (FI81 121 67) := by rw [show FI81 149 = FI70 149 from up_row u82 (by decide) rfl, show FI81 121 67 = FI70 121 67 from up_k u82 (by decide) rfl]; exact rl75
              have rl84 : rl_t (FI81 149) (FL46 150) := by rw [show FI81 149 = FI70 149 from up_row u82 (by decide) rfl]; exact rl76
              have rl85 : rl_w (FI81 121 67) (FI81 149) (FL46 150) (FI81 151) := by rw [show FI81 149 = FI70 149 from up_row u82 (by decide) rfl, show FI81 151 = FI70 151 from up_row u82 (by decide) rfl, show FI81 121 67 = FI70 121 67 from up_k u82 (by decide) rfl]; exact rl77
              have hI86 : g_I FI81 := gU_121_68 hI78 u82 (by have := (e80 : (x79).toInt = ((x1).toInt) + (1)); omega) (by have := (e80 : (x79).toInt = ((x1).toInt) + (1)); omega)
              refine hw_aloadn (aX12_declared 89 rfl) rfl ?_
              refine hw_bp (v := (61 : Int32)) (aX12_declared 90 rfl) (by decide) ?_
              refine hw_callV (Bs := [.int ((61 : Int32))]) (rest := []) (aX12_declared 91 rfl) wc_RX12_527 (by decide) rfl wi_yX12_need wv_yX12_need (c121 hS) (s121 hS) rfl rfl rfl (Nat.le_of_ble_eq_true rfl) (Nat.le_of_ble_eq_true rfl) (n_need (d := d + 8) hS hF hI86 ((61 : Int32)) (by have := congrArg Int32.toInt (show FI81 121 68 = x79 from up_eq u82); have := (e80 : (x79).toInt = ((x1).toInt) + (1)); have := congrArg Int32.toInt (show FI81 121 67 = x4 from (up_k u82 (by decide) ((up_c u71 (by decide) ((up_c u65 (by decide) ((up_c u59 (by decide) ((up_c u53 (by decide) (kp23))))))))))); omega) (show rl_e (FI81 149) (FI81 121 67) from rl83)) (fun v87 sv88 p89 => ?_)
              have := congrArg Int32.toInt (show FI81 121 68 = x79 from up_eq u82)
              have := (e80 : (x79).toInt = ((x1).toInt) + (1))
              have := congrArg Int32.toInt (show FI81 121 69 = x41 from (up_k u82 (by decide) ((up_c u71 (by decide) ((up_c u65 (by decide) ((up_c u59 (by decide) ((up_c u53 (by decide) (h42)))))))))))
              have := congrArg Int32.toInt (show FI81 121 68 = x79 from up_eq u82)
              have := (e80 : (x79).toInt = ((x1).toInt) + (1))
              have := congrArg Int32.toInt (show FI81 121 68 = x79 from up_eq u82)
              have := (e80 : (x79).toInt = ((x1).toInt) + (1))
              obtain ⟨rfl, FI91, rfl, hI92, f93, t94, t95, t96, u97⟩ := p89
              have rl98 : rl_e (FI91 149) (FI91 121 67) := by rw [show FI91 149 = FI81 149 from gf_row f93 (c149 hS) (s149 hS) rfl rfl, show FI91 121 67 = FI81 121 67 from gf_at f93 (c121 hS) (s121 hS) rfl rfl]; exact rl83
              have rl99 : rl_t (FI91 149) (FL46 150) := by rw [show FI91 149 = FI81 149 from gf_row f93 (c149 hS) (s149 hS) rfl rfl]; exact rl84
              have rl100 : rl_w (FI91 121 67) (FI91 149) (FL46 150) (FI91 151) := by rw [show FI91 149 = FI81 149 from gf_row f93 (c149 hS) (s149 hS) rfl rfl, show FI91 151 = FI81 151 from gf_row f93 (c151 hS) (s151 hS) rfl rfl, show FI91 121 67 = FI81 121 67 from gf_at f93 (c121 hS) (s121 hS) rfl rfl]; exact rl85
              obtain ⟨x101, h102⟩ : ∃ y, FI91 121 68 = y := ⟨_, rfl⟩
              have h102l := congrArg Int32.toInt h102
              have b103 := gI_121_68 hI92; rw [h102] at b103
              have := congrArg Int32.toInt (show FI91 121 67 = x4 from (gf_at f93 (c121 hS) (s121 hS) rfl ((up_k u82 (by decide) ((up_c u71 (by decide) ((up_c u65 (by decide) ((up_c u59 (by decide) ((up_c u53 (by decide) (kp23)))))))))))))
              obtain ⟨x104, h105⟩ : ∃ y, FI91 121 69 = y := ⟨_, rfl⟩
              have h105l := congrArg Int32.toInt h105
              have := i_rng x104
              show hw zk base _ _ _ _ _ [] _ _
              clear u97
              refine hw_aloadn (aX12_declared 92 rfl) rfl ?_
              refine hw_get (v := .ref (base + 160)) (aX12_declared 93 rfl) wf_RX12_138 (c121 hS) (s121 hS) (by decide) (congrArg (fun r => va_rf (h_rf base r)) (r121_81 hF)) ?_
              refine hw_aloadn (aX12_declared 94 rfl) rfl ?_
              refine hw_get (v := .int (x12)) (aX12_declared 95 rfl) wf_RX12_515 (c121 hS) (s121 hS) (by decide) (congrArg Value.int (show FI91 121 78 = x12 from (gf_at f93 (c121 hS) (s121 hS) rfl ((up_k u82 (by decide) ((up_c u71 (by decide) ((up_c u65 (by decide) ((up_c u59 (by decide) ((up_c u53 (by decide) (kp25)))))))))))))) ?_
              refine hw_aloadn (aX12_declared 96 rfl) rfl ?_
              refine hw_get (v := .int (x101)) (aX12_declared 97 rfl) wf_RX12_478 (c121 hS) (s121 hS) (by decide) (congrArg Value.int (show FI91 121 68 = x101 from h102)) ?_
              refine hv_iast (k := (x12).toNatClampNeg) (aX12_declared 98 rfl) (c160 hS) (s160 hS) (h_in rfl (by omega) (by omega)) rfl (fun FI106 u107 => ?_)
              have rl108 : rl_e (FI106 149) (FI106 121 67) := by rw [show FI106 149 = FI91 149 from up_row u107 (by decide) rfl, show FI106 121 67 = FI91 121 67 from up_c u107 (by decide) rfl]; exact rl98
              have rl109 : rl_t (FI106 149) (FL46 150) := by rw [show FI106 149 = FI91 149 from up_row u107 (by decide) rfl]; exact rl99
              have rl110 : rl_w (FI106 121 67) (FI106 149) (FL46 150) (FI106 151) := by rw [show FI106 149 = FI91 149 from up_row u107 (by decide) rfl, show FI106 151 = FI91 151 from up_row u107 (by decide) rfl, show FI106 121 67 = FI91 121 67 from up_c u107 (by decide) rfl]; exact rl100
              have hI111 : g_I FI106 := gU_160 hI92 u107 (by omega) (by omega)
              refine hw_aloadn (aX12_declared 99 rfl) rfl ?_
              refine hw_ic (v := (0 : Int32)) (aX12_declared 100 rfl) (by decide) ?_
              refine hv_puti (aX12_declared 101 rfl) wf_RX12_490 (c121 hS) (s121 hS) (by decide) rfl rfl (fun FI112 u113 => ?_)
              have rl114 : rl_e (FI112 149) (FI112 121 67) := by rw [show FI112 149 = FI106 149 from up_row u113 (by decide) rfl, show FI112 121 67 = FI106 121 67 from up_k u113 (by decide) rfl]; exact rl108
              have rl115 : rl_t (FI112 149) (FL46 150) := by rw [show FI112 149 = FI106 149 from up_row u113 (by decide) rfl]; exact rl109
              have rl116 : rl_w (FI112 121 67) (FI112 149) (FL46 150) (FI112 151) := by rw [show FI112 149 = FI106 149 from up_row u113 (by decide) rfl, show FI112 151 = FI106 151 from up_row u113 (by decide) rfl, show FI112 121 67 = FI106 121 67 from up_k u113 (by decide) rfl]; exact rl110
              have hI117 : g_I FI112 := gU_F hI111 u113 rfl
              refine hw_aloadn (aX12_declared 102 rfl) rfl ?_
              refine hw_get (v := .int (x104)) (aX12_declared 103 rfl) wf_RX12_475 (c121 hS) (s121 hS) (by decide) (congrArg Value.int (show FI112 121 69 = x104 from (up_k u113 (by decide) ((up_c u107 (by decide) (h105)))))) ?_
              refine hw_ifne (tgt := 212) (aX12_declared 104 rfl) (by decide) rfl (fun cd118 => ?_) (fun cd118 => ?_)
              · refine hw_aloadn (aX12_declared 115 rfl) rfl ?_
                refine hw_get (v := .int (x104)) (aX12_declared 116 rfl) wf_RX12_475 (c121 hS) (s121 hS) (by decide) (congrArg Value.int (show FI112 121 69 = x104 from (up_k u113 (by decide) ((up_c u107 (by decide) (h105)))))) ?_
                refine hw_ifne (tgt := 223) (aX12_declared 117 rfl) (by decide) rfl (fun cd119 => ?_) (fun cd119 => ?_)
                · refine hw_aloadn (aX12_declared 120 rfl) rfl ?_
                  refine hw_bp (v := (59 : Int32)) (aX12_declared 121 rfl) (by decide) ?_
                  refine hw_callV (Bs := [.int ((59 : Int32))]) (rest := []) (aX12_declared 122 rfl) wc_RX12_527 (by decide) rfl wi_yX12_need wv_yX12_need (c121 hS) (s121 hS) rfl rfl rfl (Nat.le_of_ble_eq_true rfl) (Nat.le_of_ble_eq_true rfl) (n_need (d := d + 8) hS hF hI117 ((59 : Int32)) (by have := congrArg Int32.toInt (show FI112 121 68 = x101 from (up_k u113 (by decide) ((up_c u107 (by decide) (h102))))); have := congrArg Int32.toInt (show FI112 121 67 = x4 from (up_k u113 (by decide) ((up_c u107 (by decide) ((gf_at f93 (c121 hS) (s121 hS) rfl ((up_k u82 (by decide) ((up_c u71 (by decide) ((up_c u65 (by decide) ((up_c u59 (by decide) ((up_c u53 (by decide) (kp23))))))))))))))))); omega) (show rl_e (FI112 149) (FI112 121 67) from rl114)) (fun v120 sv121 p122 => ?_)
                  have := congrArg Int32.toInt (show FI112 121 68 = x101 from (up_k u113 (by decide) ((up_c u107 (by decide) (h102)))))
                  have := congrArg Int32.toInt (show FI112 121 69 = x104 from (up_k u113 (by decide) ((up_c u107 (by decide) (h105)))))
                  have := congrArg Int32.toInt (show FI112 121 68 = x101 from (up_k u113 (by decide) ((up_c u107 (by decide) (h102)))))
                  have := congrArg Int32.toInt (show FI112 121 68 = x101 from (up_k u113 (by decide) ((up_c u107 (by decide) (h102)))))
                  obtain ⟨rfl, FI124, rfl, hI125, f126, t127, t128, t129, u130⟩ := p122
                  have rl131 : rl_e (FI124 149) (FI124 121 67) := by rw [show FI124 149 = FI112 149 from gf_row f126 (c149 hS) (s149 hS) rfl rfl, show FI124 121 67 = FI112 121 67 from gf_at f126 (c121 hS) (s121 hS) rfl rfl]; exact rl114
                  have rl132 : rl_t (FI124 149) (FL46 150) := by rw [show FI124 149 = FI112 149 from gf_row f126 (c149 hS) (s149 hS) rfl rfl]; exact rl115
                  have rl133 : rl_w (FI124 121 67) (FI124 149) (FL46 150) (FI124 151) := by rw [show FI124 149 = FI112 149 from gf_row f126 (c149 hS) (s149 hS) rfl rfl, show FI124 151 = FI112 151 from gf_row f126 (c151 hS) (s151 hS) rfl rfl, show FI124 121 67 = FI112 121 67 from gf_at f126 (c121 hS) (s121 hS) rfl rfl]; exact rl116
                  obtain ⟨x134, h135⟩ : ∃ y, FI124 121 68 = y := ⟨_, rfl⟩
                  have h135l := congrArg Int32.toInt h135
                  have b136 := gI_121_68 hI125; rw [h135] at b136
                  have := congrArg Int32.toInt (show FI124 121 67 = x4 from (gf_at f126 (c121 hS) (s121 hS) rfl ((up_k u113 (by decide) ((up_c u107 (by decide) ((gf_at f93 (c121 hS) (s121 hS) rfl ((up_k u82 (by decide) ((up_c u71 (by decide) ((up_c u65 (by decide) ((up_c u59 (by decide) ((up_c u53 (by decide) (kp23)))))))))))))))))))
                  obtain ⟨x137, h138⟩ : ∃ y, FI124 121 69 = y := ⟨_, rfl⟩
                  have h138l := congrArg Int32.toInt h138
                  have := i_rng x137
                  show hw zk base _ _ _ _ _ [] _ _
                  clear u130
                  refine hw_aloadn (aX12_declared 123 rfl) rfl ?_
                  refine hw_aloadn (aX12_declared 124 rfl) rfl ?_
                  refine hw_get (v := .int (x12)) (aX12_declared 125 rfl) wf_RX12_515 (c121 hS) (s121 hS) (by decide) (congrArg Value.int (show FI124 121 78 = x12 from (gf_at f126 (c121 hS) (s121 hS) rfl ((up_k u113 (by decide) ((up_c u107 (by decide) ((gf_at f93 (c121 hS) (s121 hS) rfl ((up_k u82 (by decide) ((up_c u71 (by decide) ((up_c u65 (by decide) ((up_c u59 (by decide) ((up_c u53 (by decide) (kp25)))))))))))))))))))) ?_
                  refine hw_ic (v := (1 : Int32)) (aX12_declared 126 rfl) (by decide) ?_
                  refine xw_iadd (aX12_declared 127 rfl) ?_
                  refine hw_tie (A := ((x12).toInt) + (1)) (i_add rfl (by decide : (1 : Int32).toInt = 1) (by omega) (by omega)) (fun x139 e140 => ?_)
                  refine hv_puti (aX12_declared 128 rfl) wf_RX12_515 (c121 hS) (s121 hS) (by decide) rfl rfl (fun FI141 u142 => ?_)
                  have rl143 : rl_e (FI141 149) (FI141 121 67) := by rw [show FI141 149 = FI124 149 from up_row u142 (by decide) rfl, show FI141 121 67 = FI124 121 67 from up_k u142 (by decide) rfl]; exact rl131
                  have rl144 : rl_t (FI141 149) (FL46 150) := by rw [show FI141 149 = FI124 149 from up_row u142 (by decide) rfl]; exact rl132
                  have rl145 : rl_w (FI141 121 67) (FI141 149) (FL46 150) (FI141 151) := by rw [show FI141 149 = FI124 149 from up_row u142 (by decide) rfl, show FI141 151 = FI124 151 from up_row u142 (by decide) rfl, show FI141 121 67 = FI124 121 67 from up_k u142 (by decide) rfl]; exact rl133
                  have hI146 : g_I FI141 := gU_121_78 hI125 u142 (by have := (e140 : (x139).toInt = ((x12).toInt) + (1)); omega) (by have := (e140 : (x139).toInt = ((x12).toInt) + (1)); omega)
                  refine hw_aloadn (aX12_declared 129 rfl) rfl ?_
                  refine hw_get (v := .ref (base + 161)) (aX12_declared 130 rfl) wf_RX12_141 (c121 hS) (s121 hS) (by decide) (congrArg (fun r => va_rf (h_rf base r)) (r121_82 hF)) ?_
                  refine hw_aloadn (aX12_declared 131 rfl) rfl ?_
                  refine hw_get (v := .int (x139)) (aX12_declared 132 rfl) wf_RX12_515 (c121 hS) (s121 hS) (by decide) (congrArg Value.int (show FI141 121 78 = x139 from up_eq u142)) ?_
                  refine hw_aloadn (aX12_declared 133 rfl) rfl ?_
                  refine hw_get (v := .int (x9)) (aX12_declared 134 rfl) wf_RX12_493 (c121 hS) (s121 hS) (by decide) (congrArg Value.int (show FI141 121 73 = x9 from (up_k u142 (by decide) ((gf_at f126 (c121 hS) (s121 hS) rfl ((up_k u113 (by decide) ((up_c u107 (by decide) ((gf_at f93 (c121 hS) (s121 hS) rfl ((up_k u82 (by decide) ((up_c u71 (by decide) ((up_c u65 (by decide) ((up_c u59 (by decide) ((up_c u53 (by decide) (kp24)))))))))))))))))))))) ?_
                  refine hv_iast (k := (x139).toNatClampNeg) (aX12_declared 135 rfl) (c161 hS) (s161 hS) (h_in e140 (by omega) (by omega)) rfl (fun FI147 u148 => ?_)
                  have rl149 : rl_e (FI147 149) (FI147 121 67) := by rw [show FI147 149 = FI141 149 from up_row u148 (by decide) rfl, show FI147 121 67 = FI141 121 67 from up_c u148 (by decide) rfl]; exact rl143
                  have rl150 : rl_t (FI147 149) (FL46 150) := by rw [show FI147 149 = FI141 149 from up_row u148 (by decide) rfl]; exact rl144
                  have rl151 : rl_w (FI147 121 67) (FI147 149) (FL46 150) (FI147 151) := by rw [show FI147 149 = FI141 149 from up_row u148 (by decide) rfl, show FI147 151 = FI141 151 from up_row u148 (by decide) rfl, show FI147 121 67 = FI141 121 67 from up_c u148 (by decide) rfl]; exact rl145
                  have hI152 : g_I FI147 := gU_161 hI146 u148 (by omega) (by omega)
                  refine xw_vret (aX12_declared 136 rfl) rfl ?_
                  exact ⟨rfl, FI147, FL46, rfl, hI152, (gf_a (gf_f (gf_tr ex_rf (gf_f (gf_a (gf_tr ex_rf (gf_f (gf_a (gf_a (gf_a (gf_a fr20 u53 (by decide)) u59 (by decide)) u65 (by decide)) u71 (by decide)) u82 (by decide)) f93 rfl rfl rfl) u107 (by decide)) u113 (by decide)) f126 rfl rfl rfl) u142 (by decide)) u148 (by decide)), (gf_a gf_rf u47 (by decide)), (by have := congrArg Int32.toInt (show FI147 121 67 = x4 from (up_c u148 (by decide) ((up_k u142 (by decide) ((gf_at f126 (c121 hS) (s121 hS) rfl ((up_k u113 (by decide) ((up_c u107 (by decide) ((gf_at f93 (c121 hS) (s121 hS) rfl ((up_k u82 (by decide) ((up_c u71 (by decide) ((up_c u65 (by decide) ((up_c u59 (by decide) ((up_c u53 (by decide) (kp23))))))))))))))))))))))); have := congrArg Int32.toInt (show FI147 121 68 = x134 from (up_c u148 (by decide) ((up_k u142 (by decide) (h135))))); omega), (by have := congrArg Int32.toInt (show FI147 121 68 = x134 from (up_c u148 (by decide) ((up_k u142 (by decide) (h135))))); have := congrArg Int32.toInt (show FI147 121 69 = x137 from (up_c u148 (by decide) ((up_k u142 (by decide) (h138))))); have := congrArg Int32.toInt (show FI147 121 73 = x9 from (up_c u148 (by decide) ((up_k u142 (by decide) ((gf_at f126 (c121 hS) (s121 hS) rfl ((up_k u113 (by decide) ((up_c u107 (by decide) ((gf_at f93 (c121 hS) (s121 hS) rfl ((up_k u82 (by decide) ((up_c u71 (by decide) ((up_c u65 (by decide) ((up_c u59 (by decide) ((up_c u53 (by decide) (kp24))))))))))))))))))))))); omega), (by have := congrArg Int32.toInt (show FI147 121 68 = x134 from (up_c u148 (by decide) ((up_k u142 (by decide) (h135))))); have := congrArg Int32.toInt (show FI147 121 69 = x137 from (up_c u148 (by decide) ((up_k u142 (by decide) (h138))))); omega), (by have := congrArg Int32.toInt (show FI147 121 69 = x137 from (up_c u148 (by decide) ((up_k u142 (by decide) (h138))))); exact fun h => absurd h (by omega)), (by have := congrArg Int32.toInt (show FI147 121 69 = x137 from (up_c u148 (by decide) ((up_k u142 (by decide) (h138))))); exact fun h => absurd h (by omega)), (by have := congrArg Int32.toInt (show FI147 121 69 = x137 from (up_c u148 (by decide) ((up_k u142 (by decide) (h138))))); exact fun h => absurd h (by omega))⟩
                · omega
              · refine hw_aloadn (aX12_declared 105 rfl) rfl ?_
                refine hw_get (v := .ref (base + 149)) (aX12_declared 106 rfl) wf_RX12_105 (c121 hS) (s121 hS) (by decide) (congrArg (fun r => va_rf (h_rf base r)) (r121_62 hF)) ?_
                refine hw_aloadn (aX12_declared 107 rfl) rfl ?_
                refine hw_get (v := .int (x101)) (aX12_declared 108 rfl) wf_RX12_478 (c121 hS) (s121 hS) (by decide) (congrArg Value.int (show FI112 121 68 = x101 from (up_k u113 (by decide) ((up_c u107 (by decide) (h102)))))) ?_
                obtain ⟨x153, h154⟩ : ∃ y, FI112 149 (x101).toNatClampNeg = y := ⟨_, rfl⟩
                have h154l := congrArg Int32.toInt h154
                have := i_rng x153
                refine hw_iald (v := x153) (aX12_declared 109 rfl) (c149 hS) (s149 hS) (h_in rfl (by omega) (by omega)) (show FI112 149 (x101).toNatClampNeg = x153 from h154) ?_
                refine hw_ic (v := (3 : Int32)) (aX12_declared 110 rfl) (by decide) ?_
                refine hw_icne (tgt := 212) (aX12_declared 111 rfl) (by decide) rfl (by decide : (3 : Int32).toInt = 3) (fun cd155 => ?_) (fun cd155 => ?_)
                · refine hw_aloadn (aX12_declared 115 rfl) rfl ?_
                  refine hw_get (v := .int (x104)) (aX12_declared 116 rfl) wf_RX12_475 (c121 hS) (s121 hS) (by decide) (congrArg Value.int (show FI112 121 69 = x104 from (up_k u113 (by decide) ((up_c u107 (by decide) (h105)))))) ?_
                  refine hw_ifne (tgt := 223) (aX12_declared 117 rfl) (by decide) rfl (fun cd156 => ?_) (fun cd156 => ?_)
                  · omega
                  · refine hw_aloadn (aX12_declared 118 rfl) rfl ?_
                    have := congrArg Int32.toInt (show FI112 121 68 = x101 from (up_k u113 (by decide) ((up_c u107 (by decide) (h102)))))
                    have := congrArg Int32.toInt (show FI112 121 69 = x104 from (up_k u113 (by decide) ((up_c u107 (by decide) (h105)))))
                    have := congrArg Int32.toInt (show FI112 121 73 = x9 from (up_k u113 (by decide) ((up_c u107 (by decide) ((gf_at f93 (c121 hS) (s121 hS) rfl ((up_k u82 (by decide) ((up_c u71 (by decide) ((up_c u65 (by decide) ((up_c u59 (by decide) ((up_c u53 (by decide) (kp24)))))))))))))))))
                    have := congrArg Int32.toInt (show FI112 121 71 = (0 : Int32) from up_eq u113)
                    have := congrArg Int32.toInt (show FI112 121 78 = x12 from (up_k u113 (by decide) ((up_c u107 (by decide) ((gf_at f93 (c121 hS) (s121 hS) rfl ((up_k u82 (by decide) ((up_c u71 (by decide) ((up_c u65 (by decide) ((up_c u59 (by decide) ((up_c u53 (by decide) (kp25)))))))))))))))))
                    have := congrArg Int32.toInt (show FI112 121 67 = x4 from (up_k u113 (by decide) ((up_c u107 (by decide) ((gf_at f93 (c121 hS) (s121 hS) rfl ((up_k u82 (by decide) ((up_c u71 (by decide) ((up_c u65 (by decide) ((up_c u59 (by decide) ((up_c u53 (by decide) (kp23)))))))))))))))))
                    have hsg0 := wp_nc rel_wh (t := FI 121 68) (u := FI112 121 68) (by omega)
                    refine hw_callV (Bs := []) (rest := []) (aX12_declared 119 rfl) wc_RX12_532 (by decide) rfl wi_yX12_location wv_yX12_location (c121 hS) (s121 hS) rfl rfl rfl (Nat.le_of_ble_eq_true rfl) (Nat.le_of_ble_eq_true rfl) (n_location (d := d + 1) hS hF hI117 (by have := congrArg Int32.toInt (show FI112 121 68 = x101 from (up_k u113 (by decide) ((up_c u107 (by decide) (h102))))); have := congrArg Int32.toInt (show FI112 121 67 = x4 from (up_k u113 (by decide) ((up_c u107 (by decide) ((gf_at f93 (c121 hS) (s121 hS) rfl ((up_k u82 (by decide) ((up_c u71 (by decide) ((up_c u65 (by decide) ((up_c u59 (by decide) ((up_c u53 (by decide) (kp23))))))))))))))))); omega) (by have := congrArg Int32.toInt (show FI112 121 69 = x104 from (up_k u113 (by decide) ((up_c u107 (by decide) (h105))))); omega) (by have := congrArg Int32.toInt (show FI112 121 73 = x9 from (up_k u113 (by decide) ((up_c u107 (by decide) ((gf_at f93 (c121 hS) (s121 hS) rfl ((up_k u82 (by decide) ((up_c u71 (by decide) ((up_c u65 (by decide) ((up_c u59 (by decide) ((up_c u53 (by decide) (kp24))))))))))))))))); have := congrArg Int32.toInt (show FI112 121 68 = x101 from (up_k u113 (by decide) ((up_c u107 (by decide) (h102))))); omega) (by have := congrArg Int32.toInt (show FI112 121 71 = (0 : Int32) from up_eq u113); have := ((by decide : (0 : Int32).toInt = 0) : ((0 : Int32)).toInt = 0); omega) (by have := congrArg Int32.toInt (show FI112 121 78 = x12 from (up_k u113 (by decide) ((up_c u107 (by decide) ((gf_at f93 (c121 hS) (s121 hS) rfl ((up_k u82 (by decide) ((up_c u71 (by decide) ((up_c u65 (by decide) ((up_c u59 (by decide) ((up_c u53 (by decide) (kp25))))))))))))))))); omega) (show rl_e (FI112 149) (FI112 121 67) from rl114) (show rl_t (FI112 149) (FL46 150) from rl115) (show rl_w (FI112 121 67) (FI112 149) (FL46 150) (FI112 151) from rl116)) (fun v157 sv158 p159 => ?_)
                    have := congrArg Int32.toInt (show FI112 121 68 = x101 from (up_k u113 (by decide) ((up_c u107 (by decide) (h102)))))
                    have := congrArg Int32.toInt (show FI112 121 73 = x9 from (up_k u113 (by decide) ((up_c u107 (by decide) ((gf_at f93 (c121 hS) (s121 hS) rfl ((up_k u82 (by decide) ((up_c u71 (by decide) ((up_c u65 (by decide) ((up_c u59 (by decide) ((up_c u53 (by decide) (kp24)))))))))))))))))
                    have := congrArg Int32.toInt (show FI112 121 68 = x101 from (up_k u113 (by decide) ((up_c u107 (by decide) (h102)))))
                    have := congrArg Int32.toInt (show FI112 121 73 = x9 from (up_k u113 (by decide) ((up_c u107 (by decide) ((gf_at f93 (c121 hS) (s121 hS) rfl ((up_k u82 (by decide) ((up_c u71 (by decide) ((up_c u65 (by decide) ((up_c u59 (by decide) ((up_c u53 (by decide) (kp24)))))))))))))))))
                    obtain ⟨rfl, FI161, rfl, hI162, f163, t164, t165, t166, t167, t168, u169, u170, u171⟩ := p159
                    have rl172 : rl_e (FI161 149) (FI161 121 67) := by rw [show FI161 149 = FI112 149 from gf_row f163 (c149 hS) (s149 hS) rfl rfl, show FI161 121 67 = FI112 121 67 from gf_at f163 (c121 hS) (s121 hS) rfl rfl]; exact rl114
                    have rl173 : rl_t (FI161 149) (FL46 150) := by rw [show FI161 149 = FI112 149 from gf_row f163 (c149 hS) (s149 hS) rfl rfl]; exact rl115
                    have rl174 : rl_w (FI161 121 67) (FI161 149) (FL46 150) (FI161 151) := by rw [show FI161 149 = FI112 149 from gf_row f163 (c149 hS) (s149 hS) rfl rfl, show FI161 151 = FI112 151 from gf_row f163 (c151 hS) (s151 hS) rfl rfl, show FI161 121 67 = FI112 121 67 from gf_at f163 (c121 hS) (s121 hS) rfl rfl]; exact rl116
                    obtain ⟨x175, h176⟩ : ∃ y, FI161 121 68 = y := ⟨_, rfl⟩
                    have h176l := congrArg Int32.toInt h176
                    have b177 := gI_121_68 hI162; rw [h176] at b177
                    have := congrArg Int32.toInt (show FI161 121 67 = x4 from (gf_at f163 (c121 hS) (s121 hS) rfl ((up_k u113 (by decide) ((up_c u107 (by decide) ((gf_at f93 (c121 hS) (s121 hS) rfl ((up_k u82 (by decide) ((up_c u71 (by decide) ((up_c u65 (by decide) ((up_c u59 (by decide) ((up_c u53 (by decide) (kp23)))))))))))))))))))
                    obtain ⟨x178, h179⟩ : ∃ y, FI161 121 73 = y := ⟨_, rfl⟩
                    have h179l := congrArg Int32.toInt h179
                    have b180 := gI_121_73 hI162; rw [h179] at b180
                    obtain ⟨x181, h182⟩ : ∃ y, FI161 121 71 = y := ⟨_, rfl⟩
                    have h182l := congrArg Int32.toInt h182
                    have := i_rng x181
                    show hw zk base _ _ _ _ _ [] _ _
                    have := congrArg Int32.toInt (show FI161 121 68 = x175 from h176)
                    obtain ⟨x183, h184⟩ : ∃ y, FI161 121 69 = y := ⟨_, rfl⟩
                    have h184l := congrArg Int32.toInt h184
                    have := i_rng x183
                    have := congrArg Int32.toInt (show FI161 121 69 = x183 from h184)
                    have := congrArg Int32.toInt (show FI161 121 73 = x178 from h179)
                    have hg3 := hid_i u169; clear u169
                    have hw3 := u171; rw [show FI112 151 = FI 151 from (up_row u113 (by decide) ((up_row u107 (by decide) ((gf_row f93 (c151 hS) (s151 hS) rfl ((up_row u82 (by decide) ((up_row u71 (by decide) ((up_row u65 (by decide) ((up_row u59 (by decide) ((up_row u53 (by decide) (rw34))))))))))))))))] at hw3; clear u171
                    have hsh : hid ((FI161 121 69).toInt = 0 → (FI161 121 73).toInt - 4 * wp (FI 151) (FI161 121 68) ≤ (FI 121 73).toInt - 4 * wp (FI 151) (FI 121 68) + 4) := hid_i (fun h => by have h1 := hw3 h; omega); clear hw3 hsg0
                    refine hw_aloadn (aX12_declared 120 rfl) rfl ?_
                    refine hw_bp (v := (59 : Int32)) (aX12_declared 121 rfl) (by decide) ?_
                    refine hw_callV (Bs := [.int ((59 : Int32))]) (rest := []) (aX12_declared 122 rfl) wc_RX12_527 (by decide) rfl wi_yX12_need wv_yX12_need (c121 hS) (s121 hS) rfl rfl rfl (Nat.le_of_ble_eq_true rfl) (Nat.le_of_ble_eq_true rfl) (n_need (d := d + 8) hS hF hI162 ((59 : Int32)) (by have := congrArg Int32.toInt (show FI161 121 68 = x175 from h176); have := congrArg Int32.toInt (show FI161 121 67 = x4 from (gf_at f163 (c121 hS) (s121 hS) rfl ((up_k u113 (by decide) ((up_c u107 (by decide) ((gf_at f93 (c121 hS) (s121 hS) rfl ((up_k u82 (by decide) ((up_c u71 (by decide) ((up_c u65 (by decide) ((up_c u59 (by decide) ((up_c u53 (by decide) (kp23))))))))))))))))))); omega) (show rl_e (FI161 149) (FI161 121 67) from rl172)) (fun v185 sv186 p187 => ?_)
                    have := congrArg Int32.toInt (show FI161 121 68 = x175 from h176)
                    have := congrArg Int32.toInt (show FI161 121 69 = x183 from h184)
                    have := congrArg Int32.toInt (show FI161 121 68 = x175 from h176)
                    have := congrArg Int32.toInt (show FI161 121 68 = x175 from h176)
                    obtain ⟨rfl, FI189, rfl, hI190, f191, t192, t193, t194, u195⟩ := p187
                    have rl196 : rl_e (FI189 149) (FI189 121 67) := by rw [show FI189 149 = FI161 149 from gf_row f191 (c149 hS) (s149 hS) rfl rfl, show FI189 121 67 = FI161 121 67 from gf_at f191 (c121 hS) (s121 hS) rfl rfl]; exact rl172
                    have rl197 : rl_t (FI189 149) (FL46 150) := by rw [show FI189 149 = FI161 149 from gf_row f191 (c149 hS) (s149 hS) rfl rfl]; exact rl173
                    have rl198 : rl_w (FI189 121 67) (FI189 149) (FL46 150) (FI189 151) := by rw [show FI189 149 = FI161 149 from gf_row f191 (c149 hS) (s149 hS) rfl rfl, show FI189 151 = FI161 151 from gf_row f191 (c151 hS) (s151 hS) rfl rfl, show FI189 121 67 = FI161 121 67 from gf_at f191 (c121 hS) (s121 hS) rfl rfl]; exact rl174
                    obtain ⟨x199, h200⟩ : ∃ y, FI189 121 68 = y := ⟨_, rfl⟩
                    have h200l := congrArg Int32.toInt h200
                    have b201 := gI_121_68 hI190; rw [h200] at b201
                    have := congrArg Int32.toInt (show FI189 121 67 = x4 from (gf_at f191 (c121 hS) (s121 hS) rfl ((gf_at f163 (c121 hS) (s121 hS) rfl ((up_k u113 (by decide) ((up_c u107 (by decide) ((gf_at f93 (c121 hS) (s121 hS) rfl ((up_k u82 (by decide) ((up_c u71 (by decide) ((up_c u65 (by decide) ((up_c u59 (by decide) ((up_c u53 (by decide) (kp23)))))))))))))))))))))
                    obtain ⟨x202, h203⟩ : ∃ y, FI189 121 69 = y := ⟨_, rfl⟩
                    have h203l := congrArg Int32.toInt h203
                    have := i_rng x202
                    show hw zk base _ _ _ _ _ [] _ _
                    clear u195
                    refine hw_aloadn (aX12_declared 123 rfl) rfl ?_
                    refine hw_aloadn (aX12_declared 124 rfl) rfl ?_
                    refine hw_get (v := .int (x12)) (aX12_declared 125 rfl) wf_RX12_515 (c121 hS) (s121 hS) (by decide) (congrArg Value.int (show FI189 121 78 = x12 from (gf_at f191 (c121 hS) (s121 hS) rfl ((gf_at f163 (c121 hS) (s121 hS) rfl ((up_k u113 (by decide) ((up_c u107 (by decide) ((gf_at f93 (c121 hS) (s121 hS) rfl ((up_k u82 (by decide) ((up_c u71 (by decide) ((up_c u65 (by decide) ((up_c u59 (by decide) ((up_c u53 (by decide) (kp25)))))))))))))))))))))) ?_
                    refine hw_ic (v := (1 : Int32)) (aX12_declared 126 rfl) (by decide) ?_
                    refine xw_iadd (aX12_declared 127 rfl) ?_
                    refine hw_tie (A := ((x12).toInt) + (1)) (i_add rfl (by decide : (1 : Int32).toInt = 1) (by omega) (by omega)) (fun x204 e205 => ?_)
                    refine hv_puti (aX12_declared 128 rfl) wf_RX12_515 (c121 hS) (s121 hS) (by decide) rfl rfl (fun FI206 u207 => ?_)
                    have rl208 : rl_e (FI206 149) (FI206 121 67) := by rw [show FI206 149 = FI189 149 from up_row u207 (by decide) rfl, show FI206 121 67 = FI189 121 67 from up_k u207 (by decide) rfl]; exact rl196
                    have rl209 : rl_t (FI206 149) (FL46 150) := by rw [show FI206 149 = FI189 149 from up_row u207 (by decide) rfl]; exact rl197
                    have rl210 : rl_w (FI206 121 67) (FI206 149) (FL46 150) (FI206 151) := by rw [show FI206 149 = FI189 149 from up_row u207 (by decide) rfl, show FI206 151 = FI189 151 from up_row u207 (by decide) rfl, show FI206 121 67 = FI189 121 67 from up_k u207 (by decide) rfl]; exact rl198
                    have hI211 : g_I FI206 := gU_121_78 hI190 u207 (by have := (e205 : (x204).toInt = ((x12).toInt) + (1)); omega) (by have := (e205 : (x204).toInt = ((x12).toInt) + (1)); omega)
                    refine hw_aloadn (aX12_declared 129 rfl) rfl ?_
                    refine hw_get (v := .ref (base + 161)) (aX12_declared 130 rfl) wf_RX12_141 (c121 hS) (s121 hS) (by decide) (congrArg (fun r => va_rf (h_rf base r)) (r121_82 hF)) ?_
                    refine hw_aloadn (aX12_declared 131 rfl) rfl ?_
                    refine hw_get (v := .int (x204)) (aX12_declared 132 rfl) wf_RX12_515 (c121 hS) (s121 hS) (by decide) (congrArg Value.int (show FI206 121 78 = x204 from up_eq u207)) ?_
                    refine hw_aloadn (aX12_declared 133 rfl) rfl ?_
                    refine hw_get (v := .int (x178)) (aX12_declared 134 rfl) wf_RX12_493 (c121 hS) (s121 hS) (by decide) (congrArg Value.int (show FI206 121 73 = x178 from (up_k u207 (by decide) ((gf_at f191 (c121 hS) (s121 hS) rfl (h179)))))) ?_
                    refine hv_iast (k := (x204).toNatClampNeg) (aX12_declared 135 rfl) (c161 hS) (s161 hS) (h_in e205 (by omega) (by omega)) rfl (fun FI212 u213 => ?_)
                    have rl214 : rl_e (FI212 149) (FI212 121 67) := by rw [show FI212 149 = FI206 149 from up_row u213 (by decide) rfl, show FI212 121 67 = FI206 121 67 from up_c u213 (by decide) rfl]; exact rl208
                    have rl215 : rl_t (FI212 149) (FL46 150) := by rw [show FI212 149 = FI206 149 from up_row u213 (by decide) rfl]; exact rl209
                    have rl216 : rl_w (FI212 121 67) (FI212 149) (FL46 150) (FI212 151) := by rw [show FI212 149 = FI206 149 from up_row u213 (by decide) rfl, show FI212 151 = FI206 151 from up_row u213 (by decide) rfl, show FI212 121 67 = FI206 121 67 from up_c u213 (by decide) rfl]; exact rl210
                    have hI217 : g_I FI212 := gU_161 hI211 u213 (by omega) (by omega)
                    refine xw_vret (aX12_declared 136 rfl) rfl ?_
                    exact ⟨rfl, FI212, FL46, rfl, hI217, (gf_a (gf_f (gf_tr ex_rf (gf_tr ex_rf (gf_f (gf_a (gf_tr ex_rf (gf_f (gf_a (gf_a (gf_a (gf_a fr20 u53 (by decide)) u59 (by decide)) u65 (by decide)) u71 (by decide)) u82 (by decide)) f93 rfl rfl rfl) u107 (by decide)) u113 (by decide)) f163 rfl rfl rfl) f191 rfl rfl rfl) u207 (by decide)) u213 (by decide)), (gf_a gf_rf u47 (by decide)), (by have := congrArg Int32.toInt (show FI212 121 67 = x4 from (up_c u213 (by decide) ((up_k u207 (by decide) ((gf_at f191 (c121 hS) (s121 hS) rfl ((gf_at f163 (c121 hS) (s121 hS) rfl ((up_k u113 (by decide) ((up_c u107 (by decide) ((gf_at f93 (c121 hS) (s121 hS) rfl ((up_k u82 (by decide) ((up_c u71 (by decide) ((up_c u65 (by decide) ((up_c u59 (by decide) ((up_c u53 (by decide) (kp23))))))))))))))))))))))))); have := congrArg Int32.toInt (show FI212 121 68 = x199 from (up_c u213 (by decide) ((up_k u207 (by decide) (h200))))); omega), (by have := congrArg Int32.toInt (show FI212 121 68 = x199 from (up_c u213 (by decide) ((up_k u207 (by decide) (h200))))); have := congrArg Int32.toInt (show FI212 121 69 = x202 from (up_c u213 (by decide) ((up_k u207 (by decide) (h203))))); have := congrArg Int32.toInt (show FI212 121 73 = x178 from (up_c u213 (by decide) ((up_k u207 (by decide) ((gf_at f191 (c121 hS) (s121 hS) rfl (h179))))))); omega), (by have := congrArg Int32.toInt (show FI212 121 68 = x199 from (up_c u213 (by decide) ((up_k u207 (by decide) (h200))))); have := congrArg Int32.toInt (show FI212 121 69 = x202 from (up_c u213 (by decide) ((up_k u207 (by decide) (h203))))); omega), (by have := congrArg Int32.toInt (show FI212 121 68 = x199 from (up_c u213 (by decide) ((up_k u207 (by decide) (h200))))); have := congrArg Int32.toInt (show FI212 121 69 = x202 from (up_c u213 (by decide) ((up_k u207 (by decide) (h203))))); have := congrArg Int32.toInt (show FI212 121 78 = x204 from (up_c u213 (by decide) (up_eq u207))); have := (e205 : (x204).toInt = ((x12).toInt) + (1)); have := congrArg Int32.toInt (show FI212 121 67 = x4 from (up_c u213 (by decide) ((up_k u207 (by decide) ((gf_at f191 (c121 hS) (s121 hS) rfl ((gf_at f163 (c121 hS) (s121 hS) rfl ((up_k u113 (by decide) ((up_c u107 (by decide) ((gf_at f93 (c121 hS) (s121 hS) rfl ((up_k u82 (by decide) ((up_c u71 (by decide) ((up_c u65 (by decide) ((up_c u59 (by decide) ((up_c u53 (by decide) (kp23))))))))))))))))))))))))); intro h69; have hg := hid_e hg3 (by omega); rw [show FI112 149 = FI 149 from (up_row u113 (by decide) ((up_row u107 (by decide) ((gf_row f93 (c149 hS) (s149 hS) rfl ((up_row u82 (by decide) ((up_row u71 (by decide) ((up_row u65 (by decide) ((up_row u59 (by decide) ((up_row u53 (by decide) (rw33)))))))))))))))), show FL46 150 = FL 150 from (up_row u47 (by decide) (rfl)), show FI112 121 68 = x101 from (up_k u113 (by decide) ((up_c u107 (by decide) (h102))))] at hg; have hmv := gg0; rw [show FI 121 78 = x12 from h13] at hmv; rw [show FI212 149 = FI 149 from (up_row u213 (by decide) ((up_row u207 (by decide) ((gf_row f191 (c149 hS) (s149 hS) rfl ((gf_row f163 (c149 hS) (s149 hS) rfl ((up_row u113 (by decide) ((up_row u107 (by decide) ((gf_row f93 (c149 hS) (s149 hS) rfl ((up_row u82 (by decide) ((up_row u71 (by decide) ((up_row u65 (by decide) ((up_row u59 (by decide) ((up_row u53 (by decide) (rw33)))))))))))))))))))))))), show FL46 150 = FL 150 from (up_row u47 (by decide) (rfl)), show FI212 121 67 = FI 121 67 from ((up_c u213 (by decide) ((up_k u207 (by decide) ((gf_at f191 (c121 hS) (s121 hS) rfl ((gf_at f163 (c121 hS) (s121 hS) rfl ((up_k u113 (by decide) ((up_c u107 (by decide) ((gf_at f93 (c121 hS) (s121 hS) rfl ((up_k u82 (by decide) ((up_c u71 (by decide) ((up_c u65 (by decide) ((up_c u59 (by decide) ((up_c u53 (by decide) (kp23))))))))))))))))))))))))).trans (h5).symm, show FI212 160 = va_up (FI 160) ((x12).toNatClampNeg) (x101) from (up_row u213 (by decide) ((up_row u207 (by decide) ((gf_row f191 (c160 hS) (s160 hS) rfl ((gf_row f163 (c160 hS) (s160 hS) rfl ((up_row u113 (by decide) ((up_va u107 ((gf_row f93 (c160 hS) (s160 hS) rfl ((up_row u82 (by decide) ((up_row u71 (by decide) ((up_row u65 (by decide) ((up_row u59 (by decide) ((up_row u53 (by decide) (rw36)))))))))))))))))))))))), show FI212 159 = va_up (FI 159) ((x12).toNatClampNeg) ((0 : Int32)) from (up_row u213 (by decide) ((up_row u207 (by decide) ((gf_row f191 (c159 hS) (s159 hS) rfl ((gf_row f163 (c159 hS) (s159 hS) rfl ((up_row u113 (by decide) ((up_row u107 (by decide) ((gf_row f93 (c159 hS) (s159 hS) rfl ((up_row u82 (by decide) ((up_row u71 (by decide) ((up_va u65 ((up_row u59 (by decide) ((up_row u53 (by decide) (rw35))))))))))))))))))))))))]; exact rl_mv_loc hmv (by omega) (by omega) (by omega) hg), (by have := congrArg Int32.toInt (show FI212 121 69 = x202 from (up_c u213 (by decide) ((up_k u207 (by decide) (h203))))); have := congrArg Int32.toInt (show FI212 121 73 = x178 from (up_c u213 (by decide) ((up_k u207 (by decide) ((gf_at f191 (c121 hS) (s121 hS) rfl (h179))))))); have := congrArg Int32.toInt (show FI212 121 78 = x204 from (up_c u213 (by decide) (up_eq u207))); have := (e205 : (x204).toInt = ((x12).toInt) + (1)); intro h69; have hmb := gg1; rw [show FI 121 78 = x12 from h13, show FI 121 73 = x9 from h10] at hmb; rw [show FI212 161 = va_up (va_up (FI 161) ((x12).toNatClampNeg) (x9)) ((x204).toNatClampNeg) (x178) from (up_va u213 ((up_row u207 (by decide) ((gf_row f191 (c161 hS) (s161 hS) rfl ((gf_row f163 (c161 hS) (s161 hS) rfl ((up_row u113 (by decide) ((up_row u107 (by decide) ((gf_row f93 (c161 hS) (s161 hS) rfl ((up_row u82 (by decide) ((up_row u71 (by decide) ((up_row u65 (by decide) ((up_va u59 ((up_row u53 (by decide) (rw37)))))))))))))))))))))))), show FI212 121 78 = x204 from (up_c u213 (by decide) (up_eq u207)), show FI212 121 73 = x178 from (up_c u213 (by decide) ((up_k u207 (by decide) ((gf_at f191 (c121 hS) (s121 hS) rfl (h179))))))]; exact rl_mb_go hmb (by omega) (by omega) (by omega) (by omega)), (by have := congrArg Int32.toInt (show FI212 121 68 = x199 from (up_c u213 (by decide) ((up_k u207 (by decide) (h200))))); have := congrArg Int32.toInt (show FI212 121 69 = x202 from (up_c u213 (by decide) ((up_k u207 (by decide) (h203))))); have := congrArg Int32.toInt (show FI212 121 73 = x178 from (up_c u213 (by decide) ((up_k u207 (by decide) ((gf_at f191 (c121 hS) (s121 hS) rfl (h179))))))); intro h69; have := hid_e hsh (by omega); have := wp_nc rel_wh (t := FI161 121 68) (u := FI212 121 68) (by omega); omega)⟩
                · refine hw_aloadn (aX12_declared 112 rfl) rfl ?_
                  have := congrArg Int32.toInt (show FI112 121 68 = x101 from (up_k u113 (by decide) ((up_c u107 (by decide) (h102)))))
                  have := congrArg Int32.toInt (show FI112 121 69 = x104 from (up_k u113 (by decide) ((up_c u107 (by decide) (h105)))))
                  have := congrArg Int32.toInt (show FI112 121 73 = x9 from (up_k u113 (by decide) ((up_c u107 (by decide) ((gf_at f93 (c121 hS) (s121 hS) rfl ((up_k u82 (by decide) ((up_c u71 (by decide) ((up_c u65 (by decide) ((up_c u59 (by decide) ((up_c u53 (by decide) (kp24)))))))))))))))))
                  have := congrArg Int32.toInt (show FI112 121 71 = (0 : Int32) from up_eq u113)
                  have := congrArg Int32.toInt (show FI112 121 78 = x12 from (up_k u113 (by decide) ((up_c u107 (by decide) ((gf_at f93 (c121 hS) (s121 hS) rfl ((up_k u82 (by decide) ((up_c u71 (by decide) ((up_c u65 (by decide) ((up_c u59 (by decide) ((up_c u53 (by decide) (kp25)))))))))))))))))
                  have := congrArg Int32.toInt (show FI112 121 67 = x4 from (up_k u113 (by decide) ((up_c u107 (by decide) ((gf_at f93 (c121 hS) (s121 hS) rfl ((up_k u82 (by decide) ((up_c u71 (by decide) ((up_c u65 (by decide) ((up_c u59 (by decide) ((up_c u53 (by decide) (kp23)))))))))))))))))
                  have := congrArg Int32.toInt (show FI112 121 67 = x4 from (up_k u113 (by decide) ((up_c u107 (by decide) ((gf_at f93 (c121 hS) (s121 hS) rfl ((up_k u82 (by decide) ((up_c u71 (by decide) ((up_c u65 (by decide) ((up_c u59 (by decide) ((up_c u53 (by decide) (kp23)))))))))))))))))
                  have hne217 := rl_e_ne rl114 (t := x101) (by omega)
                  have hsg0 := wp_nc rel_wh (t := FI 121 68) (u := FI112 121 68) (by omega)
                  refine hw_callV (Bs := []) (rest := []) (aX12_declared 113 rfl) wc_RX12_530 (by decide) rfl wi_yX12_rows wv_yX12_rows (c121 hS) (s121 hS) rfl rfl rfl (Nat.le_of_ble_eq_true rfl) (Nat.le_of_ble_eq_true rfl) (n_rows (d := d) hS hF hI117 (by have := congrArg Int32.toInt (show FI112 121 68 = x101 from (up_k u113 (by decide) ((up_c u107 (by decide) (h102))))); have := congrArg Int32.toInt (show FI112 121 67 = x4 from (up_k u113 (by decide) ((up_c u107 (by decide) ((gf_at f93 (c121 hS) (s121 hS) rfl ((up_k u82 (by decide) ((up_c u71 (by decide) ((up_c u65 (by decide) ((up_c u59 (by decide) ((up_c u53 (by decide) (kp23))))))))))))))))); omega) (by have := congrArg Int32.toInt (show FI112 121 69 = x104 from (up_k u113 (by decide) ((up_c u107 (by decide) (h105))))); omega) (by have := congrArg Int32.toInt (show FI112 121 73 = x9 from (up_k u113 (by decide) ((up_c u107 (by decide) ((gf_at f93 (c121 hS) (s121 hS) rfl ((up_k u82 (by decide) ((up_c u71 (by decide) ((up_c u65 (by decide) ((up_c u59 (by decide) ((up_c u53 (by decide) (kp24))))))))))))))))); have := congrArg Int32.toInt (show FI112 121 68 = x101 from (up_k u113 (by decide) ((up_c u107 (by decide) (h102))))); omega) (by have := congrArg Int32.toInt (show FI112 121 71 = (0 : Int32) from up_eq u113); have := ((by decide : (0 : Int32).toInt = 0) : ((0 : Int32)).toInt = 0); omega) (by have := congrArg Int32.toInt (show FI112 121 78 = x12 from (up_k u113 (by decide) ((up_c u107 (by decide) ((gf_at f93 (c121 hS) (s121 hS) rfl ((up_k u82 (by decide) ((up_c u71 (by decide) ((up_c u65 (by decide) ((up_c u59 (by decide) ((up_c u53 (by decide) (kp25))))))))))))))))); omega) (by rw [show FI112 121 78 = x12 from (up_k u113 (by decide) ((up_c u107 (by decide) ((gf_at f93 (c121 hS) (s121 hS) rfl ((up_k u82 (by decide) ((up_c u71 (by decide) ((up_c u65 (by decide) ((up_c u59 (by decide) ((up_c u53 (by decide) (kp25)))))))))))))))), show FI112 159 (x12).toNatClampNeg = (0 : Int32) from (up_c u113 (by decide) ((up_c u107 (by decide) ((gf_at f93 (c159 hS) (s159 hS) rfl ((up_c u82 (by decide) ((up_c u71 (by decide) (up_eq u65))))))))))]; decide) (show rl_e (FI112 149) (FI112 121 67) from rl114) (show rl_t (FI112 149) (FL46 150) from rl115) (show rl_w (FI112 121 67) (FI112 149) (FL46 150) (FI112 151) from rl116)) (fun v218 sv219 p220 => ?_)
                  have := congrArg Int32.toInt (show FI112 121 68 = x101 from (up_k u113 (by decide) ((up_c u107 (by decide) (h102)))))
                  have := congrArg Int32.toInt (show FI112 121 73 = x9 from (up_k u113 (by decide) ((up_c u107 (by decide) ((gf_at f93 (c121 hS) (s121 hS) rfl ((up_k u82 (by decide) ((up_c u71 (by decide) ((up_c u65 (by decide) ((up_c u59 (by decide) ((up_c u53 (by decide) (kp24)))))))))))))))))
                  have := congrArg Int32.toInt (show FI112 121 68 = x101 from (up_k u113 (by decide) ((up_c u107 (by decide) (h102)))))
                  have := congrArg Int32.toInt (show FI112 121 73 = x9 from (up_k u113 (by decide) ((up_c u107 (by decide) ((gf_at f93 (c121 hS) (s121 hS) rfl ((up_k u82 (by decide) ((up_c u71 (by decide) ((up_c u65 (by decide) ((up_c u59 (by decide) ((up_c u53 (by decide) (kp24)))))))))))))))))
                  obtain ⟨rfl, FI222, rfl, hI223, f224, t225, t226, t227, t228, u229, u230, u231⟩ := p220
                  have rl232 : rl_e (FI222 149) (FI222 121 67) := by rw [show FI222 149 = FI112 149 from gf_row f224 (c149 hS) (s149 hS) rfl rfl, show FI222 121 67 = FI112 121 67 from gf_at f224 (c121 hS) (s121 hS) rfl rfl]; exact rl114
                  have rl233 : rl_t (FI222 149) (FL46 150) := by rw [show FI222 149 = FI112 149 from gf_row f224 (c149 hS) (s149 hS) rfl rfl]; exact rl115
                  have rl234 : rl_w (FI222 121 67) (FI222 149) (FL46 150) (FI222 151) := by rw [show FI222 149 = FI112 149 from gf_row f224 (c149 hS) (s149 hS) rfl rfl, show FI222 151 = FI112 151 from gf_row f224 (c151 hS) (s151 hS) rfl rfl, show FI222 121 67 = FI112 121 67 from gf_at f224 (c121 hS) (s121 hS) rfl rfl]; exact rl116
                  obtain ⟨x235, h236⟩ : ∃ y, FI222 121 68 = y := ⟨_, rfl⟩
                  have h236l := congrArg Int32.toInt h236
                  have b237 := gI_121_68 hI223; rw [h236] at b237
                  have := congrArg Int32.toInt (show FI222 121 67 = x4 from (gf_at f224 (c121 hS) (s121 hS) rfl ((up_k u113 (by decide) ((up_c u107 (by decide) ((gf_at f93 (c121 hS) (s121 hS) rfl ((up_k u82 (by decide) ((up_c u71 (by decide) ((up_c u65 (by decide) ((up_c u59 (by decide) ((up_c u53 (by decide) (kp23)))))))))))))))))))
                  obtain ⟨x238, h239⟩ : ∃ y, FI222 121 73 = y := ⟨_, rfl⟩
                  have h239l := congrArg Int32.toInt h239
                  have b240 := gI_121_73 hI223; rw [h239] at b240
                  show hw zk base _ _ _ _ _ [] _ _
                  have := congrArg Int32.toInt (show FI222 121 68 = x235 from h236)
                  obtain ⟨x241, h242⟩ : ∃ y, FI222 121 69 = y := ⟨_, rfl⟩
                  have h242l := congrArg Int32.toInt h242
                  have := i_rng x241
                  have := congrArg Int32.toInt (show FI222 121 69 = x241 from h242)
                  have := congrArg Int32.toInt (show FI222 121 73 = x238 from h239)
                  have hg3 := hid_i u229; clear u229
                  have hw3 := u230; rw [show FI112 151 = FI 151 from (up_row u113 (by decide) ((up_row u107 (by decide) ((gf_row f93 (c151 hS) (s151 hS) rfl ((up_row u82 (by decide) ((up_row u71 (by decide) ((up_row u65 (by decide) ((up_row u59 (by decide) ((up_row u53 (by decide) (rw34))))))))))))))))] at hw3
                  have h93 := u231
                  clear u230 u231
                  have hsh : hid ((FI222 121 69).toInt = 0 → (FI222 121 73).toInt - 4 * wp (FI 151) (FI222 121 68) ≤ (FI 121 73).toInt - 4 * wp (FI 151) (FI 121 68) + 4) := hid_i (fun h => by have h1 := hw3 h; omega); clear hw3 hsg0
                  refine xw_goto (tgt := 223) (aX12_declared 114 rfl) (by decide) ?_
                  refine hw_aloadn (aX12_declared 120 rfl) rfl ?_
                  refine hw_bp (v := (59 : Int32)) (aX12_declared 121 rfl) (by decide) ?_
                  refine hw_callV (Bs := [.int ((59 : Int32))]) (rest := []) (aX12_declared 122 rfl) wc_RX12_527 (by decide) rfl wi_yX12_need wv_yX12_need (c121 hS) (s121 hS) rfl rfl rfl (Nat.le_of_ble_eq_true rfl) (Nat.le_of_ble_eq_true rfl) (n_need (d := d + 8) hS hF hI223 ((59 : Int32)) (by have := congrArg Int32.toInt (show FI222 121 68 = x235 from h236); have := congrArg Int32.toInt (show FI222 121 67 = x4 from (gf_at f224 (c121 hS) (s121 hS) rfl ((up_k u113 (by decide) ((up_c u107 (by decide) ((gf_at f93 (c121 hS) (s121 hS) rfl ((up_k u82 (by decide) ((up_c u71 (by decide) ((up_c u65 (by decide) ((up_c u59 (by decide) ((up_c u53 (by decide) (kp23))))))))))))))))))); omega) (show rl_e (FI222 149) (FI222 121 67) from rl232)) (fun v243 sv244 p245 => ?_)
                  have := congrArg Int32.toInt (show FI222 121 68 = x235 from h236)
                  have := congrArg Int32.toInt (show FI222 121 69 = x241 from h242)
                  have := congrArg Int32.toInt (show FI222 121 68 = x235 from h236)
                  have := congrArg Int32.toInt (show FI222 121 68 = x235 from h236)
                  obtain ⟨rfl, FI247, rfl, hI248, f249, t250, t251, t252, u253⟩ := p245
                  have rl254 : rl_e (FI247 149) (FI247 121 67) := by rw [show FI247 149 = FI222 149 from gf_row f249 (c149 hS) (s149 hS) rfl rfl, show FI247 121 67 = FI222 121 67 from gf_at f249 (c121 hS) (s121 hS) rfl rfl]; exact rl232
                  have rl255 : rl_t (FI247 149) (FL46 150) := by rw [show FI247 149 = FI222 149 from gf_row f249 (c149 hS) (s149 hS) rfl rfl]; exact rl233
                  have rl256 : rl_w (FI247 121 67) (FI247 149) (FL46 150) (FI247 151) := by rw [show FI247 149 = FI222 149 from gf_row f249 (c149 hS) (s149 hS) rfl rfl, show FI247 151 = FI222 151 from gf_row f249 (c151 hS) (s151 hS) rfl rfl, show FI247 121 67 = FI222 121 67 from gf_at f249 (c121 hS) (s121 hS) rfl rfl]; exact rl234
                  obtain ⟨x257, h258⟩ : ∃ y, FI247 121 68 = y := ⟨_, rfl⟩
                  have h258l := congrArg Int32.toInt h258
                  have b259 := gI_121_68 hI248; rw [h258] at b259
                  have := congrArg Int32.toInt (show FI247 121 67 = x4 from (gf_at f249 (c121 hS) (s121 hS) rfl ((gf_at f224 (c121 hS) (s121 hS) rfl ((up_k u113 (by decide) ((up_c u107 (by decide) ((gf_at f93 (c121 hS) (s121 hS) rfl ((up_k u82 (by decide) ((up_c u71 (by decide) ((up_c u65 (by decide) ((up_c u59 (by decide) ((up_c u53 (by decide) (kp23)))))))))))))))))))))
                  obtain ⟨x260, h261⟩ : ∃ y, FI247 121 69 = y := ⟨_, rfl⟩
                  have h261l := congrArg Int32.toInt h261
                  have := i_rng x260
                  show hw zk base _ _ _ _ _ [] _ _
                  clear u253
                  refine hw_aloadn (aX12_declared 123 rfl) rfl ?_
                  refine hw_aloadn (aX12_declared 124 rfl) rfl ?_
                  refine hw_get (v := .int (x12)) (aX12_declared 125 rfl) wf_RX12_515 (c121 hS) (s121 hS) (by decide) (congrArg Value.int (show FI247 121 78 = x12 from (gf_at f249 (c121 hS) (s121 hS) rfl ((gf_at f224 (c121 hS) (s121 hS) rfl ((up_k u113 (by decide) ((up_c u107 (by decide) ((gf_at f93 (c121 hS) (s121 hS) rfl ((up_k u82 (by decide) ((up_c u71 (by decide) ((up_c u65 (by decide) ((up_c u59 (by decide) ((up_c u53 (by decide) (kp25)))))))))))))))))))))) ?_
                  refine hw_ic (v := (1 : Int32)) (aX12_declared 126 rfl) (by decide) ?_
                  refine xw_iadd (aX12_declared 127 rfl) ?_
                  refine hw_tie (A := ((x12).toInt) + (1)) (i_add rfl (by decide : (1 : Int32).toInt = 1) (by omega) (by omega)) (fun x262 e263 => ?_)
                  refine hv_puti (aX12_declared 128 rfl) wf_RX12_515 (c121 hS) (s121 hS) (by decide) rfl rfl (fun FI264 u265 => ?_)
                  have rl266 : rl_e (FI264 149) (FI264 121 67) := by rw [show FI264 149 = FI247 149 from up_row u265 (by decide) rfl, show FI264 121 67 = FI247 121 67 from up_k u265 (by decide) rfl]; exact rl254
                  have rl267 : rl_t (FI264 149) (FL46 150) := by rw [show FI264 149 = FI247 149 from up_row u265 (by decide) rfl]; exact rl255
                  have rl268 : rl_w (FI264 121 67) (FI264 149) (FL46 150) (FI264 151) := by rw [show FI264 149 = FI247 149 from up_row u265 (by decide) rfl, show FI264 151 = FI247 151 from up_row u265 (by decide) rfl, show FI264 121 67 = FI247 121 67 from up_k u265 (by decide) rfl]; exact rl256
                  have hI269 : g_I FI264 := gU_121_78 hI248 u265 (by have := (e263 : (x262).toInt = ((x12).toInt) + (1)); omega) (by have := (e263 : (x262).toInt = ((x12).toInt) + (1)); omega)
                  refine hw_aloadn (aX12_declared 129 rfl) rfl ?_
                  refine hw_get (v := .ref (base + 161)) (aX12_declared 130 rfl) wf_RX12_141 (c121 hS) (s121 hS) (by decide) (congrArg (fun r => va_rf (h_rf base r)) (r121_82 hF)) ?_
                  refine hw_aloadn (aX12_declared 131 rfl) rfl ?_
                  refine hw_get (v := .int (x262)) (aX12_declared 132 rfl) wf_RX12_515 (c121 hS) (s121 hS) (by decide) (congrArg Value.int (show FI264 121 78 = x262 from up_eq u265)) ?_
                  refine hw_aloadn (aX12_declared 133 rfl) rfl ?_
                  refine hw_get (v := .int (x238)) (aX12_declared 134 rfl) wf_RX12_493 (c121 hS) (s121 hS) (by decide) (congrArg Value.int (show FI264 121 73 = x238 from (up_k u265 (by decide) ((gf_at f249 (c121 hS) (s121 hS) rfl (h239)))))) ?_
                  refine hv_iast (k := (x262).toNatClampNeg) (aX12_declared 135 rfl) (c161 hS) (s161 hS) (h_in e263 (by omega) (by omega)) rfl (fun FI270 u271 => ?_)
                  have rl272 : rl_e (FI270 149) (FI270 121 67) := by rw [show FI270 149 = FI264 149 from up_row u271 (by decide) rfl, show FI270 121 67 = FI264 121 67 from up_c u271 (by decide) rfl]; exact rl266
                  have rl273 : rl_t (FI270 149) (FL46 150) := by rw [show FI270 149 = FI264 149 from up_row u271 (by decide) rfl]; exact rl267
                  have rl274 : rl_w (FI270 121 67) (FI270 149) (FL46 150) (FI270 151) := by rw [show FI270 149 = FI264 149 from up_row u271 (by decide) rfl, show FI270 151 = FI264 151 from up_row u271 (by decide) rfl, show FI270 121 67 = FI264 121 67 from up_c u271 (by decide) rfl]; exact rl268
                  have hI275 : g_I FI270 := gU_161 hI269 u271 (by omega) (by omega)
                  refine xw_vret (aX12_declared 136 rfl) rfl ?_
                  exact ⟨rfl, FI270, FL46, rfl, hI275, (gf_a (gf_f (gf_tr ex_rf (gf_tr ex_rf (gf_f (gf_a (gf_tr ex_rf (gf_f (gf_a (gf_a (gf_a (gf_a fr20 u53 (by decide)) u59 (by decide)) u65 (by decide)) u71 (by decide)) u82 (by decide)) f93 rfl rfl rfl) u107 (by decide)) u113 (by decide)) f224 rfl rfl rfl) f249 rfl rfl rfl) u265 (by decide)) u271 (by decide)), (gf_a gf_rf u47 (by decide)), (by have := congrArg Int32.toInt (show FI270 121 67 = x4 from (up_c u271 (by decide) ((up_k u265 (by decide) ((gf_at f249 (c121 hS) (s121 hS) rfl ((gf_at f224 (c121 hS) (s121 hS) rfl ((up_k u113 (by decide) ((up_c u107 (by decide) ((gf_at f93 (c121 hS) (s121 hS) rfl ((up_k u82 (by decide) ((up_c u71 (by decide) ((up_c u65 (by decide) ((up_c u59 (by decide) ((up_c u53 (by decide) (kp23))))))))))))))))))))))))); have := congrArg Int32.toInt (show FI270 121 68 = x257 from (up_c u271 (by decide) ((up_k u265 (by decide) (h258))))); omega), (by have := congrArg Int32.toInt (show FI270 121 68 = x257 from (up_c u271 (by decide) ((up_k u265 (by decide) (h258))))); have := congrArg Int32.toInt (show FI270 121 69 = x260 from (up_c u271 (by decide) ((up_k u265 (by decide) (h261))))); have := congrArg Int32.toInt (show FI270 121 73 = x238 from (up_c u271 (by decide) ((up_k u265 (by decide) ((gf_at f249 (c121 hS) (s121 hS) rfl (h239))))))); omega), (by have := congrArg Int32.toInt (show FI270 121 68 = x257 from (up_c u271 (by decide) ((up_k u265 (by decide) (h258))))); have := congrArg Int32.toInt (show FI270 121 69 = x260 from (up_c u271 (by decide) ((up_k u265 (by decide) (h261))))); omega), (by have := congrArg Int32.toInt (show FI270 121 68 = x257 from (up_c u271 (by decide) ((up_k u265 (by decide) (h258))))); have := congrArg Int32.toInt (show FI270 121 69 = x260 from (up_c u271 (by decide) ((up_k u265 (by decide) (h261))))); have := congrArg Int32.toInt (show FI270 121 78 = x262 from (up_c u271 (by decide) (up_eq u265))); have := (e263 : (x262).toInt = ((x12).toInt) + (1)); have := congrArg Int32.toInt (show FI270 121 67 = x4 from (up_c u271 (by decide) ((up_k u265 (by decide) ((gf_at f249 (c121 hS) (s121 hS) rfl ((gf_at f224 (c121 hS) (s121 hS) rfl ((up_k u113 (by decide) ((up_c u107 (by decide) ((gf_at f93 (c121 hS) (s121 hS) rfl ((up_k u82 (by decide) ((up_c u71 (by decide) ((up_c u65 (by decide) ((up_c u59 (by decide) ((up_c u53 (by decide) (kp23))))))))))))))))))))))))); intro h69; have hg := hid_e hg3 (by omega); rw [show FI112 149 = FI 149 from (up_row u113 (by decide) ((up_row u107 (by decide) ((gf_row f93 (c149 hS) (s149 hS) rfl ((up_row u82 (by decide) ((up_row u71 (by decide) ((up_row u65 (by decide) ((up_row u59 (by decide) ((up_row u53 (by decide) (rw33)))))))))))))))), show FL46 150 = FL 150 from (up_row u47 (by decide) (rfl)), show FI112 121 68 = x101 from (up_k u113 (by decide) ((up_c u107 (by decide) (h102))))] at hg; have hmv := gg0; rw [show FI 121 78 = x12 from h13] at hmv; rw [show FI270 149 = FI 149 from (up_row u271 (by decide) ((up_row u265 (by decide) ((gf_row f249 (c149 hS) (s149 hS) rfl ((gf_row f224 (c149 hS) (s149 hS) rfl ((up_row u113 (by decide) ((up_row u107 (by decide) ((gf_row f93 (c149 hS) (s149 hS) rfl ((up_row u82 (by decide) ((up_row u71 (by decide) ((up_row u65 (by decide) ((up_row u59 (by decide) ((up_row u53 (by decide) (rw33)))))))))))))))))))))))), show FL46 150 = FL 150 from (up_row u47 (by decide) (rfl)), show FI270 121 67 = FI 121 67 from ((up_c u271 (by decide) ((up_k u265 (by decide) ((gf_at f249 (c121 hS) (s121 hS) rfl ((gf_at f224 (c121 hS) (s121 hS) rfl ((up_k u113 (by decide) ((up_c u107 (by decide) ((gf_at f93 (c121 hS) (s121 hS) rfl ((up_k u82 (by decide) ((up_c u71 (by decide) ((up_c u65 (by decide) ((up_c u59 (by decide) ((up_c u53 (by decide) (kp23))))))))))))))))))))))))).trans (h5).symm, show FI270 160 = va_up (FI 160) ((x12).toNatClampNeg) (x101) from (up_row u271 (by decide) ((up_row u265 (by decide) ((gf_row f249 (c160 hS) (s160 hS) rfl ((gf_row f224 (c160 hS) (s160 hS) rfl ((up_row u113 (by decide) ((up_va u107 ((gf_row f93 (c160 hS) (s160 hS) rfl ((up_row u82 (by decide) ((up_row u71 (by decide) ((up_row u65 (by decide) ((up_row u59 (by decide) ((up_row u53 (by decide) (rw36)))))))))))))))))))))))), show FI270 159 = FI222 159 from (up_row u271 (by decide) ((up_row u265 (by decide) ((gf_row f249 (c159 hS) (s159 hS) rfl (rfl))))))]; have h9 := h93 (by omega); rw [show FI112 121 78 = x12 from (up_k u113 (by decide) ((up_c u107 (by decide) ((gf_at f93 (c121 hS) (s121 hS) rfl ((up_k u82 (by decide) ((up_c u71 (by decide) ((up_c u65 (by decide) ((up_c u59 (by decide) ((up_c u53 (by decide) (kp25)))))))))))))))), show FI112 159 = va_up (FI 159) ((x12).toNatClampNeg) ((0 : Int32)) from (up_row u113 (by decide) ((up_row u107 (by decide) ((gf_row f93 (c159 hS) (s159 hS) rfl ((up_row u82 (by decide) ((up_row u71 (by decide) ((up_va u65 ((up_row u59 (by decide) ((up_row u53 (by decide) (rw35))))))))))))))))] at h9; rw [show FI112 121 78 = x12 from (up_k u113 (by decide) ((up_c u107 (by decide) ((gf_at f93 (c121 hS) (s121 hS) rfl ((up_k u82 (by decide) ((up_c u71 (by decide) ((up_c u65 (by decide) ((up_c u59 (by decide) ((up_c u53 (by decide) (kp25))))))))))))))))] at hg; exact rl_mv_rws hmv (by omega) (by omega) (fun i hi => by rw [h9 i hi]; simp only [va_up, if_neg hi]) hg (by omega)), (by have := congrArg Int32.toInt (show FI270 121 69 = x260 from (up_c u271 (by decide) ((up_k u265 (by decide) (h261))))); have := congrArg Int32.toInt (show FI270 121 73 = x238 from (up_c u271 (by decide) ((up_k u265 (by decide) ((gf_at f249 (c121 hS) (s121 hS) rfl (h239))))))); have := congrArg Int32.toInt (show FI270 121 78 = x262 from (up_c u271 (by decide) (up_eq u265))); have := (e263 : (x262).toInt = ((x12).toInt) + (1)); intro h69; have hmb := gg1; rw [show FI 121 78 = x12 from h13, show FI 121 73 = x9 from h10] at hmb; rw [show FI270 161 = va_up (va_up (FI 161) ((x12).toNatClampNeg) (x9)) ((x262).toNatClampNeg) (x238) from (up_va u271 ((up_row u265 (by decide) ((gf_row f249 (c161 hS) (s161 hS) rfl ((gf_row f224 (c161 hS) (s161 hS) rfl ((up_row u113 (by decide) ((up_row u107 (by decide) ((gf_row f93 (c161 hS) (s161 hS) rfl ((up_row u82 (by decide) ((up_row u71 (by decide) ((up_row u65 (by decide) ((up_va u59 ((up_row u53 (by decide) (rw37)))))))))))))))))))))))), show FI270 121 78 = x262 from (up_c u271 (by decide) (up_eq u265)), show FI270 121 73 = x238 from (up_c u271 (by decide) ((up_k u265 (by decide) ((gf_at f249 (c121 hS) (s121 hS) rfl (h239))))))]; exact rl_mb_go hmb (by omega) (by omega) (by omega) (by omega)), (by have := congrArg Int32.toInt (show FI270 121 68 = x257 from (up_c u271 (by decide) ((up_k u265 (by decide) (h258))))); have := congrArg Int32.toInt (show FI270 121 69 = x260 from (up_c u271 (by decide) ((up_k u265 (by decide) (h261))))); have := congrArg Int32.toInt (show FI270 121 73 = x238 from (up_c u271 (by decide) ((up_k u265 (by decide) ((gf_at f249 (c121 hS) (s121 hS) rfl (h239))))))); intro h69; have := hid_e hsh (by omega); have := wp_nc rel_wh (t := FI222 121 68) (u := FI270 121 68) (by omega); omega)⟩
            · refine xw_vret (aX12_declared 43 rfl) rfl ?_
              exact ⟨rfl, FIv19, FL, rfl, hI21, fr20, gf_rf, (by have := congrArg Int32.toInt (show FIv19 121 67 = x4 from kp23); have := congrArg Int32.toInt (show FIv19 121 68 = x1 from kp22); omega), (by have := congrArg Int32.toInt (show FIv19 121 68 = x1 from kp22); have := congrArg Int32.toInt (show FIv19 121 69 = x41 from h42); have := congrArg Int32.toInt (show FIv19 121 73 = x9 from kp24); omega), (by have := congrArg Int32.toInt (show FIv19 121 68 = x1 from kp22); have := congrArg Int32.toInt (show FIv19 121 69 = x41 from h42); omega), (by have := congrArg Int32.toInt (show FIv19 121 69 = x41 from h42); exact fun h => absurd h (by omega)), (by have := congrArg Int32.toInt (show FIv19 121 69 = x41 from h42); exact fun h => absurd h (by omega)), (by have := congrArg Int32.toInt (show FIv19 121 69 = x41 from h42); exact fun h => absurd h (by omega))⟩
          · refine hw_aloadn (aX12_declared 37 rfl) rfl ?_
            refine hw_bp (v := (6 : Int32)) (aX12_declared 38 rfl) (by decide) ?_
            refine hw_callV (Bs := [.int ((6 : Int32))]) (rest := []) (aX12_declared 39 rfl) wc_RX12_487 (by decide) rfl wi_yX12_fail wv_yX12_fail (c121 hS) (s121 hS) rfl rfl rfl (Nat.le_of_ble_eq_true rfl) (Nat.le_of_ble_eq_true rfl) (n_fail (d := d + 9) hS hF hI21 ((6 : Int32)) (by have := ((by decide : (6 : Int32).toInt = 6) : ((6 : Int32)).toInt = 6); omega)) (fun v276 sv277 p278 => ?_)
            obtain ⟨rfl, FI280, rfl, hI281, f282, t283⟩ := p278
            have rl284 : rl_e (FI280 149) (FI280 121 67) := by rw [show FI280 149 = FIv19 149 from gf_row f282 (c149 hS) (s149 hS) rfl rfl, show FI280 121 67 = FIv19 121 67 from gf_at f282 (c121 hS) (s121 hS) rfl rfl]; exact rl27
            have rl285 : rl_t (FI280 149) (FL 150) := by rw [show FI280 149 = FIv19 149 from gf_row f282 (c149 hS) (s149 hS) rfl rfl]; exact rl28
            have rl286 : rl_w (FI280 121 67) (FI280 149) (FL 150) (FI280 151) := by rw [show FI280 149 = FIv19 149 from gf_row f282 (c149 hS) (s149 hS) rfl rfl, show FI280 151 = FIv19 151 from gf_row f282 (c151 hS) (s151 hS) rfl rfl, show FI280 121 67 = FIv19 121 67 from gf_at f282 (c121 hS) (s121 hS) rfl rfl]; exact rl29
            obtain ⟨x287, h288⟩ : ∃ y, FI280 121 69 = y := ⟨_, rfl⟩
            have h288l := congrArg Int32.toInt h288
            have := i_rng x287
            show hw zk base _ _ _ _ _ [] _ _
            refine hw_aloadn (aX12_declared 40 rfl) rfl ?_
            refine hw_get (v := .int (x287)) (aX12_declared 41 rfl) wf_RX12_475 (c121 hS) (s121 hS) (by decide) (congrArg Value.int (show FI280 121 69 = x287 from h288)) ?_
            refine hw_ifeq (tgt := 82) (aX12_declared 42 rfl) (by decide) rfl (fun cd289 => ?_) (fun cd289 => ?_)
            · omega
            · refine xw_vret (aX12_declared 43 rfl) rfl ?_
              exact ⟨rfl, FI280, FL, rfl, hI281, (gf_tr ex_rf fr20 f282 rfl rfl rfl), gf_rf, (by have := congrArg Int32.toInt (show FI280 121 67 = x4 from (gf_at f282 (c121 hS) (s121 hS) rfl (kp23))); have := congrArg Int32.toInt (show FI280 121 68 = x1 from (gf_at f282 (c121 hS) (s121 hS) rfl (kp22))); omega), (by have := congrArg Int32.toInt (show FI280 121 68 = x1 from (gf_at f282 (c121 hS) (s121 hS) rfl (kp22))); have := congrArg Int32.toInt (show FI280 121 69 = x287 from h288); have := congrArg Int32.toInt (show FI280 121 73 = x9 from (gf_at f282 (c121 hS) (s121 hS) rfl (kp24))); omega), (by have := congrArg Int32.toInt (show FI280 121 68 = x1 from (gf_at f282 (c121 hS) (s121 hS) rfl (kp22))); have := congrArg Int32.toInt (show FI280 121 69 = x287 from h288); omega), (by have := congrArg Int32.toInt (show FI280 121 69 = x287 from h288); exact fun h => absurd h (by omega)), (by have := congrArg Int32.toInt (show FI280 121 69 = x287 from h288); exact fun h => absurd h (by omega)), (by have := congrArg Int32.toInt (show FI280 121 69 = x287 from h288); exact fun h => absurd h (by omega))⟩
        · refine hw_aloadn (aX12_declared 17 rfl) rfl ?_
          refine hw_get (v := .ref (base + 158)) (aX12_declared 18 rfl) wf_RX12_132 (c121 hS) (s121 hS) (by decide) (congrArg (fun r => va_rf (h_rf base r)) (r121_79 hF)) ?_
          refine xw_iloadn (aX12_declared 19 rfl) rfl ?_
          obtain ⟨x290, h291⟩ : ∃ y, FL 158 (y1).toNatClampNeg = y := ⟨_, rfl⟩
          have h291l := congrArg Int64.toInt h291
          have := l_rng x290
          refine hw_lald (v := x290) (aX12_declared 20 rfl) (c158 hS) (s158 hS) (h_in rfl (by omega) (by omega)) (show FL 158 (y1).toNatClampNeg = x290 from h291) ?_
          refine hw_aloadn (aX12_declared 21 rfl) rfl ?_
          refine hw_get (v := .ref (base + 150)) (aX12_declared 22 rfl) wf_RX12_108 (c121 hS) (s121 hS) (by decide) (congrArg (fun r => va_rf (h_rf base r)) (r121_63 hF)) ?_
          refine hw_aloadn (aX12_declared 23 rfl) rfl ?_
          refine hw_get (v := .int (x1)) (aX12_declared 24 rfl) wf_RX12_478 (c121 hS) (s121 hS) (by decide) (congrArg Value.int (show FIv19 121 68 = x1 from kp22)) ?_
          obtain ⟨x292, h293⟩ : ∃ y, FL 150 (x1).toNatClampNeg = y := ⟨_, rfl⟩
          have h293l := congrArg Int64.toInt h293
          have := l_rng x292
          refine hw_lald (v := x292) (aX12_declared 25 rfl) (c150 hS) (s150 hS) (h_in rfl (by omega) (by omega)) (show FL 150 (x1).toNatClampNeg = x292 from h293) ?_
          refine hw_lcne (tgt := 53) (aX12_declared 26 rfl) (aX12_declared 27 rfl) (by decide) rfl rfl (fun cd294 => ?_) (fun cd294 => ?_)
          · obtain ⟨x295, q297⟩ : ∃ y : Int32, (y1) + Int32.ofInt (1) = y := ⟨_, rfl⟩
            have e296 : (x295).toInt = (y1).toInt + (1) := by rw [← q297]; exact i_add rfl (by decide) (by omega) (by omega)
            refine xw_iinc (L2 := [(1, .int (x295)), (0, .ref (base + 121))]) (aX12_declared 31 rfl) rfl (by decide) (by rw [q297]; rfl) ?_
            refine xw_goto (tgt := 21) (aX12_declared 32 rfl) (by decide) ?_
            exact hw_L (ih (x295) FIv19 fr20 hI21 (show FIv19 121 68 = x1 from kp22) (show FIv19 121 67 = x4 from kp23) (show FIv19 121 73 = x9 from kp24) (show FIv19 121 78 = x12 from kp25) (show FIv19 149 (x1).toNatClampNeg = x16 from kp26) (show rl_e (FIv19 149) (FIv19 121 67) from rl27) (show rl_t (FIv19 149) (FL 150) from rl28) (show rl_w (FIv19 121 67) (FIv19 149) (FL 150) (FIv19 151) from rl29) (by have := (e296 : (x295).toInt = (y1).toInt + (1)); omega) (by have := (e296 : (x295).toInt = (y1).toInt + (1)); have := congrArg Int32.toInt (show FIv19 121 78 = x12 from kp25); omega) (by have := (e296 : (x295).toInt = (y1).toInt + (1)); have := congrArg Int32.toInt (show FIv19 121 78 = x12 from kp25); omega) (show FIv19 149 = FI 149 from rw33) (show FIv19 151 = FI 151 from rw34) (show FIv19 159 = FI 159 from rw35) (show FIv19 160 = FI 160 from rw36) (show FIv19 161 = FI 161 from rw37) (by have := (e296 : (x295).toInt = (y1).toInt + (1)); have := congrArg Int32.toInt (show FIv19 121 78 = x12 from kp25); omega)) ⟨rfl, rfl, trivial⟩
          · refine hw_aloadn (aX12_declared 28 rfl) rfl ?_
            refine hw_ic (v := (4 : Int32)) (aX12_declared 29 rfl) (by decide) ?_
            refine hw_callV (Bs := [.int ((4 : Int32))]) (rest := []) (aX12_declared 30 rfl) wc_RX12_487 (by decide) rfl wi_yX12_fail wv_yX12_fail (c121 hS) (s121 hS) rfl rfl rfl (Nat.le_of_ble_eq_true rfl) (Nat.le_of_ble_eq_true rfl) (n_fail (d := d + 9) hS hF hI21 ((4 : Int32)) (by have := ((by decide : (4 : Int32).toInt = 4) : ((4 : Int32)).toInt = 4); omega)) (fun v298 sv299 p300 => ?_)
            obtain ⟨rfl, FI302, rfl, hI303, f304, t305⟩ := p300
            have rl306 : rl_e (FI302 149) (FI302 121 67) := by rw [show FI302 149 = FIv19 149 from gf_row f304 (c149 hS) (s149 hS) rfl rfl, show FI302 121 67 = FIv19 121 67 from gf_at f304 (c121 hS) (s121 hS) rfl rfl]; exact rl27
            have rl307 : rl_t (FI302 149) (FL 150) := by rw [show FI302 149 = FIv19 149 from gf_row f304 (c149 hS) (s149 hS) rfl rfl]; exact rl28
            have rl308 : rl_w (FI302 121 67) (FI302 149) (FL 150) (FI302 151) := by rw [show FI302 149 = FIv19 149 from gf_row f304 (c149 hS) (s149 hS) rfl rfl, show FI302 151 = FIv19 151 from gf_row f304 (c151 hS) (s151 hS) rfl rfl, show FI302 121 67 = FIv19 121 67 from gf_at f304 (c121 hS) (s121 hS) rfl rfl]; exact rl29
            obtain ⟨x309, h310⟩ : ∃ y, FI302 121 69 = y := ⟨_, rfl⟩
            have h310l := congrArg Int32.toInt h310
            have := i_rng x309
            show hw zk base _ _ _ _ _ [] _ _
            obtain ⟨x311, q313⟩ : ∃ y : Int32, (y1) + Int32.ofInt (1) = y := ⟨_, rfl⟩
            have e312 : (x311).toInt = (y1).toInt + (1) := by rw [← q313]; exact i_add rfl (by decide) (by omega) (by omega)
            refine xw_iinc (L2 := [(1, .int (x311)), (0, .ref (base + 121))]) (aX12_declared 31 rfl) rfl (by decide) (by rw [q313]; rfl) ?_
            refine xw_goto (tgt := 21) (aX12_declared 32 rfl) (by decide) ?_
            exact hw_L (ih (x311) FI302 (gf_tr ex_rf fr20 f304 rfl rfl rfl) hI303 (show FI302 121 68 = x1 from (gf_at f304 (c121 hS) (s121 hS) rfl (kp22))) (show FI302 121 67 = x4 from (gf_at f304 (c121 hS) (s121 hS) rfl (kp23))) (show FI302 121 73 = x9 from (gf_at f304 (c121 hS) (s121 hS) rfl (kp24))) (show FI302 121 78 = x12 from (gf_at f304 (c121 hS) (s121 hS) rfl (kp25))) (show FI302 149 (x1).toNatClampNeg = x16 from (gf_at f304 (c149 hS) (s149 hS) rfl (kp26))) (show rl_e (FI302 149) (FI302 121 67) from rl306) (show rl_t (FI302 149) (FL 150) from rl307) (show rl_w (FI302 121 67) (FI302 149) (FL 150) (FI302 151) from rl308) (by have := (e312 : (x311).toInt = (y1).toInt + (1)); omega) (by have := (e312 : (x311).toInt = (y1).toInt + (1)); have := congrArg Int32.toInt (show FI302 121 78 = x12 from (gf_at f304 (c121 hS) (s121 hS) rfl (kp25))); omega) (by have := (e312 : (x311).toInt = (y1).toInt + (1)); have := congrArg Int32.toInt (show FI302 121 78 = x12 from (gf_at f304 (c121 hS) (s121 hS) rfl (kp25))); omega) (show FI302 149 = FI 149 from (gf_row f304 (c149 hS) (s149 hS) rfl (rw33))) (show FI302 151 = FI 151 from (gf_row f304 (c151 hS) (s151 hS) rfl (rw34))) (show FI302 159 = FI 159 from (gf_row f304 (c159 hS) (s159 hS) rfl (rw35))) (show FI302 160 = FI 160 from (gf_row f304 (c160 hS) (s160 hS) rfl (rw36))) (show FI302 161 = FI 161 from (gf_row f304 (c161 hS) (s161 hS) rfl (rw37))) (by have := (e312 : (x311).toInt = (y1).toInt + (1)); have := congrArg Int32.toInt (show FI302 121 78 = x12 from (gf_at f304 (c121 hS) (s121 hS) rfl (kp25))); omega)) ⟨rfl, rfl, trivial⟩
    exact hw_L (lp38 (((x12).toInt - 0 : Int).toNat + 1) ((0 : Int32)) FI gf_rf hI (show FI 121 68 = x1 from h2) (show FI 121 67 = x4 from h5) (show FI 121 73 = x9 from h10) (show FI 121 78 = x12 from h13) (show FI 149 (x1).toNatClampNeg = x16 from h17) (show rl_e (FI 149) (FI 121 67) from rel_tend) (show rl_t (FI 149) (FL 150) from rel_tok) (show rl_w (FI 121 67) (FI 149) (FL 150) (FI 151) from rel_wh) (by have := ((by decide : (0 : Int32).toInt = 0) : ((0 : Int32)).toInt = 0); omega) (by have := ((by decide : (0 : Int32).toInt = 0) : ((0 : Int32)).toInt = 0); have := congrArg Int32.toInt (show FI 121 78 = x12 from h13); omega) (by have := ((by decide : (0 : Int32).toInt = 0) : ((0 : Int32)).toInt = 0); have := congrArg Int32.toInt (show FI 121 78 = x12 from h13); omega) (show FI 149 = FI 149 from rfl) (show FI 151 = FI 151 from rfl) (show FI 159 = FI 159 from rfl) (show FI 160 = FI 160 from rfl) (show FI 161 = FI 161 from rfl) (by have := ((by decide : (0 : Int32).toInt = 0) : ((0 : Int32)).toInt = 0); have := congrArg Int32.toInt (show FI 121 78 = x12 from h13); omega)) ⟨rfl, rfl, trivial⟩
  · refine hw_aloadn (aX12_declared 7 rfl) rfl ?_
    refine hw_ic (v := (1 : Int32)) (aX12_declared 8 rfl) (by decide) ?_
    refine hw_callV (Bs := [.int ((1 : Int32))]) (rest := []) (aX12_declared 9 rfl) wc_RX12_487 (by decide) rfl wi_yX12_fail wv_yX12_fail (c121 hS) (s121 hS) rfl rfl rfl (Nat.le_of_ble_eq_true rfl) (Nat.le_of_ble_eq_true rfl) (n_fail (d := d + 9) hS hF hI ((1 : Int32)) (by have := ((by decide : (1 : Int32).toInt = 1) : ((1 : Int32)).toInt = 1); omega)) (fun v314 sv315 p316 => ?_)
    obtain ⟨rfl, FI318, rfl, hI319, f320, t321⟩ := p316
    have rl322 : rl_e (FI318 149) (FI318 121 67) := by rw [show FI318 149 = FI 149 from gf_row f320 (c149 hS) (s149 hS) rfl rfl, show FI318 121 67 = FI 121 67 from gf_at f320 (c121 hS) (s121 hS) rfl rfl]; exact rel_tend
    have rl323 : rl_t (FI318 149) (FL 150) := by rw [show FI318 149 = FI 149 from gf_row f320 (c149 hS) (s149 hS) rfl rfl]; exact rel_tok
    have rl324 : rl_w (FI318 121 67) (FI318 149) (FL 150) (FI318 151) := by rw [show FI318 149 = FI 149 from gf_row f320 (c149 hS) (s149 hS) rfl rfl, show FI318 151 = FI 151 from gf_row f320 (c151 hS) (s151 hS) rfl rfl, show FI318 121 67 = FI 121 67 from gf_at f320 (c121 hS) (s121 hS) rfl rfl]; exact rel_wh
    obtain ⟨x325, h326⟩ : ∃ y, FI318 121 69 = y := ⟨_, rfl⟩
    have h326l := congrArg Int32.toInt h326
    have := i_rng x325
    show hw zk base _ _ _ _ _ [] _ _
    refine xw_vret (aX12_declared 10 rfl) rfl ?_
    exact ⟨rfl, FI318, FL, rfl, hI319, (gf_tr ex_rf gf_rf f320 rfl rfl rfl), gf_rf, (by have := congrArg Int32.toInt (show FI318 121 67 = x4 from (gf_at f320 (c121 hS) (s121 hS) rfl (h5))); have := congrArg Int32.toInt (show FI318 121 68 = x1 from (gf_at f320 (c121 hS) (s121 hS) rfl (h2))); omega), (by have := congrArg Int32.toInt (show FI318 121 68 = x1 from (gf_at f320 (c121 hS) (s121 hS) rfl (h2))); have := congrArg Int32.toInt (show FI318 121 69 = x325 from h326); have := congrArg Int32.toInt (show FI318 121 73 = x9 from (gf_at f320 (c121 hS) (s121 hS) rfl (h10))); omega), (by have := congrArg Int32.toInt (show FI318 121 68 = x1 from (gf_at f320 (c121 hS) (s121 hS) rfl (h2))); have := congrArg Int32.toInt (show FI318 121 69 = x325 from h326); omega), (by have := congrArg Int32.toInt (show FI318 121 69 = x325 from h326); exact fun h => absurd h (by omega)), (by have := congrArg Int32.toInt (show FI318 121 69 = x325 from h326); exact fun h => absurd h (by omega)), (by have := congrArg Int32.toInt (show FI318 121 69 = x325 from h326); exact fun h => absurd h (by omega))⟩
