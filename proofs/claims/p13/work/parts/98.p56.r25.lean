def nX12_variable : Nat := 0xac02ac2e646410601c60681b580211e02e111100b42a1700a22e601b14101400b42a6464101c2700a2e803111c2e00a164101cac60151006150800a760601006150b00a31a10061506368871c701140416edffa701068404376dc7011404161100a264041d0615063664e803111c04372f1b7b00b42a4600a21d64e803111c4f00a1e803111cac1d0500a0051cac2e601b14101400b42a0d00a0041cac2e1b7e00b42a0a009a1cedffa704376dc7011404163e60041d12009e9409041604372f1b7b00b42a3e03ac020500a10c02b42a1b0b009b1bbb00b5032a
theorem bX12_variable : cX12_variable.data.toList.map UInt8.toNat = x_un nX12_variable 218 := by decide +kernel
def iX12_variable : List (Nat × Jvm.ClassFile.Instr × Nat) := [(0, .aload_n 0, 1), (1, .iconst 0, 1), (2, .putfield 187, 3), (5, .iload_n 1, 1), (6, .ifCond .lt 11, 3), (9, .iload_n 1, 1), (10, .aload_n 0, 1), (11, .getfield 524, 3), (14, .if_icmp .lt 5, 3), (17, .iconst (-1), 1), (18, .ireturn, 1), (19, .iconst 0, 1), (20, .istore_n 3, 1), (21, .aload_n 0, 1), (22, .getfield 123, 3), (25, .iload_n 1, 1), (26, .laload, 1), (27, .lstore 4, 2), (29, .lload 4, 2), (31, .lconst 0, 1), (32, .lcmp, 1), (33, .ifCond .le 18, 3), (36, .iload_n 3, 1), (37, .iconst 1, 1), (38, .iadd, 1), (39, .istore_n 3, 1), (40, .lload 4, 2), (42, .ldc2_w 455, 3), (45, .ldiv, 1), (46, .lstore 4, 2), (48, .goto (-19), 3), (51, .iload_n 2, 1), (52, .ifCond .ne 10, 3), (55, .aload_n 0, 1), (56, .getfield 126, 3), (59, .iload_n 1, 1), (60, .iaload, 1), (61, .ireturn, 1), (62, .iload_n 2, 1), (63, .iconst 1, 1), (64, .if_icmp .ne 13, 3), (67, .aload_n 0, 1), (68, .getfield 20, 3), (71, .bipush 20, 2), (73, .iload_n 1, 1), (74, .iadd, 1), (75, .iaload, 1), (76, .ireturn, 1), (77, .iload_n 2, 1), (78, .iconst 2, 1), (79, .if_icmp .ne 5, 3), (82, .iload_n 3, 1), (83, .ireturn, 1), (84, .iload_n 2, 1), (85, .sipush 1000, 3), (88, .if_icmp .lt 79, 3), (91, .iload_n 2, 1), (92, .sipush 1000, 3), (95, .isub, 1), (96, .iload_n 3, 1), (97, .if_icmp .ge 70, 3), (100, .aload_n 0, 1), (101, .getfield 123, 3), (104, .iload_n 1, 1), (105, .laload, 1), (106, .lstore 4, 2), (108, .iload_n 2, 1), (109, .sipush 1000, 3), (112, .isub, 1), (113, .istore 6, 2), (115, .iload 6, 2), (117, .iload_n 3, 1), (118, .iconst 1, 1), (119, .isub, 1), (120, .if_icmp .ge 17, 3), (123, .lload 4, 2), (125, .ldc2_w 455, 3), (128, .ldiv, 1), (129, .lstore 4, 2), (131, .iinc 6 1, 3), (134, .goto (-19), 3), (137, .lload 4, 2), (139, .ldc2_w 455, 3), (142, .lrem, 1), (143, .l2i, 1), (144, .istore 6, 2), (146, .iload 6, 2), (148, .bipush 26, 2), (150, .if_icmp .gt 11, 3), (153, .iload 6, 2), (155, .bipush 96, 2), (157, .iadd, 1), (158, .goto 8, 3), (161, .iload 6, 2), (163, .bipush 21, 2), (165, .iadd, 1), (166, .ireturn, 1), (167, .iload_n 2, 1), (168, .bipush 100, 2), (170, .if_icmp .lt 46, 3), (173, .iload_n 2, 1), (174, .sipush 1000, 3), (177, .if_icmp .ge 39, 3), (180, .iload_n 2, 1), (181, .bipush 100, 2), (183, .isub, 1), (184, .aload_n 0, 1), (185, .getfield 20, 3), (188, .bipush 20, 2), (190, .iload_n 1, 1), (191, .iadd, 1), (192, .iaload, 1), (193, .if_icmp .ge 23, 3), (196, .aload_n 0, 1), (197, .getfield 17, 3), (200, .sipush 12000, 3), (203, .sipush 600, 3), (206, .iload_n 1, 1), (207, .imul, 1), (208, .iadd, 1), (209, .iload_n 2, 1), (210, .iadd, 1), (211, .bipush 100, 2), (213, .isub, 1), (214, .iaload, 1), (215, .ireturn, 1), (216, .iconst (-1), 1), (217, .ireturn, 1)]
theorem dX12_variable : x_il nX12_variable 218 iX12_variable = true := by decide +kernel
theorem aX12_variable (k : Nat) {pc : Nat} {i : Jvm.ClassFile.Instr} {len : Nat} (hk : iX12_variable[k]? = some (pc, i, len)) : x_at xMM 251 pc i len yX12_variable 7 (some .int) := ⟨cX12_variable, rfl, x_il_ok bX12_variable dX12_variable k hk⟩
set_option maxHeartbeats 4000000 in
set_option maxRecDepth 100000 in
theorem n_variable {zk : xK} {base d n sl : Nat} {SH : Nat → Nat × Nat} {FI : Nat → Nat → Int32} {FL : Nat → Nat → Int64} {FR : Nat → Nat → Option Nat} (hS : h_S n SH) (hF : h_FR FR) (hI : g_I FI) (a1 : Int32) (a2 : Int32) : hw zk base d none 251 0 [(0, .ref (base + 121)), (1, .int (a1)), (2, .int (a2))] [] (n, sl, SH, FI, FL, FR) (h_I (fun r s => ∃ FI', s = (n, sl, SH, FI', FL, FR) ∧ g_I FI' ∧ g_fr n SH [(121, 0)] [] [] FI FI')) := by
  have rg_a1 := i_rng a1
  have rg_a2 := i_rng a2
  refine hw_aloadn (aX12_variable 0 rfl) rfl ?_
  refine hw_ic (v := (0 : Int32)) (aX12_variable 1 rfl) (by decide) ?_
  refine hv_puti (aX12_variable 2 rfl) wf_RX12_187 (c121 hS) (s121 hS) (by decide) rfl rfl (fun FI1 u2 => ?_)
  have hI3 : g_I FI1 := gU_F hI u2 rfl
  refine xw_iloadn (aX12_variable 3 rfl) rfl ?_
  refine hw_iflt (tgt := 17) (aX12_variable 4 rfl) (by decide) rfl (fun cd4 => ?_) (fun cd4 => ?_)
  · refine hw_ic (v := ((-1) : Int32)) (aX12_variable 9 rfl) (by decide) ?_
    refine xw_iret (aX12_variable 10 rfl) rfl rfl ?_
    have e5 : (((-1) : Int32)).toInt = (-1) := (by decide : ((-1) : Int32).toInt = (-1))
    exact ⟨((-1) : Int32), rfl, FI1, rfl, hI3, (gf_f gf_rf u2 (by decide))⟩
  · refine xw_iloadn (aX12_variable 5 rfl) rfl ?_
    refine hw_aloadn (aX12_variable 6 rfl) rfl ?_
    obtain ⟨x6, h7⟩ : ∃ y, FI1 121 74 = y := ⟨_, rfl⟩
    have h7l := congrArg Int32.toInt h7
    have b8 := gI_121_74 hI3; rw [h7] at b8
    refine hw_get (v := .int (x6)) (aX12_variable 7 rfl) wf_RX12_524 (c121 hS) (s121 hS) (by decide) (congrArg Value.int (show FI1 121 74 = x6 from h7)) ?_
    refine hw_iclt (tgt := 19) (aX12_variable 8 rfl) (by decide) rfl rfl (fun cd9 => ?_) (fun cd9 => ?_)
    · refine hw_ic (v := (0 : Int32)) (aX12_variable 11 rfl) (by decide) ?_
      refine xw_istoren (L2 := [(3, .int ((0 : Int32))), (0, .ref (base + 121)), (1, .int (a1)), (2, .int (a2))]) (aX12_variable 12 rfl) (by decide) rfl ?_
      refine hw_aloadn (aX12_variable 13 rfl) rfl ?_
      refine hw_get (v := .ref (base + 155)) (aX12_variable 14 rfl) wf_RX12_123 (c121 hS) (s121 hS) (by decide) (congrArg (fun r => va_rf (h_rf base r)) (r121_75 hF)) ?_
      refine xw_iloadn (aX12_variable 15 rfl) rfl ?_
      obtain ⟨x10, h11⟩ : ∃ y, FL 155 (a1).toNatClampNeg = y := ⟨_, rfl⟩
      have h11l := congrArg Int64.toInt h11
      have := l_rng x10
      refine hw_lald (v := x10) (aX12_variable 16 rfl) (c155 hS) (s155 hS) (h_in rfl (by omega) (by omega)) (show FL 155 (a1).toNatClampNeg = x10 from h11) ?_
      refine xw_lstore (L2 := [(4, .long (x10)), (3, .int ((0 : Int32))), (0, .ref (base + 121)), (1, .int (a1)), (2, .int (a2))]) (aX12_variable 17 rfl) (by decide) rfl ?_
      have lp13 : ∀ (m : Nat) (y4 : Int64) (y3 : Int32), (0 ≤ (y3).toInt ∧ (y3).toInt ≤ 13) → ((y4).toInt < q37 (13 - (y3).toInt)) → max (y4).toInt 0 < m → hw zk base d none 251 29 [(4, .long (y4)), (3, .int (y3)), (0, .ref (base + 121)), (1, .int (a1)), (2, .int (a2))] [] (n, sl, SH, FI1, FL, FR) (h_I (fun r s => ∃ FI', s = (n, sl, SH, FI', FL, FR) ∧ g_I FI' ∧ g_fr n SH [(121, 0)] [] [] FI FI')) := by
        intro m
        induction m with
        | zero => intro y4 y3 iv12 xi29_0 hm; omega
        | succ m ih =>
          intro y4 y3 iv12 xi29_0 hm
          have rg_y4 := l_rng y4
          have rg_y3 := i_rng y3
          refine xw_lload (aX12_variable 18 rfl) rfl ?_
          refine hw_lc (v := (0 : Int64)) (aX12_variable 19 rfl) (by decide) ?_
          refine hw_lcle (tgt := 51) (aX12_variable 20 rfl) (aX12_variable 21 rfl) (by decide) rfl (by decide : (0 : Int64).toInt = 0) (fun cd14 => ?_) (fun cd14 => ?_)
          · refine xw_iloadn (aX12_variable 31 rfl) rfl ?_
            refine hw_ifne (tgt := 62) (aX12_variable 32 rfl) (by decide) rfl (fun cd15 => ?_) (fun cd15 => ?_)
            · refine xw_iloadn (aX12_variable 38 rfl) rfl ?_
              refine hw_ic (v := (1 : Int32)) (aX12_variable 39 rfl) (by decide) ?_
              refine hw_icne (tgt := 77) (aX12_variable 40 rfl) (by decide) rfl (by decide : (1 : Int32).toInt = 1) (fun cd16 => ?_) (fun cd16 => ?_)
              · refine xw_iloadn (aX12_variable 48 rfl) rfl ?_
                refine hw_ic (v := (2 : Int32)) (aX12_variable 49 rfl) (by decide) ?_
                refine hw_icne (tgt := 84) (aX12_variable 50 rfl) (by decide) rfl (by decide : (2 : Int32).toInt = 2) (fun cd17 => ?_) (fun cd17 => ?_)
                · refine xw_iloadn (aX12_variable 53 rfl) rfl ?_
                  refine hw_sp (v := (1000 : Int32)) (aX12_variable 54 rfl) (by decide) ?_
                  refine hw_iclt (tgt := 167) (aX12_variable 55 rfl) (by decide) rfl (by decide : (1000 : Int32).toInt = 1000) (fun cd18 => ?_) (fun cd18 => ?_)
                  · refine xw_iloadn (aX12_variable 97 rfl) rfl ?_
                    refine hw_bp (v := (100 : Int32)) (aX12_variable 98 rfl) (by decide) ?_
                    refine hw_iclt (tgt := 216) (aX12_variable 99 rfl) (by decide) rfl (by decide : (100 : Int32).toInt = 100) (fun cd19 => ?_) (fun cd19 => ?_)
                    · refine hw_ic (v := ((-1) : Int32)) (aX12_variable 126 rfl) (by decide) ?_
                      refine xw_iret (aX12_variable 127 rfl) rfl rfl ?_
                      have e20 : (((-1) : Int32)).toInt = (-1) := (by decide : ((-1) : Int32).toInt = (-1))
                      exact ⟨((-1) : Int32), rfl, FI1, rfl, hI3, (gf_f gf_rf u2 (by decide))⟩
                    · refine xw_iloadn (aX12_variable 100 rfl) rfl ?_
                      refine hw_sp (v := (1000 : Int32)) (aX12_variable 101 rfl) (by decide) ?_
                      refine hw_icge (tgt := 216) (aX12_variable 102 rfl) (by decide) rfl (by decide : (1000 : Int32).toInt = 1000) (fun cd21 => ?_) (fun cd21 => ?_)
                      · omega
                      · refine xw_iloadn (aX12_variable 103 rfl) rfl ?_
                        refine hw_bp (v := (100 : Int32)) (aX12_variable 104 rfl) (by decide) ?_
                        refine xw_isub (aX12_variable 105 rfl) ?_
                        refine hw_tie (A := ((a2).toInt) - (100)) (i_sub rfl (by decide : (100 : Int32).toInt = 100) (by omega) (by omega)) (fun x22 e23 => ?_)
                        refine hw_aloadn (aX12_variable 106 rfl) rfl ?_
                        refine hw_get (v := .ref (base + 125)) (aX12_variable 107 rfl) wf_RX12_20 (c121 hS) (s121 hS) (by decide) (congrArg (fun r => va_rf (h_rf base r)) (r121_4 hF)) ?_
                        refine hw_bp (v := (20 : Int32)) (aX12_variable 108 rfl) (by decide) ?_
                        refine xw_iloadn (aX12_variable 109 rfl) rfl ?_
                        refine xw_iadd (aX12_variable 110 rfl) ?_
                        refine hw_tie (A := (20) + ((a1).toInt)) (i_add (by decide : (20 : Int32).toInt = 20) rfl (by omega) (by omega)) (fun x24 e25 => ?_)
                        obtain ⟨x26, h27⟩ : ∃ y, FI1 125 (x24).toNatClampNeg = y := ⟨_, rfl⟩
                        have h27l := congrArg Int32.toInt h27
                        have := i_rng x26
                        refine hw_iald (v := x26) (aX12_variable 111 rfl) (c125 hS) (s125 hS) (h_in e25 (by omega) (by omega)) (show FI1 125 (x24).toNatClampNeg = x26 from h27) ?_
                        have b28 := gI_125 hI3 (i_lt (x := x24) e25 (by omega) (by omega)); rw [h27] at b28
                        refine hw_icge (tgt := 216) (aX12_variable 112 rfl) (by decide) e23 rfl (fun cd29 => ?_) (fun cd29 => ?_)
                        · refine hw_ic (v := ((-1) : Int32)) (aX12_variable 126 rfl) (by decide) ?_
                          refine xw_iret (aX12_variable 127 rfl) rfl rfl ?_
                          have e30 : (((-1) : Int32)).toInt = (-1) := (by decide : ((-1) : Int32).toInt = (-1))
                          exact ⟨((-1) : Int32), rfl, FI1, rfl, hI3, (gf_f gf_rf u2 (by decide))⟩
                        · have e31 : 100 ≤ (a2).toInt ∧ (a2).toInt ≤ 999 := by omega
                          refine hw_aloadn (aX12_variable 113 rfl) rfl ?_
                          refine hw_get (v := .ref (base + 124)) (aX12_variable 114 rfl) wf_RX12_17 (c121 hS) (s121 hS) (by decide) (congrArg (fun r => va_rf (h_rf base r)) (r121_3 hF)) ?_
                          refine hw_sp (v := (12000 : Int32)) (aX12_variable 115 rfl) (by decide) ?_
                          refine hw_sp (v := (600 : Int32)) (aX12_variable 116 rfl) (by decide) ?_
                          refine xw_iloadn (aX12_variable 117 rfl) rfl ?_
                          refine xw_imul (aX12_variable 118 rfl) ?_
                          refine hw_tie (A := (600) * ((a1).toInt)) (i_mul (by decide : (600 : Int32).toInt = 600) rfl (by omega) (by omega)) (fun x32 e33 => ?_)
                          refine xw_iadd (aX12_variable 119 rfl) ?_
                          refine hw_tie (A := (12000) + ((600) * ((a1).toInt))) (i_add (by decide : (12000 : Int32).toInt = 12000) e33 (by omega) (by omega)) (fun x34 e35 => ?_)
                          refine xw_iloadn (aX12_variable 120 rfl) rfl ?_
                          refine xw_iadd (aX12_variable 121 rfl) ?_
                          refine hw_tie (A := ((12000) + ((600) * ((a1).toInt))) + ((a2).toInt)) (i_add e35 rfl (by omega) (by omega)) (fun x36 e37 => ?_)
                          refine hw_bp (v := (100 : Int32)) (aX12_variable 122 rfl) (by decide) ?_
                          refine xw_isub (aX12_variable 123 rfl) ?_
                          refine hw_tie (A := (((12000) + ((600) * ((a1).toInt))) + ((a2).toInt)) - (100)) (i_sub e37 (by decide : (100 : Int32).toInt = 100) (by omega) (by omega)) (fun x38 e39 => ?_)
                          obtain ⟨x40, h41⟩ : ∃ y, FI1 124 (x38).toNatClampNeg = y := ⟨_, rfl⟩
                          have h41l := congrArg Int32.toInt h41
                          have := i_rng x40
                          refine hw_iald (v := x40) (aX12_variable 124 rfl) (c124 hS) (s124 hS) (h_in e39 (by omega) (by omega)) (show FI1 124 (x38).toNatClampNeg = x40 from h41) ?_
                          have b42 := gI_124 hI3 (i_lt (x := x38) e39 (by omega) (by omega)); rw [h41] at b42
                          refine xw_iret (aX12_variable 125 rfl) rfl rfl ?_
                          exact ⟨x40, rfl, FI1, rfl, hI3, (gf_f gf_rf u2 (by decide))⟩
                  · refine xw_iloadn (aX12_variable 56 rfl) rfl ?_
                    refine hw_sp (v := (1000 : Int32)) (aX12_variable 57 rfl) (by decide) ?_
                    refine xw_isub (aX12_variable 58 rfl) ?_
                    refine hw_tie (A := ((a2).toInt) - (1000)) (i_sub rfl (by decide : (1000 : Int32).toInt = 1000) (by omega) (by omega)) (fun x43 e44 => ?_)
                    refine xw_iloadn (aX12_variable 59 rfl) rfl ?_
                    refine hw_icge (tgt := 167) (aX12_variable 60 rfl) (by decide) e44 rfl (fun cd45 => ?_) (fun cd45 => ?_)
                    · refine xw_iloadn (aX12_variable 97 rfl) rfl ?_
                      refine hw_bp (v := (100 : Int32)) (aX12_variable 98 rfl) (by decide) ?_
                      refine hw_iclt (tgt := 216) (aX12_variable 99 rfl) (by decide) rfl (by decide : (100 : Int32).toInt = 100) (fun cd46 => ?_) (fun cd46 => ?_)
                      · omega
                      · refine xw_iloadn (aX12_variable 100 rfl) rfl ?_
                        refine hw_sp (v := (1000 : Int32)) (aX12_variable 101 rfl) (by decide) ?_
                        refine hw_icge (tgt := 216) (aX12_variable 102 rfl) (by decide) rfl (by decide : (1000 : Int32).toInt = 1000) (fun cd47 => ?_) (fun cd47 => ?_)
                        · refine hw_ic (v := ((-1) : Int32)) (aX12_variable 126 rfl) (by decide) ?_
                          refine xw_iret (aX12_variable 127 rfl) rfl rfl ?_
                          have e48 : (((-1) : Int32)).toInt = (-1) := (by decide : ((-1) : Int32).toInt = (-1))
                          exact ⟨((-1) : Int32), rfl, FI1, rfl, hI3, (gf_f gf_rf u2 (by decide))⟩
                        · omega
                    · refine hw_aloadn (aX12_variable 61 rfl) rfl ?_
                      refine hw_get (v := .ref (base + 155)) (aX12_variable 62 rfl) wf_RX12_123 (c121 hS) (s121 hS) (by decide) (congrArg (fun r => va_rf (h_rf base r)) (r121_75 hF)) ?_
                      refine xw_iloadn (aX12_variable 63 rfl) rfl ?_
                      refine hw_lald (v := x10) (aX12_variable 64 rfl) (c155 hS) (s155 hS) (h_in rfl (by omega) (by omega)) (show FL 155 (a1).toNatClampNeg = x10 from h11) ?_
                      refine xw_lstore (L2 := [(4, .long (x10)), (3, .int (y3)), (0, .ref (base + 121)), (1, .int (a1)), (2, .int (a2))]) (aX12_variable 65 rfl) (by decide) rfl ?_
                      refine xw_iloadn (aX12_variable 66 rfl) rfl ?_
                      refine hw_sp (v := (1000 : Int32)) (aX12_variable 67 rfl) (by decide) ?_
                      refine xw_isub (aX12_variable 68 rfl) ?_
                      refine hw_tie (A := ((a2).toInt) - (1000)) (i_sub rfl (by decide : (1000 : Int32).toInt = 1000) (by omega) (by omega)) (fun x49 e50 => ?_)
                      refine xw_istore (L2 := [(6, .int (x49)), (4, .long (x10)), (3, .int (y3)), (0, .ref (base + 121)), (1, .int (a1)), (2, .int (a2))]) (aX12_variable 69 rfl) (by decide) rfl ?_
                      have lp52 : ∀ (m : Nat) (y6 : Int32) (y4_51 : Int64), max ((y3).toInt - (y6).toInt) 0 < m → hw zk base d none 251 115 [(6, .int (y6)), (4, .long (y4_51)), (3, .int (y3)), (0, .ref (base + 121))] [] (n, sl, SH, FI1, FL, FR) (h_I (fun r s => ∃ FI', s = (n, sl, SH, FI', FL, FR) ∧ g_I FI' ∧ g_fr n SH [(121, 0)] [] [] FI FI')) := by
                        intro m
                        induction m with
                        | zero => intro y6 y4_51 hm; omega
                        | succ m ih115 =>
                          intro y6 y4_51 hm
                          have rg_y6 := i_rng y6
                          have rg_y4_51 := l_rng y4_51
                          refine xw_iload (aX12_variable 70 rfl) rfl ?_
                          refine xw_iloadn (aX12_variable 71 rfl) rfl ?_
                          refine hw_ic (v := (1 : Int32)) (aX12_variable 72 rfl) (by decide) ?_
                          refine xw_isub (aX12_variable 73 rfl) ?_
                          refine hw_tie (A := ((y3).toInt) - (1)) (i_sub rfl (by decide : (1 : Int32).toInt = 1) (by omega) (by omega)) (fun x53 e54 => ?_)
                          refine hw_icge (tgt := 137) (aX12_variable 74 rfl) (by decide) rfl e54 (fun cd55 => ?_) (fun cd55 => ?_)
                          · refine xw_lload (aX12_variable 81 rfl) rfl ?_
                            refine xw_ldc2 (aX12_variable 82 rfl) wk_RX12_455 ?_
                            refine xw_lrem (aX12_variable 83 rfl) (l_ne0 (by decide : (37 : Int64).toInt = 37) (by omega)) ?_
                            refine hw_tl (fun x56 => ?_)
                            have b57 := l_rng x56
                            refine xw_l2i (aX12_variable 84 rfl) ?_
                            refine hw_ti (fun x58 => ?_)
                            have b59 := i_rng x58
                            refine xw_istore (L2 := [(6, .int (x58)), (4, .long (y4_51)), (3, .int (y3)), (0, .ref (base + 121))]) (aX12_variable 85 rfl) (by decide) rfl ?_
                            refine xw_iload (aX12_variable 86 rfl) rfl ?_
                            refine hw_bp (v := (26 : Int32)) (aX12_variable 87 rfl) (by decide) ?_
                            refine hw_icgt (tgt := 161) (aX12_variable 88 rfl) (by decide) rfl (by decide : (26 : Int32).toInt = 26) (fun cd60 => ?_) (fun cd60 => ?_)
                            · refine xw_iload (aX12_variable 93 rfl) rfl ?_
                              refine hw_bp (v := (21 : Int32)) (aX12_variable 94 rfl) (by decide) ?_
                              refine xw_iadd (aX12_variable 95 rfl) ?_
                              refine hw_ti (fun x61 => ?_)
                              have b62 := i_rng x61
                              refine xw_iret (aX12_variable 96 rfl) rfl rfl ?_
                              exact ⟨x61, rfl, FI1, rfl, hI3, (gf_f gf_rf u2 (by decide))⟩
                            · refine xw_iload (aX12_variable 89 rfl) rfl ?_
                              refine hw_bp (v := (96 : Int32)) (aX12_variable 90 rfl) (by decide) ?_
                              refine xw_iadd (aX12_variable 91 rfl) ?_
                              refine hw_tie (A := ((x58).toInt) + (96)) (i_add rfl (by decide : (96 : Int32).toInt = 96) (by omega) (by omega)) (fun x63 e64 => ?_)
                              refine xw_goto (tgt := 166) (aX12_variable 92 rfl) (by decide) ?_
                              refine xw_iret (aX12_variable 96 rfl) rfl rfl ?_
                              have e65 : (x63).toInt = ((x58).toInt) + (96) := e64
                              exact ⟨x63, rfl, FI1, rfl, hI3, (gf_f gf_rf u2 (by decide))⟩
                          · refine xw_lload (aX12_variable 75 rfl) rfl ?_
                            refine xw_ldc2 (aX12_variable 76 rfl) wk_RX12_455 ?_
                            refine xw_ldiv (aX12_variable 77 rfl) (l_ne0 (by decide : (37 : Int64).toInt = 37) (by omega)) ?_
                            refine hw_tl (fun x66 => ?_)
                            have b67 := l_rng x66
                            refine xw_lstore (L2 := [(4, .long (x66)), (6, .int (y6)), (3, .int (y3)), (0, .ref (base + 121))]) (aX12_variable 78 rfl) (by decide) rfl ?_
                            obtain ⟨x68, q70⟩ : ∃ y : Int32, (y6) + Int32.ofInt (1) = y := ⟨_, rfl⟩
                            have e69 : (x68).toInt = (y6).toInt + (1) := by rw [← q70]; exact i_add rfl (by decide) (by omega) (by omega)
                            refine xw_iinc (L2 := [(6, .int (x68)), (4, .long (x66)), (3, .int (y3)), (0, .ref (base + 121))]) (aX12_variable 79 rfl) rfl (by decide) (by rw [q70]; rfl) ?_
                            refine xw_goto (tgt := 115) (aX12_variable 80 rfl) (by decide) ?_
                            exact hw_L (ih115 (x68) (x66) (by have := (e69 : (x68).toInt = (y6).toInt + (1)); omega)) ⟨rfl, rfl, rfl, rfl, trivial⟩
                      exact hw_L (lp52 ((max ((y3).toInt - (x49).toInt) 0 : Int).toNat + 1) (x49) (x10) (by have := (e50 : (x49).toInt = ((a2).toInt) - (1000)); omega)) ⟨rfl, rfl, rfl, rfl, trivial⟩
                · refine xw_iloadn (aX12_variable 51 rfl) rfl ?_
                  refine xw_iret (aX12_variable 52 rfl) rfl rfl ?_
                  exact ⟨y3, rfl, FI1, rfl, hI3, (gf_f gf_rf u2 (by decide))⟩
              · refine hw_aloadn (aX12_variable 41 rfl) rfl ?_
                refine hw_get (v := .ref (base + 125)) (aX12_variable 42 rfl) wf_RX12_20 (c121 hS) (s121 hS) (by decide) (congrArg (fun r => va_rf (h_rf base r)) (r121_4 hF)) ?_
                refine hw_bp (v := (20 : Int32)) (aX12_variable 43 rfl) (by decide) ?_
                refine xw_iloadn (aX12_variable 44 rfl) rfl ?_
                refine xw_iadd (aX12_variable 45 rfl) ?_
                refine hw_tie (A := (20) + ((a1).toInt)) (i_add (by decide : (20 : Int32).toInt = 20) rfl (by omega) (by omega)) (fun x71 e72 => ?_)
                obtain ⟨x73, h74⟩ : ∃ y, FI1 125 (x71).toNatClampNeg = y := ⟨_, rfl⟩
                have h74l := congrArg Int32.toInt h74
                have := i_rng x73
                refine hw_iald (v := x73) (aX12_variable 46 rfl) (c125 hS) (s125 hS) (h_in e72 (by omega) (by omega)) (show FI1 125 (x71).toNatClampNeg = x73 from h74) ?_
                have b75 := gI_125 hI3 (i_lt (x := x71) e72 (by omega) (by omega)); rw [h74] at b75
                refine xw_iret (aX12_variable 47 rfl) rfl rfl ?_
                exact ⟨x73, rfl, FI1, rfl, hI3, (gf_f gf_rf u2 (by decide))⟩
            · refine hw_aloadn (aX12_variable 33 rfl) rfl ?_
              refine hw_get (v := .ref (base + 156)) (aX12_variable 34 rfl) wf_RX12_126 (c121 hS) (s121 hS) (by decide) (congrArg (fun r => va_rf (h_rf base r)) (r121_76 hF)) ?_
              refine xw_iloadn (aX12_variable 35 rfl) rfl ?_
              obtain ⟨x76, h77⟩ : ∃ y, FI1 156 (a1).toNatClampNeg = y := ⟨_, rfl⟩
              have h77l := congrArg Int32.toInt h77
              have := i_rng x76
              refine hw_iald (v := x76) (aX12_variable 36 rfl) (c156 hS) (s156 hS) (h_in rfl (by omega) (by omega)) (show FI1 156 (a1).toNatClampNeg = x76 from h77) ?_
              have b78 := gI_156 hI3 (i_lt (x := a1) rfl (by omega) (by omega)); rw [h77] at b78
              refine xw_iret (aX12_variable 37 rfl) rfl rfl ?_
              exact ⟨x76, rfl, FI1, rfl, hI3, (gf_f gf_rf u2 (by decide))⟩
          · have h13 : (y3).toInt < 13 := by rcases Int.lt_or_le (y3).toInt 13 with h | h; { exact h }; { have := q37_e xi29_0 h; omega }
            refine xw_iloadn (aX12_variable 22 rfl) rfl ?_
            refine hw_ic (v := (1 : Int32)) (aX12_variable 23 rfl) (by decide) ?_
            refine xw_iadd (aX12_variable 24 rfl) ?_
            refine hw_tie (A := ((y3).toInt) + (1)) (i_add rfl (by decide : (1 : Int32).toInt = 1) (by omega) (by omega)) (fun x79 e80 => ?_)
            refine xw_istoren (L2 := [(3, .int (x79)), (4, .long (y4)), (0, .ref (base + 121)), (1, .int (a1)), (2, .int (a2))]) (aX12_variable 25 rfl) (by decide) rfl ?_
            refine xw_lload (aX12_variable 26 rfl) rfl ?_
            refine xw_ldc2 (aX12_variable 27 rfl) wk_RX12_455 ?_
            refine xw_ldiv (aX12_variable 28 rfl) (l_ne0 (by decide : (37 : Int64).toInt = 37) (by omega)) ?_
            refine hw_tle (A := ((y4).toInt) / (37)) (l_div rfl (by decide : (37 : Int64).toInt = 37) (by omega) (by omega)) (fun x81 e82 => ?_)
            refine xw_lstore (L2 := [(4, .long (x81)), (3, .int (x79)), (0, .ref (base + 121)), (1, .int (a1)), (2, .int (a2))]) (aX12_variable 29 rfl) (by decide) rfl ?_
            refine xw_goto (tgt := 29) (aX12_variable 30 rfl) (by decide) ?_
            exact hw_L (ih (x81) (x79) (by have := (e82 : (x81).toInt = ((y4).toInt) / (37)); have := (e80 : (x79).toInt = ((y3).toInt) + (1)); omega) (show (x81).toInt < q37 (13 - (x79).toInt) from (by have := (e82 : (x81).toInt = ((y4).toInt) / (37)); have := (e80 : (x79).toInt = ((y3).toInt) + (1)); exact (by have e1 := e82; have e2 := e80; rw [show (13 - (x79).toInt : Int) = 13 - ((y3).toInt + 1) by omega, e1]; exact q37_s xi29_0 (by omega) h13))) (by have := (e82 : (x81).toInt = ((y4).toInt) / (37)); have := (e80 : (x79).toInt = ((y3).toInt) + (1)); omega)) ⟨rfl, rfl, rfl, rfl, rfl, trivial⟩
      exact hw_L (lp13 ((max (x10).toInt 0 : Int).toNat + 1) (x10) ((0 : Int32)) (by have := ((by decide : (0 : Int32).toInt = 0) : ((0 : Int32)).toInt = 0); omega) (show (x10).toInt < q37 (13 - 0) from (by have := ((by decide : (0 : Int32).toInt = 0) : ((0 : Int32)).toInt = 0); exact (by rw [show (13 - 0 : Int) = 13 - 0 by omega]; exact q37_0 (by omega)))) (by have := ((by decide : (0 : Int32).toInt = 0) : ((0 : Int32)).toInt = 0); omega)) ⟨rfl, rfl, rfl, rfl, rfl, trivial⟩
    · refine hw_ic (v := ((-1) : Int32)) (aX12_variable 9 rfl) (by decide) ?_
      refine xw_iret (aX12_variable 10 rfl) rfl rfl ?_
      have e83 : (((-1) : Int32)).toInt = (-1) := (by decide : ((-1) : Int32).toInt = (-1))
      exact ⟨((-1) : Int32), rfl, FI1, rfl, hI3, (gf_f gf_rf u2 (by decide))⟩
def nX12_meansBinary : Nat := 0xac049002b560049002b42a2a4402b61c1b2acb02b61c2a
theorem bX12_meansBinary : cX12_meansBinary.data.toList.map UInt8.toNat = x_un nX12_meansBinary 23 := by decide +kernel
def iX12_meansBinary : List (Nat × Jvm.ClassFile.Instr × Nat) := [(0, .aload_n 0, 1), (1, .iload_n 2, 1), (2, .invokevirtual 715, 3), (5, .aload_n 0, 1), (6, .iload_n 1, 1), (7, .iload_n 2, 1), (8, .invokevirtual 580, 3), (11, .aload_n 0, 1), (12, .aload_n 0, 1), (13, .getfield 656, 3), (16, .iconst 1, 1), (17, .iadd, 1), (18, .putfield 656, 3), (21, .iconst 1, 1), (22, .ireturn, 1)]
theorem dX12_meansBinary : x_il nX12_meansBinary 23 iX12_meansBinary = true := by decide +kernel
theorem aX12_meansBinary (k : Nat) {pc : Nat} {i : Jvm.ClassFile.Instr} {len : Nat} (hk : iX12_meansBinary[k]? = some (pc, i, len)) : x_at xMM 266 pc i len yX12_meansBinary 3 (some .boolean) := ⟨cX12_meansBinary, rfl, x_il_ok bX12_meansBinary dX12_meansBinary k hk⟩
set_option maxHeartbeats 4000000 in
set_option maxRecDepth 100000 in
theorem n_meansBinary {zk : xK} {base d n sl : Nat} {SH : Nat → Nat × Nat} {FI : Nat → Nat → Int32} {FL : Nat → Nat → Int64} {FR : Nat → Nat → Option Nat} (hS : h_S n SH) (hF : h_FR FR) (hI : g_I FI) (a1 : Int32) (a2 : Int32) (g0 : (FI 121 90).toInt ≤ 250) (g1 : (FI 121 92).toInt ≤ 1000) (g2 : 1 ≤ (a2).toInt ∧ (a2).toInt ≤ 7) (gg0 : au_ok (sk (FI 166) (FI 121 90).toInt.toNat)) (gg1 : ∀ y r, (sk (FI 166) (FI 121 90).toInt.toNat) = y :: r → y ≠ 9) (gg2 : (FI 121 101).toInt = (au_vc (sk (FI 166) (FI 121 90).toInt.toNat) : Int) + 1) (rel_wm : rl_wm (FI 121 90) (FI 165) (FI 166)) : hw zk base (d + 4) none 266 0 [(0, .ref (base + 121)), (1, .int (a1)), (2, .int (a2))] [] (n, sl, SH, FI, FL, FR) (h_I (fun r s => ∃ FI' FL', s = (n, sl, SH, FI', FL', FR) ∧ g_I FI' ∧ g_fr n SH [(121, 90), (121, 92), (121, 93), (121, 101)] [165, 166] [] FI FI' ∧ g_fr n SH [] [173] [] FL FL' ∧ (r.toInt = 1) ∧ ((FI' 121 92).toInt = (FI 121 92).toInt + 1) ∧ ((FI' 121 90).toInt ≤ (FI 121 90).toInt + 1) ∧ (0 ≤ r.toInt ∧ r.toInt ≤ 1) ∧ ((sk (FI' 166) (FI' 121 90).toInt.toNat) = (a2).toInt :: au_red (a2).toInt (sk (FI 166) (FI 121 90).toInt.toNat)) ∧ ((FI' 121 101).toInt = (au_vc (sk (FI' 166) (FI' 121 90).toInt.toNat) : Int)) ∧ (rl_wm (FI' 121 90) (FI' 165) (FI' 166)))) := by
  have rg_a1 := i_rng a1
  have rg_a2 := i_rng a2
  obtain ⟨x1, h2⟩ : ∃ y, FI 121 90 = y := ⟨_, rfl⟩
  have h2l := congrArg Int32.toInt h2
  have b3 := gI_121_90 hI; rw [h2] at b3
  obtain ⟨x4, h5⟩ : ∃ y, FI 121 92 = y := ⟨_, rfl⟩
  have h5l := congrArg Int32.toInt h5
  have b6 := gI_121_92 hI; rw [h5] at b6
  obtain ⟨x7, h8⟩ : ∃ y, FI 121 101 = y := ⟨_, rfl⟩
  have h8l := congrArg Int32.toInt h8
  have b9 := gI_121_101 hI; rw [h8] at b9
  refine hw_aloadn (aX12_meansBinary 0 rfl) rfl ?_
  refine xw_iloadn (aX12_meansBinary 1 rfl) rfl ?_
  refine hw_callV (Bs := [.int (a2)]) (rest := []) (aX12_meansBinary 2 rfl) wc_RX12_715 (by decide) rfl wi_yX12_meansReduced wv_yX12_meansReduced (c121 hS) (s121 hS) rfl rfl rfl (Nat.le_of_ble_eq_true rfl) (Nat.le_of_ble_eq_true rfl) (n_meansReduced (d := d) hS hF hI (a2) (by omega) (gg0) (gg1) ((by have := gg2; omega)) (show rl_wm (FI 121 90) (FI 165) (FI 166) from rel_wm)) (fun v10 sv11 p12 => ?_)
  have := congrArg Int32.toInt (show FI 121 90 = x1 from h2)
  have := congrArg Int32.toInt (show FI 121 101 = x7 from h8)
  obtain ⟨rfl, FI14, FL15, rfl, hI16, f17, f18, t19, t20, u21, u22, rl23⟩ := p12
  obtain ⟨x24, h25⟩ : ∃ y, FI14 121 90 = y := ⟨_, rfl⟩
  have h25l := congrArg Int32.toInt h25
  have b26 := gI_121_90 hI16; rw [h25] at b26
  obtain ⟨x27, h28⟩ : ∃ y, FI14 121 101 = y := ⟨_, rfl⟩
  have h28l := congrArg Int32.toInt h28
  have b29 := gI_121_101 hI16; rw [h28] at b29
  show hw zk base _ _ _ _ _ [] _ _
  refine hw_aloadn (aX12_meansBinary 3 rfl) rfl ?_
  refine xw_iloadn (aX12_meansBinary 4 rfl) rfl ?_
  refine xw_iloadn (aX12_meansBinary 5 rfl) rfl ?_
  refine hw_callV (Bs := [.int (a1), .int (a2)]) (rest := []) (aX12_meansBinary 6 rfl) wc_RX12_580 (by decide) rfl wi_yX12_later wv_yX12_later (c121 hS) (s121 hS) rfl rfl rfl (Nat.le_of_ble_eq_true rfl) (Nat.le_of_ble_eq_true rfl) (n_laterm (d := d + 3) hS hF hI16 (a1) (a2) (by have := congrArg Int32.toInt (show FI14 121 90 = x24 from h25); omega) (by omega) (show rl_wm (FI14 121 90) (FI14 165) (FI14 166) from rl23)) (fun v30 sv31 p32 => ?_)
  have := congrArg Int32.toInt (show FI14 121 90 = x24 from h25)
  obtain ⟨rfl, FI34, rfl, hI35, f36, t37, u38, u39, rl40⟩ := p32
  obtain ⟨x41, h42⟩ : ∃ y, FI34 121 90 = y := ⟨_, rfl⟩
  have h42l := congrArg Int32.toInt h42
  have b43 := gI_121_90 hI35; rw [h42] at b43
  show hw zk base _ _ _ _ _ [] _ _
  refine hw_aloadn (aX12_meansBinary 7 rfl) rfl ?_
  refine hw_aloadn (aX12_meansBinary 8 rfl) rfl ?_
  refine hw_get (v := .int (x4)) (aX12_meansBinary 9 rfl) wf_RX12_656 (c121 hS) (s121 hS) (by decide) (congrArg Value.int (show FI34 121 92 = x4 from (gf_at f36 (c121 hS) (s121 hS) rfl ((gf_at f17 (c121 hS) (s121 hS) rfl (h5)))))) ?_
  refine hw_ic (v := (1 : Int32)) (aX12_meansBinary 10 rfl) (by decide) ?_
  refine xw_iadd (aX12_meansBinary 11 rfl) ?_
  refine hw_tie (A := ((x4).toInt) + (1)) (i_add rfl (by decide : (1 : Int32).toInt = 1) (by omega) (by omega)) (fun x44 e45 => ?_)
  refine hv_puti (aX12_meansBinary 12 rfl) wf_RX12_656 (c121 hS) (s121 hS) (by decide) rfl rfl (fun FI46 u47 => ?_)
  have rl48 : rl_wm (FI46 121 90) (FI46 165) (FI46 166) := by rw [show FI46 165 = FI34 165 from up_row u47 (by decide) rfl, show FI46 166 = FI34 166 from up_row u47 (by decide) rfl, show FI46 121 90 = FI34 121 90 from up_k u47 (by decide) rfl]; exact rl40
  have hI49 : g_I FI46 := gU_121_92 hI35 u47 (by have := (e45 : (x44).toInt = ((x4).toInt) + (1)); omega) (by have := (e45 : (x44).toInt = ((x4).toInt) + (1)); omega)
  refine hw_ic (v := (1 : Int32)) (aX12_meansBinary 13 rfl) (by decide) ?_
  refine xw_iret (aX12_meansBinary 14 rfl) rfl (by decide) ?_
  have e50 : ((1 : Int32)).toInt = 1 := (by decide : (1 : Int32).toInt = 1)
  exact ⟨(1 : Int32), rfl, FI46, FL15, rfl, hI49, (gf_f (gf_tr ex_rf (gf_tr ex_rf gf_rf f17 rfl rfl rfl) f36 rfl rfl rfl) u47 (by decide)), (gf_tr ex_rf gf_rf f18 rfl rfl rfl), (by have : ((1 : Int32)).toInt = 1 := (by decide); omega), (by have : ((1 : Int32)).toInt = 1 := (by decide); have := congrArg Int32.toInt (show FI46 121 92 = x44 from up_eq u47); have := (e45 : (x44).toInt = ((x4).toInt) + (1)); omega), (by have : ((1 : Int32)).toInt = 1 := (by decide); have := congrArg Int32.toInt (show FI46 121 90 = x41 from (up_k u47 (by decide) (h42))); omega), (by have : ((1 : Int32)).toInt = 1 := (by decide); omega), (by have hm : (sk (FI46 166) (FI46 121 90).toInt.toNat) = (a2).toInt :: au_red (a2).toInt (sk (FI 166) (FI 121 90).toInt.toNat) := (by rw [show FI46 166 = FI34 166 from (up_row u47 (by decide) (rfl)), show FI46 121 90 = FI34 121 90 from ((up_k u47 (by decide) (h42))).trans (h42).symm, u39, show FI14 166 = FI 166 from (gf_row f17 (c166 hS) (s166 hS) rfl (rfl)), u21]); exact hm), (by have hm : (sk (FI46 166) (FI46 121 90).toInt.toNat) = (a2).toInt :: au_red (a2).toInt (sk (FI 166) (FI 121 90).toInt.toNat) := (by rw [show FI46 166 = FI34 166 from (up_row u47 (by decide) (rfl)), show FI46 121 90 = FI34 121 90 from ((up_k u47 (by decide) (h42))).trans (h42).symm, u39, show FI14 166 = FI 166 from (gf_row f17 (c166 hS) (s166 hS) rfl (rfl)), u21]); have hV := u22; rw [u21] at hV; rw [hm]; have := congrArg Int32.toInt (show FI46 121 101 = x27 from (up_k u47 (by decide) ((gf_at f36 (c121 hS) (s121 hS) rfl (h28))))); have := congrArg Int32.toInt (show FI14 121 101 = x27 from h28); rw [show au_vc ((a2).toInt :: au_red (a2).toInt (sk (FI 166) (FI 121 90).toInt.toNat)) = 1 + au_vc (au_red (a2).toInt (sk (FI 166) (FI 121 90).toInt.toNat)) from by simp only [au_vc]; rw [if_pos (Or.inl (by omega))]]; omega), (show rl_wm (FI46 121 90) (FI46 165) (FI46 166) from rl48)⟩
