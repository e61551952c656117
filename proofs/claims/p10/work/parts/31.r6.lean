set_option maxHeartbeats 4000000 in
set_option maxRecDepth 100000 in
theorem n_sign {base d n sl : Nat} {SH : Nat → Nat × Nat} {FI : Nat → Nat → Int32} {FL : Nat → Nat → Int64} {FR : Nat → Nat → Option Nat} (hS : h_S n SH) (hF : h_FR FR) (hI : g_I FI) (a1 : Int32) (g0 : 0 ≤ (a1).toInt ∧ (a1).toInt ≤ 1100) : hw base d none 206 0 [(0, .ref (base + 121)), (1, .int (a1))] [] (n, sl, SH, FI, FL, FR) (h_I (fun r s => s = (n, sl, SH, FI, FL, FR) ∧ (-1 ≤ r.toInt ∧ r.toInt ≤ 255) ∧ (r.toInt = -1 ∨ (a1).toInt < (FI 121 13).toInt) ∧ ((a1).toInt < (FI 121 13).toInt → r = FI 126 (a1).toNatClampNeg))) := by
  have rg_a1 := i_rng a1
  obtain ⟨x1, h2⟩ : ∃ y, FI 121 13 = y := ⟨_, rfl⟩
  have h2l := congrArg Int32.toInt h2
  have b3 := gI_121_13 hI; rw [h2] at b3
  refine xw_iloadn (aX12_sign 0 rfl) rfl ?_
  refine hw_aloadn (aX12_sign 1 rfl) rfl ?_
  refine hw_get (v := .int (x1)) (aX12_sign 2 rfl) wf_RX12_190 (c121 hS) (s121 hS) (by decide) (congrArg Value.int (show FI 121 13 = x1 from h2)) ?_
  refine hw_icge (tgt := 17) (aX12_sign 3 rfl) (by decide) rfl rfl (fun cd4 => ?_) (fun cd4 => ?_)
  · refine hw_ic (v := ((-1) : Int32)) (aX12_sign 9 rfl) (by decide) ?_
    refine xw_iret (aX12_sign 10 rfl) rfl rfl ?_
    have e5 : (((-1) : Int32)).toInt = (-1) := (by decide : ((-1) : Int32).toInt = (-1))
    exact ⟨((-1) : Int32), rfl, rfl, (by have : (((-1) : Int32)).toInt = (-1) := (by decide); omega), (by have : (((-1) : Int32)).toInt = (-1) := (by decide); omega), (by exact fun h => absurd h (by omega))⟩
  · refine hw_aloadn (aX12_sign 4 rfl) rfl ?_
    refine hw_get (v := .ref (base + 126)) (aX12_sign 5 rfl) wf_RX12_30 (c121 hS) (s121 hS) (by decide) (congrArg (fun r => va_rf (h_rf base r)) (r121_12 hF)) ?_
    refine xw_iloadn (aX12_sign 6 rfl) rfl ?_
    obtain ⟨x6, h7⟩ : ∃ y, FI 126 (a1).toNatClampNeg = y := ⟨_, rfl⟩
    have h7l := congrArg Int32.toInt h7
    have := i_rng x6
    refine hw_iald (v := x6) (aX12_sign 7 rfl) (c126 hS) (s126 hS) (h_in rfl (by omega) (by omega)) (show FI 126 (a1).toNatClampNeg = x6 from h7) ?_
    have b8 := gI_126 hI (i_lt (x := a1) rfl (by omega) (by omega)); rw [h7] at b8
    refine xw_goto (tgt := 18) (aX12_sign 8 rfl) (by decide) ?_
    refine xw_iret (aX12_sign 10 rfl) rfl rfl ?_
    exact ⟨x6, rfl, rfl, (by omega), (by omega), (by exact fun _ => (h7).symm)⟩
set_option maxHeartbeats 4000000 in
set_option maxRecDepth 100000 in
theorem n_isSmall {base d n sl : Nat} {SH : Nat → Nat × Nat} {FI : Nat → Nat → Int32} {FL : Nat → Nat → Int64} {FR : Nat → Nat → Option Nat} (hS : h_S n SH) (hF : h_FR FR) (hI : g_I FI) (a1 : Int32) : hw base d none 207 0 [(0, .ref (base + 121)), (1, .int (a1))] [] (n, sl, SH, FI, FL, FR) (h_I (fun r s => s = (n, sl, SH, FI, FL, FR) ∧ (r.toInt = 1 → (97 ≤ (a1).toInt ∧ (a1).toInt ≤ 122)) ∧ (r.toInt = 0 → ((a1).toInt < 97 ∨ 122 < (a1).toInt)) ∧ (0 ≤ r.toInt ∧ r.toInt ≤ 1))) := by
  have rg_a1 := i_rng a1
  refine xw_iloadn (aX12_isSmall 0 rfl) rfl ?_
  refine hw_bp (v := (97 : Int32)) (aX12_isSmall 1 rfl) (by decide) ?_
  refine hw_iclt (tgt := 16) (aX12_isSmall 2 rfl) (by decide) rfl (by decide : (97 : Int32).toInt = 97) (fun cd1 => ?_) (fun cd1 => ?_)
  · refine hw_ic (v := (0 : Int32)) (aX12_isSmall 8 rfl) (by decide) ?_
    refine xw_iret (aX12_isSmall 9 rfl) rfl (by decide) ?_
    have e2 : ((0 : Int32)).toInt = 0 := (by decide : (0 : Int32).toInt = 0)
    exact ⟨(0 : Int32), rfl, rfl, (by have : ((0 : Int32)).toInt = 0 := (by decide); omega), (by have : ((0 : Int32)).toInt = 0 := (by decide); omega), (by have : ((0 : Int32)).toInt = 0 := (by decide); omega)⟩
  · refine xw_iloadn (aX12_isSmall 3 rfl) rfl ?_
    refine hw_bp (v := (122 : Int32)) (aX12_isSmall 4 rfl) (by decide) ?_
    refine hw_icgt (tgt := 16) (aX12_isSmall 5 rfl) (by decide) rfl (by decide : (122 : Int32).toInt = 122) (fun cd3 => ?_) (fun cd3 => ?_)
    · refine hw_ic (v := (0 : Int32)) (aX12_isSmall 8 rfl) (by decide) ?_
      refine xw_iret (aX12_isSmall 9 rfl) rfl (by decide) ?_
      have e4 : ((0 : Int32)).toInt = 0 := (by decide : (0 : Int32).toInt = 0)
      exact ⟨(0 : Int32), rfl, rfl, (by have : ((0 : Int32)).toInt = 0 := (by decide); omega), (by have : ((0 : Int32)).toInt = 0 := (by decide); omega), (by have : ((0 : Int32)).toInt = 0 := (by decide); omega)⟩
    · refine hw_ic (v := (1 : Int32)) (aX12_isSmall 6 rfl) (by decide) ?_
      refine xw_goto (tgt := 17) (aX12_isSmall 7 rfl) (by decide) ?_
      refine xw_iret (aX12_isSmall 9 rfl) rfl (by decide) ?_
      have e5 : ((1 : Int32)).toInt = 1 := (by decide : (1 : Int32).toInt = 1)
      exact ⟨(1 : Int32), rfl, rfl, (by have : ((1 : Int32)).toInt = 1 := (by decide); omega), (by have : ((1 : Int32)).toInt = 1 := (by decide); omega), (by have : ((1 : Int32)).toInt = 1 := (by decide); omega)⟩
set_option maxHeartbeats 4000000 in
set_option maxRecDepth 100000 in
theorem n_isDigit {base d n sl : Nat} {SH : Nat → Nat × Nat} {FI : Nat → Nat → Int32} {FL : Nat → Nat → Int64} {FR : Nat → Nat → Option Nat} (hS : h_S n SH) (hF : h_FR FR) (hI : g_I FI) (a1 : Int32) : hw base d none 208 0 [(0, .ref (base + 121)), (1, .int (a1))] [] (n, sl, SH, FI, FL, FR) (h_I (fun r s => s = (n, sl, SH, FI, FL, FR) ∧ (r.toInt = 1 → (48 ≤ (a1).toInt ∧ (a1).toInt ≤ 57)) ∧ (r.toInt = 0 → ((a1).toInt < 48 ∨ 57 < (a1).toInt)) ∧ (0 ≤ r.toInt ∧ r.toInt ≤ 1))) := by
  have rg_a1 := i_rng a1
  refine xw_iloadn (aX12_isDigit 0 rfl) rfl ?_
  refine hw_bp (v := (48 : Int32)) (aX12_isDigit 1 rfl) (by decide) ?_
  refine hw_iclt (tgt := 16) (aX12_isDigit 2 rfl) (by decide) rfl (by decide : (48 : Int32).toInt = 48) (fun cd1 => ?_) (fun cd1 => ?_)
  · refine hw_ic (v := (0 : Int32)) (aX12_isDigit 8 rfl) (by decide) ?_
    refine xw_iret (aX12_isDigit 9 rfl) rfl (by decide) ?_
    have e2 : ((0 : Int32)).toInt = 0 := (by decide : (0 : Int32).toInt = 0)
    exact ⟨(0 : Int32), rfl, rfl, (by have : ((0 : Int32)).toInt = 0 := (by decide); omega), (by have : ((0 : Int32)).toInt = 0 := (by decide); omega), (by have : ((0 : Int32)).toInt = 0 := (by decide); omega)⟩
  · refine xw_iloadn (aX12_isDigit 3 rfl) rfl ?_
    refine hw_bp (v := (57 : Int32)) (aX12_isDigit 4 rfl) (by decide) ?_
    refine hw_icgt (tgt := 16) (aX12_isDigit 5 rfl) (by decide) rfl (by decide : (57 : Int32).toInt = 57) (fun cd3 => ?_) (fun cd3 => ?_)
    · refine hw_ic (v := (0 : Int32)) (aX12_isDigit 8 rfl) (by decide) ?_
      refine xw_iret (aX12_isDigit 9 rfl) rfl (by decide) ?_
      have e4 : ((0 : Int32)).toInt = 0 := (by decide : (0 : Int32).toInt = 0)
      exact ⟨(0 : Int32), rfl, rfl, (by have : ((0 : Int32)).toInt = 0 := (by decide); omega), (by have : ((0 : Int32)).toInt = 0 := (by decide); omega), (by have : ((0 : Int32)).toInt = 0 := (by decide); omega)⟩
    · refine hw_ic (v := (1 : Int32)) (aX12_isDigit 6 rfl) (by decide) ?_
      refine xw_goto (tgt := 17) (aX12_isDigit 7 rfl) (by decide) ?_
      refine xw_iret (aX12_isDigit 9 rfl) rfl (by decide) ?_
      have e5 : ((1 : Int32)).toInt = 1 := (by decide : (1 : Int32).toInt = 1)
      exact ⟨(1 : Int32), rfl, rfl, (by have : ((1 : Int32)).toInt = 1 := (by decide); omega), (by have : ((1 : Int32)).toInt = 1 := (by decide); omega), (by have : ((1 : Int32)).toInt = 1 := (by decide); omega)⟩
def nX12_token : Nat := 0xb1be01b56004be01b42a2a4f0415be01b42a6f00b42a5020be01b42a6c00b42a4f1bbe01b42a6900b42a
theorem bX12_token : cX12_token.data.toList.map UInt8.toNat = x_un nX12_token 42 := by decide +kernel
def iX12_token : List (Nat × Jvm.ClassFile.Instr × Nat) := [(0, .aload_n 0, 1), (1, .getfield 105, 3), (4, .aload_n 0, 1), (5, .getfield 446, 3), (8, .iload_n 1, 1), (9, .iastore, 1), (10, .aload_n 0, 1), (11, .getfield 108, 3), (14, .aload_n 0, 1), (15, .getfield 446, 3), (18, .lload_n 2, 1), (19, .lastore, 1), (20, .aload_n 0, 1), (21, .getfield 111, 3), (24, .aload_n 0, 1), (25, .getfield 446, 3), (28, .iload 4, 2), (30, .iastore, 1), (31, .aload_n 0, 1), (32, .aload_n 0, 1), (33, .getfield 446, 3), (36, .iconst 1, 1), (37, .iadd, 1), (38, .putfield 446, 3), (41, .return_, 1)]
theorem dX12_token : x_il nX12_token 42 iX12_token = true := by decide +kernel
theorem aX12_token (k : Nat) {pc : Nat} {i : Jvm.ClassFile.Instr} {len : Nat} (hk : iX12_token[k]? = some (pc, i, len)) : x_at xMM 211 pc i len yX12_token 5 none := ⟨cX12_token, rfl, x_il_ok bX12_token dX12_token k hk⟩
set_option maxHeartbeats 4000000 in
set_option maxRecDepth 100000 in
theorem n_token {base d n sl : Nat} {SH : Nat → Nat × Nat} {FI : Nat → Nat → Int32} {FL : Nat → Nat → Int64} {FR : Nat → Nat → Option Nat} (hS : h_S n SH) (hF : h_FR FR) (hI : g_I FI) (a1 : Int32) (a2 : Int64) (a3 : Int32) (g0 : (FI 121 67).toInt ≤ 1000) (g1 : (a1).toInt = 3 → 0 ≤ (a2).toInt ∧ (a2).toInt ≤ 999999999999999999) (g2 : (a1).toInt = 4 → 1 ≤ (a2).toInt ∧ (a2).toInt ≤ 8) (rel_tok : rl_t (FI 149) (FL 150)) : hw base d none 211 0 [(0, .ref (base + 121)), (1, .int (a1)), (2, .long (a2)), (4, .int (a3))] [] (n, sl, SH, FI, FL, FR) (h_V (fun s => ∃ FI' FL', s = (n, sl, SH, FI', FL', FR) ∧ g_I FI' ∧ g_fr n SH [(121, 67)] [149, 151] [] FI FI' ∧ g_fr n SH [] [150] [] FL FL' ∧ ((FI' 121 67).toInt = (FI 121 67).toInt + 1) ∧ (FI' 149 (FI 121 67).toInt.toNat = a1) ∧ (rl_t (FI' 149) (FL' 150)))) := by
  have rg_a1 := i_rng a1
  have rg_a2 := l_rng a2
  have rg_a3 := i_rng a3
  obtain ⟨x1, h2⟩ : ∃ y, FI 121 67 = y := ⟨_, rfl⟩
  have h2l := congrArg Int32.toInt h2
  have b3 := gI_121_67 hI; rw [h2] at b3
  refine hw_aloadn (aX12_token 0 rfl) rfl ?_
  refine hw_get (v := .ref (base + 149)) (aX12_token 1 rfl) wf_RX12_105 (c121 hS) (s121 hS) (by decide) (congrArg (fun r => va_rf (h_rf base r)) (r121_62 hF)) ?_
  refine hw_aloadn (aX12_token 2 rfl) rfl ?_
  refine hw_get (v := .int (x1)) (aX12_token 3 rfl) wf_RX12_446 (c121 hS) (s121 hS) (by decide) (congrArg Value.int (show FI 121 67 = x1 from h2)) ?_
  refine xw_iloadn (aX12_token 4 rfl) rfl ?_
  refine hv_iast (k := (x1).toNatClampNeg) (aX12_token 5 rfl) (c149 hS) (s149 hS) (h_in rfl (by omega) (by omega)) rfl (fun FI4 u5 => ?_)
  have hI6 : g_I FI4 := gU_F hI u5 rfl
  refine hw_aloadn (aX12_token 6 rfl) rfl ?_
  refine hw_get (v := .ref (base + 150)) (aX12_token 7 rfl) wf_RX12_108 (c121 hS) (s121 hS) (by decide) (congrArg (fun r => va_rf (h_rf base r)) (r121_63 hF)) ?_
  refine hw_aloadn (aX12_token 8 rfl) rfl ?_
  refine hw_get (v := .int (x1)) (aX12_token 9 rfl) wf_RX12_446 (c121 hS) (s121 hS) (by decide) (congrArg Value.int (show FI4 121 67 = x1 from (up_c u5 (by decide) (h2)))) ?_
  refine xw_lloadn (aX12_token 10 rfl) rfl ?_
  refine hv_last (k := (x1).toNatClampNeg) (aX12_token 11 rfl) (c150 hS) (s150 hS) (h_in rfl (by omega) (by omega)) rfl (fun FL7 u8 => ?_)
  have rl9 : rl_t (FI4 149) (FL7 150) := by rw [show FI4 149 = va_up (FI 149) ((x1).toNatClampNeg) (a1) from (up_va u5 (rfl)), show FL7 150 = va_up (FL 150) ((x1).toNatClampNeg) (a2) from (up_va u8 (rfl))]; exact rl_t_up rel_tok g1 g2
  refine hw_aloadn (aX12_token 12 rfl) rfl ?_
  refine hw_get (v := .ref (base + 151)) (aX12_token 13 rfl) wf_RX12_111 (c121 hS) (s121 hS) (by decide) (congrArg (fun r => va_rf (h_rf base r)) (r121_64 hF)) ?_
  refine hw_aloadn (aX12_token 14 rfl) rfl ?_
  refine hw_get (v := .int (x1)) (aX12_token 15 rfl) wf_RX12_446 (c121 hS) (s121 hS) (by decide) (congrArg Value.int (show FI4 121 67 = x1 from (up_c u5 (by decide) (h2)))) ?_
  refine xw_iload (aX12_token 16 rfl) rfl ?_
  refine hv_iast (k := (x1).toNatClampNeg) (aX12_token 17 rfl) (c151 hS) (s151 hS) (h_in rfl (by omega) (by omega)) rfl (fun FI10 u11 => ?_)
  have rl12 : rl_t (FI10 149) (FL7 150) := by rw [show FI10 149 = FI4 149 from up_row u11 (by decide) rfl]; exact rl9
  have hI13 : g_I FI10 := gU_F hI6 u11 rfl
  refine hw_aloadn (aX12_token 18 rfl) rfl ?_
  refine hw_aloadn (aX12_token 19 rfl) rfl ?_
  refine hw_get (v := .int (x1)) (aX12_token 20 rfl) wf_RX12_446 (c121 hS) (s121 hS) (by decide) (congrArg Value.int (show FI10 121 67 = x1 from (up_c u11 (by decide) ((up_c u5 (by decide) (h2)))))) ?_
  refine hw_ic (v := (1 : Int32)) (aX12_token 21 rfl) (by decide) ?_
  refine xw_iadd (aX12_token 22 rfl) ?_
  refine hw_tie (A := ((x1).toInt) + (1)) (i_add rfl (by decide : (1 : Int32).toInt = 1) (by omega) (by omega)) (fun x14 e15 => ?_)
  refine hv_puti (aX12_token 23 rfl) wf_RX12_446 (c121 hS) (s121 hS) (by decide) rfl rfl (fun FI16 u17 => ?_)
  have rl18 : rl_t (FI16 149) (FL7 150) := by rw [show FI16 149 = FI10 149 from up_row u17 (by decide) rfl]; exact rl12
  have hI19 : g_I FI16 := gU_121_67 hI13 u17 (by have := (e15 : (x14).toInt = ((x1).toInt) + (1)); omega) (by have := (e15 : (x14).toInt = ((x1).toInt) + (1)); omega)
  refine xw_vret (aX12_token 24 rfl) rfl ?_
  exact ⟨rfl, FI16, FL7, rfl, hI19, (gf_f (gf_a (gf_a gf_rf u5 (by decide)) u11 (by decide)) u17 (by decide)), (gf_a gf_rf u8 (by decide)), (by have := congrArg Int32.toInt (show FI16 121 67 = x14 from up_eq u17); have := (e15 : (x14).toInt = ((x1).toInt) + (1)); omega), (by rw [← i_cl (A := (FI 121 67).toInt) (congrArg Int32.toInt (h2)).symm]; exact (up_c u17 (by decide) ((up_c u11 (by decide) (up_eq u5))))), (show rl_t (FI16 149) (FL7 150) from rl18)⟩
def nX12_signs : Nat := 0xac0515c901b61c850415080400a706100800a00204152a0436020400a71b07009906150636030400a7040700a07e101b09009f2a101b0f009f2d101b15009f2b101b1b009f3e101b21009f3c101b27009f26101b2d009f5e101b33009f7c101b39009f3f101b3f009f25101b45009f2f101b4b009a06150636030400a7040700a029101b09009f28101b0f009f5d101b15009f5b101b1b009f7d101b21009f7b101b27009f3a101b2d009f2c101b33009f3b101b39009f3d101b053604a900a00204150536050400a7060700a0070111041504360601110600a70701110900a03e10c101b660051c2a2900a03e101d2f00a03e101b3500a704360501110b00a03c101d1100a03c101b4900a704360401110b00a03d101d1100a03e101b5d00a704360301110b00a03d101d1100a03c101b7100a704360201110b00a03d101d1100a021101b8500a704360101110b00a03d101d1100a03d101b9900a704360001110b00a02e101d1100a02e101b0536050436023ec101b660041c2a
theorem bX12_signs : cX12_signs.data.toList.map UInt8.toNat = x_un nX12_signs 379 := by decide +kernel
def iX12_signs : List (Nat × Jvm.ClassFile.Instr × Nat) := [(0, .aload_n 0, 1), (1, .iload_n 2, 1), (2, .iconst 1, 1), (3, .iadd, 1), (4, .invokevirtual 449, 3), (7, .istore_n 3, 1), (8, .iconst (-1), 1), (9, .istore 4, 2), (11, .iconst 2, 1), (12, .istore 5, 2), (14, .iload_n 1, 1), (15, .bipush 46, 2), (17, .if_icmp .ne 17, 3), (20, .iload_n 3, 1), (21, .bipush 46, 2), (23, .if_icmp .ne 11, 3), (26, .sipush 256, 3), (29, .istore 4, 2), (31, .goto 153, 3), (34, .iload_n 1, 1), (35, .bipush 61, 2), (37, .if_icmp .ne 17, 3), (40, .iload_n 3, 1), (41, .bipush 61, 2), (43, .if_icmp .ne 11, 3), (46, .sipush 257, 3), (49, .istore 4, 2), (51, .goto 133, 3), (54, .iload_n 1, 1), (55, .bipush 33, 2), (57, .if_icmp .ne 17, 3), (60, .iload_n 3, 1), (61, .bipush 61, 2), (63, .if_icmp .ne 11, 3), (66, .sipush 258, 3), (69, .istore 4, 2), (71, .goto 113, 3), (74, .iload_n 1, 1), (75, .bipush 60, 2), (77, .if_icmp .ne 17, 3), (80, .iload_n 3, 1), (81, .bipush 61, 2), (83, .if_icmp .ne 11, 3), (86, .sipush 259, 3), (89, .istore 4, 2), (91, .goto 93, 3), (94, .iload_n 1, 1), (95, .bipush 62, 2), (97, .if_icmp .ne 17, 3), (100, .iload_n 3, 1), (101, .bipush 61, 2), (103, .if_icmp .ne 11, 3), (106, .sipush 260, 3), (109, .istore 4, 2), (111, .goto 73, 3), (114, .iload_n 1, 1), (115, .bipush 60, 2), (117, .if_icmp .ne 17, 3), (120, .iload_n 3, 1), (121, .bipush 60, 2), (123, .if_icmp .ne 11, 3), (126, .sipush 261, 3), (129, .istore 4, 2), (131, .goto 53, 3), (134, .iload_n 1, 1), (135, .bipush 62, 2), (137, .if_icmp .ne 47, 3), (140, .iload_n 3, 1), (141, .bipush 62, 2), (143, .if_icmp .ne 41, 3), (146, .aload_n 0, 1), (147, .iload_n 2, 1), (148, .iconst 2, 1), (149, .iadd, 1), (150, .invokevirtual 449, 3), (153, .bipush 62, 2), (155, .if_icmp .ne 9, 3), (158, .sipush 263, 3), (161, .goto 6, 3), (164, .sipush 262, 3), (167, .istore 4, 2), (169, .iload 4, 2), (171, .sipush 263, 3), (174, .if_icmp .ne 7, 3), (177, .iconst 3, 1), (178, .goto 4, 3), (181, .iconst 2, 1), (182, .istore 5, 2), (184, .iload 4, 2), (186, .iconst (-1), 1), (187, .if_icmp .ne 169, 3), (190, .iconst 1, 1), (191, .istore 5, 2), (193, .iload_n 1, 1), (194, .bipush 61, 2), (196, .if_icmp .eq 57, 3), (199, .iload_n 1, 1), (200, .bipush 59, 2), (202, .if_icmp .eq 51, 3), (205, .iload_n 1, 1), (206, .bipush 44, 2), (208, .if_icmp .eq 45, 3), (211, .iload_n 1, 1), (212, .bipush 58, 2), (214, .if_icmp .eq 39, 3), (217, .iload_n 1, 1), (218, .bipush 123, 2), (220, .if_icmp .eq 33, 3), (223, .iload_n 1, 1), (224, .bipush 125, 2), (226, .if_icmp .eq 27, 3), (229, .iload_n 1, 1), (230, .bipush 91, 2), (232, .if_icmp .eq 21, 3), (235, .iload_n 1, 1), (236, .bipush 93, 2), (238, .if_icmp .eq 15, 3), (241, .iload_n 1, 1), (242, .bipush 40, 2), (244, .if_icmp .eq 9, 3), (247, .iload_n 1, 1), (248, .bipush 41, 2), (250, .if_icmp .ne 7, 3), (253, .iconst 1, 1), (254, .goto 4, 3), (257, .iconst 0, 1), (258, .istore 6, 2), (260, .iload 6, 2), (262, .ifCond .ne 75, 3), (265, .iload_n 1, 1), (266, .bipush 47, 2), (268, .if_icmp .eq 69, 3), (271, .iload_n 1, 1), (272, .bipush 37, 2), (274, .if_icmp .eq 63, 3), (277, .iload_n 1, 1), (278, .bipush 63, 2), (280, .if_icmp .eq 57, 3), (283, .iload_n 1, 1), (284, .bipush 124, 2), (286, .if_icmp .eq 51, 3), (289, .iload_n 1, 1), (290, .bipush 94, 2), (292, .if_icmp .eq 45, 3), (295, .iload_n 1, 1), (296, .bipush 38, 2), (298, .if_icmp .eq 39, 3), (301, .iload_n 1, 1), (302, .bipush 60, 2), (304, .if_icmp .eq 33, 3), (307, .iload_n 1, 1), (308, .bipush 62, 2), (310, .if_icmp .eq 27, 3), (313, .iload_n 1, 1), (314, .bipush 43, 2), (316, .if_icmp .eq 21, 3), (319, .iload_n 1, 1), (320, .bipush 45, 2), (322, .if_icmp .eq 15, 3), (325, .iload_n 1, 1), (326, .bipush 42, 2), (328, .if_icmp .eq 9, 3), (331, .iload_n 1, 1), (332, .bipush 126, 2), (334, .if_icmp .ne 7, 3), (337, .iconst 1, 1), (338, .goto 4, 3), (341, .iconst 0, 1), (342, .istore 6, 2), (344, .iload 6, 2), (346, .ifCond .eq 7, 3), (349, .iload_n 1, 1), (350, .goto 4, 3), (353, .iconst (-1), 1), (354, .istore 4, 2), (356, .aload_n 0, 1), (357, .iload 4, 2), (359, .iconst (-1), 1), (360, .if_icmp .ne 8, 3), (363, .bipush 6, 2), (365, .goto 4, 3), (368, .iconst 5, 1), (369, .iload 4, 2), (371, .i2l, 1), (372, .iload_n 2, 1), (373, .invokevirtual 457, 3), (376, .iload 5, 2), (378, .ireturn, 1)]
theorem dX12_signs : x_il nX12_signs 379 iX12_signs = true := by decide +kernel
theorem aX12_signs (k : Nat) {pc : Nat} {i : Jvm.ClassFile.Instr} {len : Nat} (hk : iX12_signs[k]? = some (pc, i, len)) : x_at xMM 213 pc i len yX12_signs 7 (some .int) := ⟨cX12_signs, rfl, x_il_ok bX12_signs dX12_signs k hk⟩
set_option maxHeartbeats 4000000 in
set_option maxRecDepth 100000 in
theorem n_signs {base d n sl : Nat} {SH : Nat → Nat × Nat} {FI : Nat → Nat → Int32} {FL : Nat → Nat → Int64} {FR : Nat → Nat → Option Nat} (hS : h_S n SH) (hF : h_FR FR) (hI : g_I FI) (a1 : Int32) (a2 : Int32) (g0 : (FI 121 67).toInt ≤ 1000) (g1 : -1 ≤ (a1).toInt ∧ (a1).toInt ≤ 255) (g2 : 0 ≤ (a2).toInt ∧ (a2).toInt ≤ 999) (rel_tok : rl_t (FI 149) (FL 150)) : hw base (d + 1) none 213 0 [(0, .ref (base + 121)), (1, .int (a1)), (2, .int (a2))] [] (n, sl, SH, FI, FL, FR) (h_I (fun r s => ∃ FI' FL', s = (n, sl, SH, FI', FL', FR) ∧ g_I FI' ∧ g_fr n SH [(121, 67)] [149, 151] [] FI FI' ∧ g_fr n SH [] [150] [] FL FL' ∧ (1 ≤ r.toInt ∧ r.toInt ≤ 3) ∧ ((FI' 121 67).toInt = (FI 121 67).toInt + 1) ∧ (rl_t (FI' 149) (FL' 150)))) := by
  have rg_a1 := i_rng a1
  have rg_a2 := i_rng a2
  obtain ⟨x1, h2⟩ : ∃ y, FI 121 67 = y := ⟨_, rfl⟩
  have h2l := congrArg Int32.toInt h2
  have b3 := gI_121_67 hI; rw [h2] at b3
  refine hw_aloadn (aX12_signs 0 rfl) rfl ?_
  refine xw_iloadn (aX12_signs 1 rfl) rfl ?_
  refine hw_ic (v := (1 : Int32)) (aX12_signs 2 rfl) (by decide) ?_
  refine xw_iadd (aX12_signs 3 rfl) ?_
  refine hw_tie (A := ((a2).toInt) + (1)) (i_add rfl (by decide : (1 : Int32).toInt = 1) (by omega) (by omega)) (fun x4 e5 => ?_)
  refine hw_callV (Bs := [.int (x4)]) (rest := []) (aX12_signs 4 rfl) wc_RX12_449 (by decide) rfl wi_yX12_sign wv_yX12_sign (c121 hS) (s121 hS) rfl rfl rfl (Nat.le_of_ble_eq_true rfl) (Nat.le_of_ble_eq_true rfl) (n_sign (d := d) hS hF hI (x4) (by have := (e5 : (x4).toInt = ((a2).toInt) + (1)); have := (e5 : (x4).toInt = ((a2).toInt) + (1)); omega)) (fun v6 sv7 p8 => ?_)
  obtain ⟨x14, h15⟩ : ∃ y, FI 121 13 = y := ⟨_, rfl⟩
  have h15l := congrArg Int32.toInt h15
  have b16 := gI_121_13 hI; rw [h15] at b16
  have := (e5 : (x4).toInt = ((a2).toInt) + (1))
  have := congrArg Int32.toInt (show FI 121 13 = x14 from h15)
  obtain ⟨r9, rfl, rfl, t11, t12, u13⟩ := p8
  have rg_r9 := i_rng r9
  show hw base _ _ _ _ _ [.int (r9)] _ _
  refine xw_istoren (L2 := [(3, .int (r9)), (0, .ref (base + 121)), (1, .int (a1)), (2, .int (a2))]) (aX12_signs 5 rfl) (by decide) rfl ?_
  refine hw_ic (v := ((-1) : Int32)) (aX12_signs 6 rfl) (by decide) ?_
  refine xw_istore (L2 := [(4, .int (((-1) : Int32))), (3, .int (r9)), (0, .ref (base + 121)), (1, .int (a1)), (2, .int (a2))]) (aX12_signs 7 rfl) (by decide) rfl ?_
  refine hw_ic (v := (2 : Int32)) (aX12_signs 8 rfl) (by decide) ?_
  refine xw_istore (L2 := [(5, .int ((2 : Int32))), (4, .int (((-1) : Int32))), (3, .int (r9)), (0, .ref (base + 121)), (1, .int (a1)), (2, .int (a2))]) (aX12_signs 9 rfl) (by decide) rfl ?_
  refine xw_iloadn (aX12_signs 10 rfl) rfl ?_
  refine hw_bp (v := (46 : Int32)) (aX12_signs 11 rfl) (by decide) ?_
  have j96 : ∀ (g45 : Int32) (g46 : Int32), (-1 ≤ (g45).toInt ∧ (g45).toInt ≤ 263) → (2 ≤ (g46).toInt ∧ (g46).toInt ≤ 3) → hw base (d + 1) none 213 184 [(0, .ref (base + 121)), (1, .int (a1)), (2, .int (a2)), (4, .int (g45)), (5, .int (g46))] [] (n, sl, SH, FI, FL, FR) (h_I (fun r s => ∃ FI' FL', s = (n, sl, SH, FI', FL', FR) ∧ g_I FI' ∧ g_fr n SH [(121, 67)] [149, 151] [] FI FI' ∧ g_fr n SH [] [150] [] FL FL' ∧ (1 ≤ r.toInt ∧ r.toInt ≤ 3) ∧ ((FI' 121 67).toInt = (FI 121 67).toInt + 1) ∧ (rl_t (FI' 149) (FL' 150)))) := by
    intro g45 g46 q97 q98
    have rg_g45 := i_rng g45
    have rg_g46 := i_rng g46
    refine xw_iload (aX12_signs 88 rfl) rfl ?_
    refine hw_ic (v := ((-1) : Int32)) (aX12_signs 89 rfl) (by decide) ?_
    have j148 : ∀ (g127 : Int32) (g128 : Int32), (-1 ≤ (g127).toInt ∧ (g127).toInt ≤ 263) → (1 ≤ (g128).toInt ∧ (g128).toInt ≤ 3) → hw base (d + 1) none 213 356 [(0, .ref (base + 121)), (2, .int (a2)), (4, .int (g127)), (5, .int (g128))] [] (n, sl, SH, FI, FL, FR) (h_I (fun r s => ∃ FI' FL', s = (n, sl, SH, FI', FL', FR) ∧ g_I FI' ∧ g_fr n SH [(121, 67)] [149, 151] [] FI FI' ∧ g_fr n SH [] [150] [] FL FL' ∧ (1 ≤ r.toInt ∧ r.toInt ≤ 3) ∧ ((FI' 121 67).toInt = (FI 121 67).toInt + 1) ∧ (rl_t (FI' 149) (FL' 150)))) := by
      intro g127 g128 q149 q150
      have rg_g127 := i_rng g127
      have rg_g128 := i_rng g128
      refine hw_aloadn (aX12_signs 175 rfl) rfl ?_
      refine xw_iload (aX12_signs 176 rfl) rfl ?_
      refine hw_ic (v := ((-1) : Int32)) (aX12_signs 177 rfl) (by decide) ?_
      have j170 : ∀ (g152 : Int32), (5 ≤ (g152).toInt ∧ (g152).toInt ≤ 6) → hw base (d + 1) none 213 369 [(0, .ref (base + 121)), (2, .int (a2)), (4, .int (g127)), (5, .int (g128))] [.int (g152), .ref (base + 121)] (n, sl, SH, FI, FL, FR) (h_I (fun r s => ∃ FI' FL', s = (n, sl, SH, FI', FL', FR) ∧ g_I FI' ∧ g_fr n SH [(121, 67)] [149, 151] [] FI FI' ∧ g_fr n SH [] [150] [] FL FL' ∧ (1 ≤ r.toInt ∧ r.toInt ≤ 3) ∧ ((FI' 121 67).toInt = (FI 121 67).toInt + 1) ∧ (rl_t (FI' 149) (FL' 150)))) := by
        intro g152 q171
        have rg_g152 := i_rng g152
        refine xw_iload (aX12_signs 182 rfl) rfl ?_
        refine xw_i2l (aX12_signs 183 rfl) ?_
        refine hw_tle (A := (g127).toInt) (i_2l rfl) (fun x172 e173 => ?_)
        refine xw_iloadn (aX12_signs 184 rfl) rfl ?_
        refine hw_callV (Bs := [.int (g152), .long (x172), .int (a2)]) (rest := []) (aX12_signs 185 rfl) wc_RX12_457 (by decide) rfl wi_yX12_token wv_yX12_token (c121 hS) (s121 hS) rfl rfl rfl (Nat.le_of_ble_eq_true rfl) (Nat.le_of_ble_eq_true rfl) (n_token (d := d) hS hF hI (g152) (x172) (a2) (by have := congrArg Int32.toInt (show FI 121 67 = x1 from h2); omega) (by have := (e173 : (x172).toInt = (g127).toInt); have := (e173 : (x172).toInt = (g127).toInt); omega) (by have := (e173 : (x172).toInt = (g127).toInt); have := (e173 : (x172).toInt = (g127).toInt); omega) (show rl_t (FI 149) (FL 150) from rel_tok)) (fun v174 sv175 p176 => ?_)
        have := congrArg Int32.toInt (show FI 121 67 = x1 from h2)
        obtain ⟨rfl, FI178, FL179, rfl, hI180, f181, f182, t183, u184, rl185⟩ := p176
        obtain ⟨x186, h187⟩ : ∃ y, FI178 121 67 = y := ⟨_, rfl⟩
        have h187l := congrArg Int32.toInt h187
        have b188 := gI_121_67 hI180; rw [h187] at b188
        show hw base _ _ _ _ _ [] _ _
        refine xw_iload (aX12_signs 186 rfl) rfl ?_
        refine xw_iret (aX12_signs 187 rfl) rfl rfl ?_
        exact ⟨g128, rfl, FI178, FL179, rfl, hI180, (gf_tr ex_rf gf_rf f181 rfl rfl rfl), (gf_tr ex_rf gf_rf f182 rfl rfl rfl), (by omega), (by have := congrArg Int32.toInt (show FI178 121 67 = x186 from h187); omega), (show rl_t (FI178 149) (FL179 150) from rl185)⟩
      refine hw_icne (tgt := 368) (aX12_signs 178 rfl) (by decide) rfl (by decide : ((-1) : Int32).toInt = (-1)) (fun cd189 => ?_) (fun cd189 => ?_)
      · refine hw_ic (v := (5 : Int32)) (aX12_signs 181 rfl) (by decide) ?_
        exact hw_L (j170 ((5 : Int32)) (by have := ((by decide : (5 : Int32).toInt = 5) : ((5 : Int32)).toInt = 5); show 5 ≤ ((5 : Int32)).toInt ∧ ((5 : Int32)).toInt ≤ 6; omega)) ⟨rfl, rfl, rfl, rfl, trivial⟩
      · refine hw_bp (v := (6 : Int32)) (aX12_signs 179 rfl) (by decide) ?_
        refine xw_goto (tgt := 369) (aX12_signs 180 rfl) (by decide) ?_
        exact hw_L (j170 ((6 : Int32)) (by have := ((by decide : (6 : Int32).toInt = 6) : ((6 : Int32)).toInt = 6); show 5 ≤ ((6 : Int32)).toInt ∧ ((6 : Int32)).toInt ≤ 6; omega)) ⟨rfl, rfl, rfl, rfl, trivial⟩
    refine hw_icne (tgt := 356) (aX12_signs 90 rfl) (by decide) rfl (by decide : ((-1) : Int32).toInt = (-1)) (fun cd190 => ?_) (fun cd190 => ?_)
    · exact hw_L (j148 (g45) (g46) (by show -1 ≤ (g45).toInt ∧ (g45).toInt ≤ 263; omega) (by show 1 ≤ (g46).toInt ∧ (g46).toInt ≤ 3; omega)) ⟨rfl, rfl, rfl, rfl, trivial⟩
    · refine hw_ic (v := (1 : Int32)) (aX12_signs 91 rfl) (by decide) ?_
      refine xw_istore (L2 := [(5, .int ((1 : Int32))), (0, .ref (base + 121)), (1, .int (a1)), (2, .int (a2)), (4, .int (g45))]) (aX12_signs 92 rfl) (by decide) rfl ?_
      refine xw_iloadn (aX12_signs 93 rfl) rfl ?_
      refine hw_bp (v := (61 : Int32)) (aX12_signs 94 rfl) (by decide) ?_
      have j218 : ∀ (g201 : Int32), (0 ≤ (g201).toInt ∧ (g201).toInt ≤ 1) → hw base (d + 1) none 213 258 [(0, .ref (base + 121)), (1, .int (a1)), (2, .int (a2)), (5, .int ((1 : Int32)))] [.int (g201)] (n, sl, SH, FI, FL, FR) (h_I (fun r s => ∃ FI' FL', s = (n, sl, SH, FI', FL', FR) ∧ g_I FI' ∧ g_fr n SH [(121, 67)] [149, 151] [] FI FI' ∧ g_fr n SH [] [150] [] FL FL' ∧ (1 ≤ r.toInt ∧ r.toInt ≤ 3) ∧ ((FI' 121 67).toInt = (FI 121 67).toInt + 1) ∧ (rl_t (FI' 149) (FL' 150)))) := by
        intro g201 q219
        have rg_g201 := i_rng g201
        refine xw_istore (L2 := [(6, .int (g201)), (0, .ref (base + 121)), (1, .int (a1)), (2, .int (a2)), (5, .int ((1 : Int32)))]) (aX12_signs 126 rfl) (by decide) rfl ?_
        refine xw_iload (aX12_signs 127 rfl) rfl ?_
        have j236 : ∀ (g233 : Int32), (0 ≤ (g233).toInt ∧ (g233).toInt ≤ 1) → hw base (d + 1) none 213 342 [(0, .ref (base + 121)), (1, .int (a1)), (2, .int (a2)), (5, .int ((1 : Int32)))] [.int (g233)] (n, sl, SH, FI, FL, FR) (h_I (fun r s => ∃ FI' FL', s = (n, sl, SH, FI', FL', FR) ∧ g_I FI' ∧ g_fr n SH [(121, 67)] [149, 151] [] FI FI' ∧ g_fr n SH [] [150] [] FL FL' ∧ (1 ≤ r.toInt ∧ r.toInt ≤ 3) ∧ ((FI' 121 67).toInt = (FI 121 67).toInt + 1) ∧ (rl_t (FI' 149) (FL' 150)))) := by
          intro g233 q237
          have rg_g233 := i_rng g233
          refine xw_istore (L2 := [(6, .int (g233)), (0, .ref (base + 121)), (1, .int (a1)), (2, .int (a2)), (5, .int ((1 : Int32)))]) (aX12_signs 168 rfl) (by decide) rfl ?_
          refine xw_iload (aX12_signs 169 rfl) rfl ?_
          have j240 : ∀ (g239 : Int32), (-1 ≤ (g239).toInt ∧ (g239).toInt ≤ 255) → hw base (d + 1) none 213 354 [(0, .ref (base + 121)), (2, .int (a2)), (5, .int ((1 : Int32)))] [.int (g239)] (n, sl, SH, FI, FL, FR) (h_I (fun r s => ∃ FI' FL', s = (n, sl, SH, FI', FL', FR) ∧ g_I FI' ∧ g_fr n SH [(121, 67)] [149, 151] [] FI FI' ∧ g_fr n SH [] [150] [] FL FL' ∧ (1 ≤ r.toInt ∧ r.toInt ≤ 3) ∧ ((FI' 121 67).toInt = (FI 121 67).toInt + 1) ∧ (rl_t (FI' 149) (FL' 150)))) := by
            intro g239 q241
            have rg_g239 := i_rng g239
            refine xw_istore (L2 := [(4, .int (g239)), (0, .ref (base + 121)), (2, .int (a2)), (5, .int ((1 : Int32)))]) (aX12_signs 174 rfl) (by decide) rfl ?_
            exact hw_L (j148 (g239) ((1 : Int32)) (by show -1 ≤ (g239).toInt ∧ (g239).toInt ≤ 263; omega) (by have := ((by decide : (1 : Int32).toInt = 1) : ((1 : Int32)).toInt = 1); show 1 ≤ ((1 : Int32)).toInt ∧ ((1 : Int32)).toInt ≤ 3; omega)) ⟨rfl, rfl, rfl, rfl, trivial⟩
          refine hw_ifeq (tgt := 353) (aX12_signs 170 rfl) (by decide) rfl (fun cd242 => ?_) (fun cd242 => ?_)
          · refine hw_ic (v := ((-1) : Int32)) (aX12_signs 173 rfl) (by decide) ?_
            exact hw_L (j240 (((-1) : Int32)) (by have := ((by decide : ((-1) : Int32).toInt = (-1)) : (((-1) : Int32)).toInt = (-1)); show -1 ≤ (((-1) : Int32)).toInt ∧ (((-1) : Int32)).toInt ≤ 255; omega)) ⟨rfl, rfl, rfl, trivial⟩
          · refine xw_iloadn (aX12_signs 171 rfl) rfl ?_
            refine xw_goto (tgt := 354) (aX12_signs 172 rfl) (by decide) ?_
            exact hw_L (j240 (a1) (by show -1 ≤ (a1).toInt ∧ (a1).toInt ≤ 255; omega)) ⟨rfl, rfl, rfl, trivial⟩
        have j243 : hw base (d + 1) none 213 337 [(0, .ref (base + 121)), (1, .int (a1)), (2, .int (a2)), (5, .int ((1 : Int32)))] [] (n, sl, SH, FI, FL, FR) (h_I (fun r s => ∃ FI' FL', s = (n, sl, SH, FI', FL', FR) ∧ g_I FI' ∧ g_fr n SH [(121, 67)] [149, 151] [] FI FI' ∧ g_fr n SH [] [150] [] FL FL' ∧ (1 ≤ r.toInt ∧ r.toInt ≤ 3) ∧ ((FI' 121 67).toInt = (FI 121 67).toInt + 1) ∧ (rl_t (FI' 149) (FL' 150)))) := by
          refine hw_ic (v := (1 : Int32)) (aX12_signs 165 rfl) (by decide) ?_
          refine xw_goto (tgt := 342) (aX12_signs 166 rfl) (by decide) ?_
          exact hw_L (j236 ((1 : Int32)) (by have := ((by decide : (1 : Int32).toInt = 1) : ((1 : Int32)).toInt = 1); show 0 ≤ ((1 : Int32)).toInt ∧ ((1 : Int32)).toInt ≤ 1; omega)) ⟨rfl, rfl, rfl, rfl, trivial⟩
        refine hw_ifne (tgt := 337) (aX12_signs 128 rfl) (by decide) rfl (fun cd244 => ?_) (fun cd244 => ?_)
        · exact hw_L (j243) ⟨rfl, rfl, rfl, rfl, trivial⟩
        · refine xw_iloadn (aX12_signs 129 rfl) rfl ?_
          refine hw_bp (v := (47 : Int32)) (aX12_signs 130 rfl) (by decide) ?_
          refine hw_iceq (tgt := 337) (aX12_signs 131 rfl) (by decide) rfl (by decide : (47 : Int32).toInt = 47) (fun cd245 => ?_) (fun cd245 => ?_)
          · exact hw_L (j243) ⟨rfl, rfl, rfl, rfl, trivial⟩
          · refine xw_iloadn (aX12_signs 132 rfl) rfl ?_
            refine hw_bp (v := (37 : Int32)) (aX12_signs 133 rfl) (by decide) ?_
            refine hw_iceq (tgt := 337) (aX12_signs 134 rfl) (by decide) rfl (by decide : (37 : Int32).toInt = 37) (fun cd246 => ?_) (fun cd246 => ?_)
            · exact hw_L (j243) ⟨rfl, rfl, rfl, rfl, trivial⟩
            · refine xw_iloadn (aX12_signs 135 rfl) rfl ?_
              refine hw_bp (v := (63 : Int32)) (aX12_signs 136 rfl) (by decide) ?_
              refine hw_iceq (tgt := 337) (aX12_signs 137 rfl) (by decide) rfl (by decide : (63 : Int32).toInt = 63) (fun cd247 => ?_) (fun cd247 => ?_)
              · exact hw_L (j243) ⟨rfl, rfl, rfl, rfl, trivial⟩
              · refine xw_iloadn (aX12_signs 138 rfl) rfl ?_
                refine hw_bp (v := (124 : Int32)) (aX12_signs 139 rfl) (by decide) ?_
                refine hw_iceq (tgt := 337) (aX12_signs 140 rfl) (by decide) rfl (by decide : (124 : Int32).toInt = 124) (fun cd248 => ?_) (fun cd248 => ?_)
                · exact hw_L (j243) ⟨rfl, rfl, rfl, rfl, trivial⟩
                · refine xw_iloadn (aX12_signs 141 rfl) rfl ?_
                  refine hw_bp (v := (94 : Int32)) (aX12_signs 142 rfl) (by decide) ?_
                  refine hw_iceq (tgt := 337) (aX12_signs 143 rfl) (by decide) rfl (by decide : (94 : Int32).toInt = 94) (fun cd249 => ?_) (fun cd249 => ?_)
                  · exact hw_L (j243) ⟨rfl, rfl, rfl, rfl, trivial⟩
                  · refine xw_iloadn (aX12_signs 144 rfl) rfl ?_
                    refine hw_bp (v := (38 : Int32)) (aX12_signs 145 rfl) (by decide) ?_
                    refine hw_iceq (tgt := 337) (aX12_signs 146 rfl) (by decide) rfl (by decide : (38 : Int32).toInt = 38) (fun cd250 => ?_) (fun cd250 => ?_)
                    · exact hw_L (j243) ⟨rfl, rfl, rfl, rfl, trivial⟩
                    · refine xw_iloadn (aX12_signs 147 rfl) rfl ?_
                      refine hw_bp (v := (60 : Int32)) (aX12_signs 148 rfl) (by decide) ?_
                      refine hw_iceq (tgt := 337) (aX12_signs 149 rfl) (by decide) rfl (by decide : (60 : Int32).toInt = 60) (fun cd251 => ?_) (fun cd251 => ?_)
                      · exact hw_L (j243) ⟨rfl, rfl, rfl, rfl, trivial⟩
                      · refine xw_iloadn (aX12_signs 150 rfl) rfl ?_
                        refine hw_bp (v := (62 : Int32)) (aX12_signs 151 rfl) (by decide) ?_
                        refine hw_iceq (tgt := 337) (aX12_signs 152 rfl) (by decide) rfl (by decide : (62 : Int32).toInt = 62) (fun cd252 => ?_) (fun cd252 => ?_)
                        · exact hw_L (j243) ⟨rfl, rfl, rfl, rfl, trivial⟩
                        · refine xw_iloadn (aX12_signs 153 rfl) rfl ?_
                          refine hw_bp (v := (43 : Int32)) (aX12_signs 154 rfl) (by decide) ?_
                          refine hw_iceq (tgt := 337) (aX12_signs 155 rfl) (by decide) rfl (by decide : (43 : Int32).toInt = 43) (fun cd253 => ?_) (fun cd253 => ?_)
                          · exact hw_L (j243) ⟨rfl, rfl, rfl, rfl, trivial⟩
                          · refine xw_iloadn (aX12_signs 156 rfl) rfl ?_
                            refine hw_bp (v := (45 : Int32)) (aX12_signs 157 rfl) (by decide) ?_
                            refine hw_iceq (tgt := 337) (aX12_signs 158 rfl) (by decide) rfl (by decide : (45 : Int32).toInt = 45) (fun cd254 => ?_) (fun cd254 => ?_)
                            · exact hw_L (j243) ⟨rfl, rfl, rfl, rfl, trivial⟩
                            · refine xw_iloadn (aX12_signs 159 rfl) rfl ?_
                              refine hw_bp (v := (42 : Int32)) (aX12_signs 160 rfl) (by decide) ?_
                              refine hw_iceq (tgt := 337) (aX12_signs 161 rfl) (by decide) rfl (by decide : (42 : Int32).toInt = 42) (fun cd255 => ?_) (fun cd255 => ?_)
                              · exact hw_L (j243) ⟨rfl, rfl, rfl, rfl, trivial⟩
                              · refine xw_iloadn (aX12_signs 162 rfl) rfl ?_
                                refine hw_bp (v := (126 : Int32)) (aX12_signs 163 rfl) (by decide) ?_
                                refine hw_icne (tgt := 341) (aX12_signs 164 rfl) (by decide) rfl (by decide : (126 : Int32).toInt = 126) (fun cd256 => ?_) (fun cd256 => ?_)
                                · refine hw_ic (v := (0 : Int32)) (aX12_signs 167 rfl) (by decide) ?_
                                  exact hw_L (j236 ((0 : Int32)) (by have := ((by decide : (0 : Int32).toInt = 0) : ((0 : Int32)).toInt = 0); show 0 ≤ ((0 : Int32)).toInt ∧ ((0 : Int32)).toInt ≤ 1; omega)) ⟨rfl, rfl, rfl, rfl, trivial⟩
                                · exact hw_L (j243) ⟨rfl, rfl, rfl, rfl, trivial⟩
      have j257 : (40 ≤ (a1).toInt ∧ (a1).toInt ≤ 125) → hw base (d + 1) none 213 253 [(0, .ref (base + 121)), (1, .int (a1)), (2, .int (a2)), (5, .int ((1 : Int32)))] [] (n, sl, SH, FI, FL, FR) (h_I (fun r s => ∃ FI' FL', s = (n, sl, SH, FI', FL', FR) ∧ g_I FI' ∧ g_fr n SH [(121, 67)] [149, 151] [] FI FI' ∧ g_fr n SH [] [150] [] FL FL' ∧ (1 ≤ r.toInt ∧ r.toInt ≤ 3) ∧ ((FI' 121 67).toInt = (FI 121 67).toInt + 1) ∧ (rl_t (FI' 149) (FL' 150)))) := by
        intro q258
        refine hw_ic (v := (1 : Int32)) (aX12_signs 123 rfl) (by decide) ?_
        refine xw_goto (tgt := 258) (aX12_signs 124 rfl) (by decide) ?_
        exact hw_L (j218 ((1 : Int32)) (by have := ((by decide : (1 : Int32).toInt = 1) : ((1 : Int32)).toInt = 1); show 0 ≤ ((1 : Int32)).toInt ∧ ((1 : Int32)).toInt ≤ 1; omega)) ⟨rfl, rfl, rfl, rfl, trivial⟩
      refine hw_iceq (tgt := 253) (aX12_signs 95 rfl) (by decide) rfl (by decide : (61 : Int32).toInt = 61) (fun cd259 => ?_) (fun cd259 => ?_)
      · exact hw_L (j257 (by omega)) ⟨rfl, rfl, rfl, rfl, trivial⟩
      · refine xw_iloadn (aX12_signs 96 rfl) rfl ?_
        refine hw_bp (v := (59 : Int32)) (aX12_signs 97 rfl) (by decide) ?_
        refine hw_iceq (tgt := 253) (aX12_signs 98 rfl) (by decide) rfl (by decide : (59 : Int32).toInt = 59) (fun cd260 => ?_) (fun cd260 => ?_)
        · exact hw_L (j257 (by omega)) ⟨rfl, rfl, rfl, rfl, trivial⟩
        · refine xw_iloadn (aX12_signs 99 rfl) rfl ?_
          refine hw_bp (v := (44 : Int32)) (aX12_signs 100 rfl) (by decide) ?_
          refine hw_iceq (tgt := 253) (aX12_signs 101 rfl) (by decide) rfl (by decide : (44 : Int32).toInt = 44) (fun cd261 => ?_) (fun cd261 => ?_)
          · exact hw_L (j257 (by omega)) ⟨rfl, rfl, rfl, rfl, trivial⟩
          · refine xw_iloadn (aX12_signs 102 rfl) rfl ?_
            refine hw_bp (v := (58 : Int32)) (aX12_signs 103 rfl) (by decide) ?_
            refine hw_iceq (tgt := 253) (aX12_signs 104 rfl) (by decide) rfl (by decide : (58 : Int32).toInt = 58) (fun cd262 => ?_) (fun cd262 => ?_)
            · exact hw_L (j257 (by omega)) ⟨rfl, rfl, rfl, rfl, trivial⟩
            · refine xw_iloadn (aX12_signs 105 rfl) rfl ?_
              refine hw_bp (v := (123 : Int32)) (aX12_signs 106 rfl) (by decide) ?_
              refine hw_iceq (tgt := 253) (aX12_signs 107 rfl) (by decide) rfl (by decide : (123 : Int32).toInt = 123) (fun cd263 => ?_) (fun cd263 => ?_)
              · exact hw_L (j257 (by omega)) ⟨rfl, rfl, rfl, rfl, trivial⟩
              · refine xw_iloadn (aX12_signs 108 rfl) rfl ?_
                refine hw_bp (v := (125 : Int32)) (aX12_signs 109 rfl) (by decide) ?_
                refine hw_iceq (tgt := 253) (aX12_signs 110 rfl) (by decide) rfl (by decide : (125 : Int32).toInt = 125) (fun cd264 => ?_) (fun cd264 => ?_)
                · exact hw_L (j257 (by omega)) ⟨rfl, rfl, rfl, rfl, trivial⟩
                · refine xw_iloadn (aX12_signs 111 rfl) rfl ?_
                  refine hw_bp (v := (91 : Int32)) (aX12_signs 112 rfl) (by decide) ?_
                  refine hw_iceq (tgt := 253) (aX12_signs 113 rfl) (by decide) rfl (by decide : (91 : Int32).toInt = 91) (fun cd265 => ?_) (fun cd265 => ?_)
                  · exact hw_L (j257 (by omega)) ⟨rfl, rfl, rfl, rfl, trivial⟩
                  · refine xw_iloadn (aX12_signs 114 rfl) rfl ?_
                    refine hw_bp (v := (93 : Int32)) (aX12_signs 115 rfl) (by decide) ?_
                    refine hw_iceq (tgt := 253) (aX12_signs 116 rfl) (by decide) rfl (by decide : (93 : Int32).toInt = 93) (fun cd266 => ?_) (fun cd266 => ?_)
                    · exact hw_L (j257 (by omega)) ⟨rfl, rfl, rfl, rfl, trivial⟩
                    · refine xw_iloadn (aX12_signs 117 rfl) rfl ?_
                      refine hw_bp (v := (40 : Int32)) (aX12_signs 118 rfl) (by decide) ?_
                      refine hw_iceq (tgt := 253) (aX12_signs 119 rfl) (by decide) rfl (by decide : (40 : Int32).toInt = 40) (fun cd267 => ?_) (fun cd267 => ?_)
                      · exact hw_L (j257 (by omega)) ⟨rfl, rfl, rfl, rfl, trivial⟩
                      · refine xw_iloadn (aX12_signs 120 rfl) rfl ?_
                        refine hw_bp (v := (41 : Int32)) (aX12_signs 121 rfl) (by decide) ?_
                        refine hw_icne (tgt := 257) (aX12_signs 122 rfl) (by decide) rfl (by decide : (41 : Int32).toInt = 41) (fun cd268 => ?_) (fun cd268 => ?_)
                        · refine hw_ic (v := (0 : Int32)) (aX12_signs 125 rfl) (by decide) ?_
                          exact hw_L (j218 ((0 : Int32)) (by have := ((by decide : (0 : Int32).toInt = 0) : ((0 : Int32)).toInt = 0); show 0 ≤ ((0 : Int32)).toInt ∧ ((0 : Int32)).toInt ≤ 1; omega)) ⟨rfl, rfl, rfl, rfl, trivial⟩
                        · exact hw_L (j257 (by omega)) ⟨rfl, rfl, rfl, rfl, trivial⟩
  have j269 : hw base (d + 1) none 213 34 [(0, .ref (base + 121)), (1, .int (a1)), (2, .int (a2)), (3, .int (r9)), (4, .int (((-1) : Int32))), (5, .int ((2 : Int32)))] [] (n, sl, SH, FI, FL, FR) (h_I (fun r s => ∃ FI' FL', s = (n, sl, SH, FI', FL', FR) ∧ g_I FI' ∧ g_fr n SH [(121, 67)] [149, 151] [] FI FI' ∧ g_fr n SH [] [150] [] FL FL' ∧ (1 ≤ r.toInt ∧ r.toInt ≤ 3) ∧ ((FI' 121 67).toInt = (FI 121 67).toInt + 1) ∧ (rl_t (FI' 149) (FL' 150)))) := by
    refine xw_iloadn (aX12_signs 19 rfl) rfl ?_
    refine hw_bp (v := (61 : Int32)) (aX12_signs 20 rfl) (by decide) ?_
    have j296 : hw base (d + 1) none 213 54 [(0, .ref (base + 121)), (1, .int (a1)), (2, .int (a2)), (3, .int (r9)), (4, .int (((-1) : Int32))), (5, .int ((2 : Int32)))] [] (n, sl, SH, FI, FL, FR) (h_I (fun r s => ∃ FI' FL', s = (n, sl, SH, FI', FL', FR) ∧ g_I FI' ∧ g_fr n SH [(121, 67)] [149, 151] [] FI FI' ∧ g_fr n SH [] [150] [] FL FL' ∧ (1 ≤ r.toInt ∧ r.toInt ≤ 3) ∧ ((FI' 121 67).toInt = (FI 121 67).toInt + 1) ∧ (rl_t (FI' 149) (FL' 150)))) := by
      refine xw_iloadn (aX12_signs 28 rfl) rfl ?_
      refine hw_bp (v := (33 : Int32)) (aX12_signs 29 rfl) (by decide) ?_
      have j321 : hw base (d + 1) none 213 74 [(0, .ref (base + 121)), (1, .int (a1)), (2, .int (a2)), (3, .int (r9)), (4, .int (((-1) : Int32))), (5, .int ((2 : Int32)))] [] (n, sl, SH, FI, FL, FR) (h_I (fun r s => ∃ FI' FL', s = (n, sl, SH, FI', FL', FR) ∧ g_I FI' ∧ g_fr n SH [(121, 67)] [149, 151] [] FI FI' ∧ g_fr n SH [] [150] [] FL FL' ∧ (1 ≤ r.toInt ∧ r.toInt ≤ 3) ∧ ((FI' 121 67).toInt = (FI 121 67).toInt + 1) ∧ (rl_t (FI' 149) (FL' 150)))) := by
        refine xw_iloadn (aX12_signs 37 rfl) rfl ?_
        refine hw_bp (v := (60 : Int32)) (aX12_signs 38 rfl) (by decide) ?_
        have j344 : hw base (d + 1) none 213 94 [(0, .ref (base + 121)), (1, .int (a1)), (2, .int (a2)), (3, .int (r9)), (4, .int (((-1) : Int32))), (5, .int ((2 : Int32)))] [] (n, sl, SH, FI, FL, FR) (h_I (fun r s => ∃ FI' FL', s = (n, sl, SH, FI', FL', FR) ∧ g_I FI' ∧ g_fr n SH [(121, 67)] [149, 151] [] FI FI' ∧ g_fr n SH [] [150] [] FL FL' ∧ (1 ≤ r.toInt ∧ r.toInt ≤ 3) ∧ ((FI' 121 67).toInt = (FI 121 67).toInt + 1) ∧ (rl_t (FI' 149) (FL' 150)))) := by
          refine xw_iloadn (aX12_signs 46 rfl) rfl ?_
          refine hw_bp (v := (62 : Int32)) (aX12_signs 47 rfl) (by decide) ?_
          have j365 : hw base (d + 1) none 213 114 [(0, .ref (base + 121)), (1, .int (a1)), (2, .int (a2)), (3, .int (r9)), (4, .int (((-1) : Int32))), (5, .int ((2 : Int32)))] [] (n, sl, SH, FI, FL, FR) (h_I (fun r s => ∃ FI' FL', s = (n, sl, SH, FI', FL', FR) ∧ g_I FI' ∧ g_fr n SH [(121, 67)] [149, 151] [] FI FI' ∧ g_fr n SH [] [150] [] FL FL' ∧ (1 ≤ r.toInt ∧ r.toInt ≤ 3) ∧ ((FI' 121 67).toInt = (FI 121 67).toInt + 1) ∧ (rl_t (FI' 149) (FL' 150)))) := by
            refine xw_iloadn (aX12_signs 55 rfl) rfl ?_
            refine hw_bp (v := (60 : Int32)) (aX12_signs 56 rfl) (by decide) ?_
            have j384 : hw base (d + 1) none 213 134 [(0, .ref (base + 121)), (1, .int (a1)), (2, .int (a2)), (3, .int (r9)), (4, .int (((-1) : Int32))), (5, .int ((2 : Int32)))] [] (n, sl, SH, FI, FL, FR) (h_I (fun r s => ∃ FI' FL', s = (n, sl, SH, FI', FL', FR) ∧ g_I FI' ∧ g_fr n SH [(121, 67)] [149, 151] [] FI FI' ∧ g_fr n SH [] [150] [] FL FL' ∧ (1 ≤ r.toInt ∧ r.toInt ≤ 3) ∧ ((FI' 121 67).toInt = (FI 121 67).toInt + 1) ∧ (rl_t (FI' 149) (FL' 150)))) := by
              refine xw_iloadn (aX12_signs 64 rfl) rfl ?_
              refine hw_bp (v := (62 : Int32)) (aX12_signs 65 rfl) (by decide) ?_
              refine hw_icne (tgt := 184) (aX12_signs 66 rfl) (by decide) rfl (by decide : (62 : Int32).toInt = 62) (fun cd385 => ?_) (fun cd385 => ?_)
              · exact hw_L (j96 (((-1) : Int32)) ((2 : Int32)) (by have := ((by decide : ((-1) : Int32).toInt = (-1)) : (((-1) : Int32)).toInt = (-1)); show -1 ≤ (((-1) : Int32)).toInt ∧ (((-1) : Int32)).toInt ≤ 263; omega) (by have := ((by decide : (2 : Int32).toInt = 2) : ((2 : Int32)).toInt = 2); show 2 ≤ ((2 : Int32)).toInt ∧ ((2 : Int32)).toInt ≤ 3; omega)) ⟨rfl, rfl, rfl, rfl, rfl, trivial⟩
              · refine xw_iloadn (aX12_signs 67 rfl) rfl ?_
                refine hw_bp (v := (62 : Int32)) (aX12_signs 68 rfl) (by decide) ?_
                refine hw_icne (tgt := 184) (aX12_signs 69 rfl) (by decide) rfl (by decide : (62 : Int32).toInt = 62) (fun cd386 => ?_) (fun cd386 => ?_)
                · exact hw_L (j96 (((-1) : Int32)) ((2 : Int32)) (by have := ((by decide : ((-1) : Int32).toInt = (-1)) : (((-1) : Int32)).toInt = (-1)); show -1 ≤ (((-1) : Int32)).toInt ∧ (((-1) : Int32)).toInt ≤ 263; omega) (by have := ((by decide : (2 : Int32).toInt = 2) : ((2 : Int32)).toInt = 2); show 2 ≤ ((2 : Int32)).toInt ∧ ((2 : Int32)).toInt ≤ 3; omega)) ⟨rfl, rfl, rfl, rfl, rfl, trivial⟩
                · refine hw_aloadn (aX12_signs 70 rfl) rfl ?_
                  refine xw_iloadn (aX12_signs 71 rfl) rfl ?_
                  refine hw_ic (v := (2 : Int32)) (aX12_signs 72 rfl) (by decide) ?_
                  refine xw_iadd (aX12_signs 73 rfl) ?_
                  refine hw_tie (A := ((a2).toInt) + (2)) (i_add rfl (by decide : (2 : Int32).toInt = 2) (by omega) (by omega)) (fun x387 e388 => ?_)
                  refine hw_callV (Bs := [.int (x387)]) (rest := []) (aX12_signs 74 rfl) wc_RX12_449 (by decide) rfl wi_yX12_sign wv_yX12_sign (c121 hS) (s121 hS) rfl rfl rfl (Nat.le_of_ble_eq_true rfl) (Nat.le_of_ble_eq_true rfl) (n_sign (d := d) hS hF hI (x387) (by have := (e388 : (x387).toInt = ((a2).toInt) + (2)); have := (e388 : (x387).toInt = ((a2).toInt) + (2)); omega)) (fun v389 sv390 p391 => ?_)
                  have := (e388 : (x387).toInt = ((a2).toInt) + (2))
                  have := congrArg Int32.toInt (show FI 121 13 = x14 from h15)
                  obtain ⟨r392, rfl, rfl, t394, t395, u396⟩ := p391
                  have rg_r392 := i_rng r392
                  show hw base _ _ _ _ _ [.int (r392)] _ _
                  refine hw_bp (v := (62 : Int32)) (aX12_signs 75 rfl) (by decide) ?_
                  have j401 : ∀ (g398 : Int32), (262 ≤ (g398).toInt ∧ (g398).toInt ≤ 263) → hw base (d + 1) none 213 167 [(0, .ref (base + 121)), (1, .int (a1)), (2, .int (a2))] [.int (g398)] (n, sl, SH, FI, FL, FR) (h_I (fun r s => ∃ FI' FL', s = (n, sl, SH, FI', FL', FR) ∧ g_I FI' ∧ g_fr n SH [(121, 67)] [149, 151] [] FI FI' ∧ g_fr n SH [] [150] [] FL FL' ∧ (1 ≤ r.toInt ∧ r.toInt ≤ 3) ∧ ((FI' 121 67).toInt = (FI 121 67).toInt + 1) ∧ (rl_t (FI' 149) (FL' 150)))) := by
                    intro g398 q402
                    have rg_g398 := i_rng g398
                    refine xw_istore (L2 := [(4, .int (g398)), (0, .ref (base + 121)), (1, .int (a1)), (2, .int (a2))]) (aX12_signs 80 rfl) (by decide) rfl ?_
                    refine xw_iload (aX12_signs 81 rfl) rfl ?_
                    refine hw_sp (v := (263 : Int32)) (aX12_signs 82 rfl) (by decide) ?_
                    have j405 : ∀ (g404 : Int32), (2 ≤ (g404).toInt ∧ (g404).toInt ≤ 3) → hw base (d + 1) none 213 182 [(0, .ref (base + 121)), (1, .int (a1)), (2, .int (a2)), (4, .int (g398))] [.int (g404)] (n, sl, SH, FI, FL, FR) (h_I (fun r s => ∃ FI' FL', s = (n, sl, SH, FI', FL', FR) ∧ g_I FI' ∧ g_fr n SH [(121, 67)] [149, 151] [] FI FI' ∧ g_fr n SH [] [150] [] FL FL' ∧ (1 ≤ r.toInt ∧ r.toInt ≤ 3) ∧ ((FI' 121 67).toInt = (FI 121 67).toInt + 1) ∧ (rl_t (FI' 149) (FL' 150)))) := by
                      intro g404 q406
                      have rg_g404 := i_rng g404
                      refine xw_istore (L2 := [(5, .int (g404)), (0, .ref (base + 121)), (1, .int (a1)), (2, .int (a2)), (4, .int (g398))]) (aX12_signs 87 rfl) (by decide) rfl ?_
                      exact hw_L (j96 (g398) (g404) (by show -1 ≤ (g398).toInt ∧ (g398).toInt ≤ 263; omega) (by show 2 ≤ (g404).toInt ∧ (g404).toInt ≤ 3; omega)) ⟨rfl, rfl, rfl, rfl, rfl, trivial⟩
                    refine hw_icne (tgt := 181) (aX12_signs 83 rfl) (by decide) rfl (by decide : (263 : Int32).toInt = 263) (fun cd407 => ?_) (fun cd407 => ?_)
                    · refine hw_ic (v := (2 : Int32)) (aX12_signs 86 rfl) (by decide) ?_
                      exact hw_L (j405 ((2 : Int32)) (by have := ((by decide : (2 : Int32).toInt = 2) : ((2 : Int32)).toInt = 2); show 2 ≤ ((2 : Int32)).toInt ∧ ((2 : Int32)).toInt ≤ 3; omega)) ⟨rfl, rfl, rfl, rfl, trivial⟩
                    · refine hw_ic (v := (3 : Int32)) (aX12_signs 84 rfl) (by decide) ?_
                      refine xw_goto (tgt := 182) (aX12_signs 85 rfl) (by decide) ?_
                      exact hw_L (j405 ((3 : Int32)) (by have := ((by decide : (3 : Int32).toInt = 3) : ((3 : Int32)).toInt = 3); show 2 ≤ ((3 : Int32)).toInt ∧ ((3 : Int32)).toInt ≤ 3; omega)) ⟨rfl, rfl, rfl, rfl, trivial⟩
                  refine hw_icne (tgt := 164) (aX12_signs 76 rfl) (by decide) rfl (by decide : (62 : Int32).toInt = 62) (fun cd408 => ?_) (fun cd408 => ?_)
                  · refine hw_sp (v := (262 : Int32)) (aX12_signs 79 rfl) (by decide) ?_
                    exact hw_L (j401 ((262 : Int32)) (by have := ((by decide : (262 : Int32).toInt = 262) : ((262 : Int32)).toInt = 262); show 262 ≤ ((262 : Int32)).toInt ∧ ((262 : Int32)).toInt ≤ 263; omega)) ⟨rfl, rfl, rfl, trivial⟩
                  · refine hw_sp (v := (263 : Int32)) (aX12_signs 77 rfl) (by decide) ?_
                    refine xw_goto (tgt := 167) (aX12_signs 78 rfl) (by decide) ?_
                    exact hw_L (j401 ((263 : Int32)) (by have := ((by decide : (263 : Int32).toInt = 263) : ((263 : Int32)).toInt = 263); show 262 ≤ ((263 : Int32)).toInt ∧ ((263 : Int32)).toInt ≤ 263; omega)) ⟨rfl, rfl, rfl, trivial⟩
            refine hw_icne (tgt := 134) (aX12_signs 57 rfl) (by decide) rfl (by decide : (60 : Int32).toInt = 60) (fun cd409 => ?_) (fun cd409 => ?_)
            · exact hw_L (j384) ⟨rfl, rfl, rfl, rfl, rfl, rfl, trivial⟩
            · refine xw_iloadn (aX12_signs 58 rfl) rfl ?_
              refine hw_bp (v := (60 : Int32)) (aX12_signs 59 rfl) (by decide) ?_
              refine hw_icne (tgt := 134) (aX12_signs 60 rfl) (by decide) rfl (by decide : (60 : Int32).toInt = 60) (fun cd410 => ?_) (fun cd410 => ?_)
              · exact hw_L (j384) ⟨rfl, rfl, rfl, rfl, rfl, rfl, trivial⟩
              · refine hw_sp (v := (261 : Int32)) (aX12_signs 61 rfl) (by decide) ?_
                refine xw_istore (L2 := [(4, .int ((261 : Int32))), (0, .ref (base + 121)), (1, .int (a1)), (2, .int (a2)), (3, .int (r9)), (5, .int ((2 : Int32)))]) (aX12_signs 62 rfl) (by decide) rfl ?_
                refine xw_goto (tgt := 184) (aX12_signs 63 rfl) (by decide) ?_
                exact hw_L (j96 ((261 : Int32)) ((2 : Int32)) (by have := ((by decide : (261 : Int32).toInt = 261) : ((261 : Int32)).toInt = 261); show -1 ≤ ((261 : Int32)).toInt ∧ ((261 : Int32)).toInt ≤ 263; omega) (by have := ((by decide : (2 : Int32).toInt = 2) : ((2 : Int32)).toInt = 2); show 2 ≤ ((2 : Int32)).toInt ∧ ((2 : Int32)).toInt ≤ 3; omega)) ⟨rfl, rfl, rfl, rfl, rfl, trivial⟩
          refine hw_icne (tgt := 114) (aX12_signs 48 rfl) (by decide) rfl (by decide : (62 : Int32).toInt = 62) (fun cd411 => ?_) (fun cd411 => ?_)
          · exact hw_L (j365) ⟨rfl, rfl, rfl, rfl, rfl, rfl, trivial⟩
          · refine xw_iloadn (aX12_signs 49 rfl) rfl ?_
            refine hw_bp (v := (61 : Int32)) (aX12_signs 50 rfl) (by decide) ?_
            refine hw_icne (tgt := 114) (aX12_signs 51 rfl) (by decide) rfl (by decide : (61 : Int32).toInt = 61) (fun cd412 => ?_) (fun cd412 => ?_)
            · exact hw_L (j365) ⟨rfl, rfl, rfl, rfl, rfl, rfl, trivial⟩
            · refine hw_sp (v := (260 : Int32)) (aX12_signs 52 rfl) (by decide) ?_
              refine xw_istore (L2 := [(4, .int ((260 : Int32))), (0, .ref (base + 121)), (1, .int (a1)), (2, .int (a2)), (3, .int (r9)), (5, .int ((2 : Int32)))]) (aX12_signs 53 rfl) (by decide) rfl ?_
              refine xw_goto (tgt := 184) (aX12_signs 54 rfl) (by decide) ?_
              exact hw_L (j96 ((260 : Int32)) ((2 : Int32)) (by have := ((by decide : (260 : Int32).toInt = 260) : ((260 : Int32)).toInt = 260); show -1 ≤ ((260 : Int32)).toInt ∧ ((260 : Int32)).toInt ≤ 263; omega) (by have := ((by decide : (2 : Int32).toInt = 2) : ((2 : Int32)).toInt = 2); show 2 ≤ ((2 : Int32)).toInt ∧ ((2 : Int32)).toInt ≤ 3; omega)) ⟨rfl, rfl, rfl, rfl, rfl, trivial⟩
        refine hw_icne (tgt := 94) (aX12_signs 39 rfl) (by decide) rfl (by decide : (60 : Int32).toInt = 60) (fun cd413 => ?_) (fun cd413 => ?_)
        · exact hw_L (j344) ⟨rfl, rfl, rfl, rfl, rfl, rfl, trivial⟩
        · refine xw_iloadn (aX12_signs 40 rfl) rfl ?_
          refine hw_bp (v := (61 : Int32)) (aX12_signs 41 rfl) (by decide) ?_
          refine hw_icne (tgt := 94) (aX12_signs 42 rfl) (by decide) rfl (by decide : (61 : Int32).toInt = 61) (fun cd414 => ?_) (fun cd414 => ?_)
          · exact hw_L (j344) ⟨rfl, rfl, rfl, rfl, rfl, rfl, trivial⟩
          · refine hw_sp (v := (259 : Int32)) (aX12_signs 43 rfl) (by decide) ?_
            refine xw_istore (L2 := [(4, .int ((259 : Int32))), (0, .ref (base + 121)), (1, .int (a1)), (2, .int (a2)), (3, .int (r9)), (5, .int ((2 : Int32)))]) (aX12_signs 44 rfl) (by decide) rfl ?_
            refine xw_goto (tgt := 184) (aX12_signs 45 rfl) (by decide) ?_
            exact hw_L (j96 ((259 : Int32)) ((2 : Int32)) (by have := ((by decide : (259 : Int32).toInt = 259) : ((259 : Int32)).toInt = 259); show -1 ≤ ((259 : Int32)).toInt ∧ ((259 : Int32)).toInt ≤ 263; omega) (by have := ((by decide : (2 : Int32).toInt = 2) : ((2 : Int32)).toInt = 2); show 2 ≤ ((2 : Int32)).toInt ∧ ((2 : Int32)).toInt ≤ 3; omega)) ⟨rfl, rfl, rfl, rfl, rfl, trivial⟩
      refine hw_icne (tgt := 74) (aX12_signs 30 rfl) (by decide) rfl (by decide : (33 : Int32).toInt = 33) (fun cd415 => ?_) (fun cd415 => ?_)
      · exact hw_L (j321) ⟨rfl, rfl, rfl, rfl, rfl, rfl, trivial⟩
      · refine xw_iloadn (aX12_signs 31 rfl) rfl ?_
        refine hw_bp (v := (61 : Int32)) (aX12_signs 32 rfl) (by decide) ?_
        refine hw_icne (tgt := 74) (aX12_signs 33 rfl) (by decide) rfl (by decide : (61 : Int32).toInt = 61) (fun cd416 => ?_) (fun cd416 => ?_)
        · exact hw_L (j321) ⟨rfl, rfl, rfl, rfl, rfl, rfl, trivial⟩
        · refine hw_sp (v := (258 : Int32)) (aX12_signs 34 rfl) (by decide) ?_
          refine xw_istore (L2 := [(4, .int ((258 : Int32))), (0, .ref (base + 121)), (1, .int (a1)), (2, .int (a2)), (3, .int (r9)), (5, .int ((2 : Int32)))]) (aX12_signs 35 rfl) (by decide) rfl ?_
          refine xw_goto (tgt := 184) (aX12_signs 36 rfl) (by decide) ?_
          exact hw_L (j96 ((258 : Int32)) ((2 : Int32)) (by have := ((by decide : (258 : Int32).toInt = 258) : ((258 : Int32)).toInt = 258); show -1 ≤ ((258 : Int32)).toInt ∧ ((258 : Int32)).toInt ≤ 263; omega) (by have := ((by decide : (2 : Int32).toInt = 2) : ((2 : Int32)).toInt = 2); show 2 ≤ ((2 : Int32)).toInt ∧ ((2 : Int32)).toInt ≤ 3; omega)) ⟨rfl, rfl, rfl, rfl, rfl, trivial⟩
    refine hw_icne (tgt := 54) (aX12_signs 21 rfl) (by decide) rfl (by decide : (61 : Int32).toInt = 61) (fun cd417 => ?_) (fun cd417 => ?_)
    · exact hw_L (j296) ⟨rfl, rfl, rfl, rfl, rfl, rfl, trivial⟩
    · refine xw_iloadn (aX12_signs 22 rfl) rfl ?_
      refine hw_bp (v := (61 : Int32)) (aX12_signs 23 rfl) (by decide) ?_
      refine hw_icne (tgt := 54) (aX12_signs 24 rfl) (by decide) rfl (by decide : (61 : Int32).toInt = 61) (fun cd418 => ?_) (fun cd418 => ?_)
      · exact hw_L (j296) ⟨rfl, rfl, rfl, rfl, rfl, rfl, trivial⟩
      · refine hw_sp (v := (257 : Int32)) (aX12_signs 25 rfl) (by decide) ?_
        refine xw_istore (L2 := [(4, .int ((257 : Int32))), (0, .ref (base + 121)), (1, .int (a1)), (2, .int (a2)), (3, .int (r9)), (5, .int ((2 : Int32)))]) (aX12_signs 26 rfl) (by decide) rfl ?_
        refine xw_goto (tgt := 184) (aX12_signs 27 rfl) (by decide) ?_
        exact hw_L (j96 ((257 : Int32)) ((2 : Int32)) (by have := ((by decide : (257 : Int32).toInt = 257) : ((257 : Int32)).toInt = 257); show -1 ≤ ((257 : Int32)).toInt ∧ ((257 : Int32)).toInt ≤ 263; omega) (by have := ((by decide : (2 : Int32).toInt = 2) : ((2 : Int32)).toInt = 2); show 2 ≤ ((2 : Int32)).toInt ∧ ((2 : Int32)).toInt ≤ 3; omega)) ⟨rfl, rfl, rfl, rfl, rfl, trivial⟩
  refine hw_icne (tgt := 34) (aX12_signs 12 rfl) (by decide) rfl (by decide : (46 : Int32).toInt = 46) (fun cd419 => ?_) (fun cd419 => ?_)
  · exact hw_L (j269) ⟨rfl, rfl, rfl, rfl, rfl, rfl, trivial⟩
  · refine xw_iloadn (aX12_signs 13 rfl) rfl ?_
    refine hw_bp (v := (46 : Int32)) (aX12_signs 14 rfl) (by decide) ?_
    refine hw_icne (tgt := 34) (aX12_signs 15 rfl) (by decide) rfl (by decide : (46 : Int32).toInt = 46) (fun cd420 => ?_) (fun cd420 => ?_)
    · exact hw_L (j269) ⟨rfl, rfl, rfl, rfl, rfl, rfl, trivial⟩
    · refine hw_sp (v := (256 : Int32)) (aX12_signs 16 rfl) (by decide) ?_
      refine xw_istore (L2 := [(4, .int ((256 : Int32))), (5, .int ((2 : Int32))), (3, .int (r9)), (0, .ref (base + 121)), (1, .int (a1)), (2, .int (a2))]) (aX12_signs 17 rfl) (by decide) rfl ?_
      refine xw_goto (tgt := 184) (aX12_signs 18 rfl) (by decide) ?_
      exact hw_L (j96 ((256 : Int32)) ((2 : Int32)) (by have := ((by decide : (256 : Int32).toInt = 256) : ((256 : Int32)).toInt = 256); show -1 ≤ ((256 : Int32)).toInt ∧ ((256 : Int32)).toInt ≤ 263; omega) (by have := ((by decide : (2 : Int32).toInt = 2) : ((2 : Int32)).toInt = 2); show 2 ≤ ((2 : Int32)).toInt ∧ ((2 : Int32)).toInt ≤ 3; omega)) ⟨rfl, rfl, rfl, rfl, rfl, trivial⟩
def nX12_tokens : Nat := 0xb1c901b6be00b42a09032a9cfea73c60d801b61b1c2a1b0c00a73c60040400a70507009905151bc901b61d85643010041506100500a70707009905152a0536030400a7040700a3381004150e00a1311004150436c101b660041b2a4700a040101c5600a7c901b61d0416060400a70610080099d501b6c101b61b2a2a0f00a31210641d1b2ad5ffa73c60041b043765d301146185c101b61b2a690416d101141600a21210641d1b250099c401b6c101b61b2a2a043709580099c401b61c2ab300a7c901b61d0416042a0b00a7c901b61d85cd01b604162a052a13009f02cd01b604162a2500a7c901b61d0906102a0e00a40810641d1bb5ffa73c60041b0437618564151006150800a764601006150b0099a701b606152a690416c701142300a20810641d1b0636c101b61b2a390099c401b6c101b61b2a2a0f009aa701b6c101b61b2a2a0437098c0099a701b61c2a4401a73c60041b0a00a00a101c09009f20101c3e1b3dc101b61b2a6201a2be00b42a1b3c03be01b5032a
theorem bX12_tokens : cX12_tokens.data.toList.map UInt8.toNat = x_un nX12_tokens 377 := by decide +kernel
def iX12_tokens : List (Nat × Jvm.ClassFile.Instr × Nat) := [(0, .aload_n 0, 1), (1, .iconst 0, 1), (2, .putfield 446, 3), (5, .iconst 0, 1), (6, .istore_n 1, 1), (7, .iload_n 1, 1), (8, .aload_n 0, 1), (9, .getfield 190, 3), (12, .if_icmp .ge 354, 3), (15, .aload_n 0, 1), (16, .iload_n 1, 1), (17, .invokevirtual 449, 3), (20, .istore_n 2, 1), (21, .iload_n 1, 1), (22, .istore_n 3, 1), (23, .iload_n 2, 1), (24, .bipush 32, 2), (26, .if_icmp .eq 9, 3), (29, .iload_n 2, 1), (30, .bipush 10, 2), (32, .if_icmp .ne 10, 3), (35, .iload_n 1, 1), (36, .iconst 1, 1), (37, .iadd, 1), (38, .istore_n 1, 1), (39, .goto 324, 3), (42, .aload_n 0, 1), (43, .iload_n 2, 1), (44, .invokevirtual 423, 3), (47, .ifCond .eq 140, 3), (50, .lconst 0, 1), (51, .lstore 4, 2), (53, .aload_n 0, 1), (54, .aload_n 0, 1), (55, .iload_n 1, 1), (56, .invokevirtual 449, 3), (59, .invokevirtual 423, 3), (62, .ifCond .ne 15, 3), (65, .aload_n 0, 1), (66, .aload_n 0, 1), (67, .iload_n 1, 1), (68, .invokevirtual 449, 3), (71, .invokevirtual 452, 3), (74, .ifCond .eq 57, 3), (77, .aload_n 0, 1), (78, .iload_n 1, 1), (79, .invokevirtual 449, 3), (82, .istore 6, 2), (84, .iload_n 1, 1), (85, .iload_n 3, 1), (86, .isub, 1), (87, .bipush 8, 2), (89, .if_icmp .ge 35, 3), (92, .ldc2_w 455, 3), (95, .lload 4, 2), (97, .lmul, 1), (98, .aload_n 0, 1), (99, .iload 6, 2), (101, .invokevirtual 423, 3), (104, .ifCond .eq 11, 3), (107, .iload 6, 2), (109, .bipush 96, 2), (111, .isub, 1), (112, .goto 8, 3), (115, .iload 6, 2), (117, .bipush 21, 2), (119, .isub, 1), (120, .i2l, 1), (121, .ladd, 1), (122, .lstore 4, 2), (124, .iload_n 1, 1), (125, .iconst 1, 1), (126, .iadd, 1), (127, .istore_n 1, 1), (128, .goto (-75), 3), (131, .iload_n 1, 1), (132, .iload_n 3, 1), (133, .isub, 1), (134, .bipush 8, 2), (136, .if_icmp .le 14, 3), (139, .aload_n 0, 1), (140, .bipush 6, 2), (142, .lconst 0, 1), (143, .iload_n 3, 1), (144, .invokevirtual 457, 3), (147, .goto 37, 3), (150, .aload_n 0, 1), (151, .lload 4, 2), (153, .invokevirtual 461, 3), (156, .iconst (-1), 1), (157, .if_icmp .eq 19, 3), (160, .aload_n 0, 1), (161, .iconst 2, 1), (162, .aload_n 0, 1), (163, .lload 4, 2), (165, .invokevirtual 461, 3), (168, .i2l, 1), (169, .iload_n 3, 1), (170, .invokevirtual 457, 3), (173, .goto 11, 3), (176, .aload_n 0, 1), (177, .iconst 1, 1), (178, .lload 4, 2), (180, .iload_n 3, 1), (181, .invokevirtual 457, 3), (184, .goto 179, 3), (187, .aload_n 0, 1), (188, .iload_n 2, 1), (189, .invokevirtual 452, 3), (192, .ifCond .eq 88, 3), (195, .lconst 0, 1), (196, .lstore 4, 2), (198, .aload_n 0, 1), (199, .aload_n 0, 1), (200, .iload_n 1, 1), (201, .invokevirtual 449, 3), (204, .invokevirtual 452, 3), (207, .ifCond .eq 37, 3), (210, .iload_n 1, 1), (211, .iload_n 3, 1), (212, .isub, 1), (213, .bipush 18, 2), (215, .if_icmp .ge 22, 3), (218, .ldc2_w 465, 3), (221, .lload 4, 2), (223, .lmul, 1), (224, .aload_n 0, 1), (225, .iload_n 1, 1), (226, .invokevirtual 449, 3), (229, .i2l, 1), (230, .ladd, 1), (231, .ldc2_w 467, 3), (234, .lsub, 1), (235, .lstore 4, 2), (237, .iload_n 1, 1), (238, .iconst 1, 1), (239, .iadd, 1), (240, .istore_n 1, 1), (241, .goto (-43), 3), (244, .aload_n 0, 1), (245, .iload_n 1, 1), (246, .iload_n 3, 1), (247, .isub, 1), (248, .bipush 18, 2), (250, .if_icmp .gt 15, 3), (253, .aload_n 0, 1), (254, .aload_n 0, 1), (255, .iload_n 1, 1), (256, .invokevirtual 449, 3), (259, .invokevirtual 469, 3), (262, .ifCond .eq 8, 3), (265, .bipush 6, 2), (267, .goto 4, 3), (270, .iconst 3, 1), (271, .lload 4, 2), (273, .iload_n 3, 1), (274, .invokevirtual 457, 3), (277, .goto 86, 3), (280, .iload_n 2, 1), (281, .bipush 64, 2), (283, .if_icmp .ne 71, 3), (286, .aload_n 0, 1), (287, .iload_n 1, 1), (288, .iconst 1, 1), (289, .iadd, 1), (290, .invokevirtual 449, 3), (293, .istore 4, 2), (295, .iload 4, 2), (297, .bipush 49, 2), (299, .if_icmp .lt 14, 3), (302, .iload 4, 2), (304, .bipush 56, 2), (306, .if_icmp .gt 7, 3), (309, .iconst 1, 1), (310, .goto 4, 3), (313, .iconst 0, 1), (314, .istore 5, 2), (316, .aload_n 0, 1), (317, .iload 5, 2), (319, .ifCond .eq 7, 3), (322, .iconst 4, 1), (323, .goto 5, 3), (326, .bipush 6, 2), (328, .iload 4, 2), (330, .bipush 48, 2), (332, .isub, 1), (333, .i2l, 1), (334, .iload_n 3, 1), (335, .invokevirtual 457, 3), (338, .iload_n 1, 1), (339, .iload 5, 2), (341, .ifCond .eq 7, 3), (344, .iconst 2, 1), (345, .goto 4, 3), (348, .iconst 1, 1), (349, .iadd, 1), (350, .istore_n 1, 1), (351, .goto 12, 3), (354, .iload_n 1, 1), (355, .aload_n 0, 1), (356, .iload_n 2, 1), (357, .iload_n 1, 1), (358, .invokevirtual 472, 3), (361, .iadd, 1), (362, .istore_n 1, 1), (363, .goto (-356), 3), (366, .aload_n 0, 1), (367, .iconst 0, 1), (368, .lconst 0, 1), (369, .aload_n 0, 1), (370, .getfield 190, 3), (373, .invokevirtual 457, 3), (376, .return_, 1)]
theorem dX12_tokens : x_il nX12_tokens 377 iX12_tokens = true := by decide +kernel
theorem aX12_tokens (k : Nat) {pc : Nat} {i : Jvm.ClassFile.Instr} {len : Nat} (hk : iX12_tokens[k]? = some (pc, i, len)) : x_at xMM 212 pc i len yX12_tokens 7 none := ⟨cX12_tokens, rfl, x_il_ok bX12_tokens dX12_tokens k hk⟩
set_option maxHeartbeats 4000000 in
set_option maxRecDepth 100000 in
theorem n_tokens {base d n sl : Nat} {SH : Nat → Nat × Nat} {FI : Nat → Nat → Int32} {FL : Nat → Nat → Int64} {FR : Nat → Nat → Option Nat} (hS : h_S n SH) (hF : h_FR FR) (hI : g_I FI) (rel_tok : rl_t (FI 149) (FL 150)) : hw base (d + 2) none 212 0 [(0, .ref (base + 121))] [] (n, sl, SH, FI, FL, FR) (h_V (fun s => ∃ FI' FL', s = (n, sl, SH, FI', FL', FR) ∧ g_I FI' ∧ g_fr n SH [(121, 67)] [149, 151] [] FI FI' ∧ g_fr n SH [] [150] [] FL FL' ∧ (1 ≤ (FI' 121 67).toInt) ∧ (rl_e (FI' 149) (FI' 121 67)) ∧ (rl_t (FI' 149) (FL' 150)))) := by
  obtain ⟨x1, h2⟩ : ∃ y, FI 121 67 = y := ⟨_, rfl⟩
  have h2l := congrArg Int32.toInt h2
  have b3 := gI_121_67 hI; rw [h2] at b3
  refine hw_aloadn (aX12_tokens 0 rfl) rfl ?_
  refine hw_ic (v := (0 : Int32)) (aX12_tokens 1 rfl) (by decide) ?_
  refine hv_puti (aX12_tokens 2 rfl) wf_RX12_446 (c121 hS) (s121 hS) (by decide) rfl rfl (fun FI4 u5 => ?_)
  have rl6 : rl_t (FI4 149) (FL 150) := by rw [show FI4 149 = FI 149 from up_row u5 (by decide) rfl]; exact rel_tok
  have hI7 : g_I FI4 := gU_121_67 hI u5 (by have := ((by decide : (0 : Int32).toInt = 0) : ((0 : Int32)).toInt = 0); omega) (by have := ((by decide : (0 : Int32).toInt = 0) : ((0 : Int32)).toInt = 0); omega)
  refine hw_ic (v := (0 : Int32)) (aX12_tokens 3 rfl) (by decide) ?_
  refine xw_istoren (L2 := [(1, .int ((0 : Int32))), (0, .ref (base + 121))]) (aX12_tokens 4 rfl) (by decide) rfl ?_
  have lp17 : ∀ (m : Nat) (y1 : Int32) (FIv8 : Nat → Nat → Int32) (FLv9 : Nat → Nat → Int64), (g_fr n SH [(121, 67)] [149, 151] [] FI FIv8) → (g_fr n SH [] [150] [] FL FLv9) → (g_I FIv8) → (rl_t (FIv8 149) (FLv9 150)) → (0 ≤ (y1).toInt ∧ (y1).toInt ≤ 1003) → ((FIv8 121 67).toInt ≤ (y1).toInt) → ((FIv8 121 67).toInt ≤ (FIv8 121 13).toInt) → 1003 - (y1).toInt < m → hw base (d + 2) none 212 7 [(1, .int (y1)), (0, .ref (base + 121))] [] (n, sl, SH, FIv8, FLv9, FR) (h_V (fun s => ∃ FI' FL', s = (n, sl, SH, FI', FL', FR) ∧ g_I FI' ∧ g_fr n SH [(121, 67)] [149, 151] [] FI FI' ∧ g_fr n SH [] [150] [] FL FL' ∧ (1 ≤ (FI' 121 67).toInt) ∧ (rl_e (FI' 149) (FI' 121 67)) ∧ (rl_t (FI' 149) (FL' 150)))) := by
    intro m
    induction m with
    | zero => intro y1 FIv8 FLv9 fr10 fr11 hI12 rl13 iv14 iv15 iv16 hm; omega
    | succ m ih =>
      intro y1 FIv8 FLv9 fr10 fr11 hI12 rl13 iv14 iv15 iv16 hm
      have rg_y1 := i_rng y1
      obtain ⟨x18, h19⟩ : ∃ y, FIv8 121 67 = y := ⟨_, rfl⟩
      have h19l := congrArg Int32.toInt h19
      have b20 := gI_121_67 hI12; rw [h19] at b20
      obtain ⟨x21, h22⟩ : ∃ y, FIv8 121 13 = y := ⟨_, rfl⟩
      have h22l := congrArg Int32.toInt h22
      have b23 := gI_121_13 hI12; rw [h22] at b23
      refine xw_iloadn (aX12_tokens 5 rfl) rfl ?_
      refine hw_aloadn (aX12_tokens 6 rfl) rfl ?_
      refine hw_get (v := .int (x21)) (aX12_tokens 7 rfl) wf_RX12_190 (c121 hS) (s121 hS) (by decide) (congrArg Value.int (show FIv8 121 13 = x21 from h22)) ?_
      refine hw_icge (tgt := 366) (aX12_tokens 8 rfl) (by decide) rfl rfl (fun cd24 => ?_) (fun cd24 => ?_)
      · refine hw_aloadn (aX12_tokens 206 rfl) rfl ?_
        refine hw_ic (v := (0 : Int32)) (aX12_tokens 207 rfl) (by decide) ?_
        refine hw_lc (v := (0 : Int64)) (aX12_tokens 208 rfl) (by decide) ?_
        refine hw_aloadn (aX12_tokens 209 rfl) rfl ?_
        refine hw_get (v := .int (x21)) (aX12_tokens 210 rfl) wf_RX12_190 (c121 hS) (s121 hS) (by decide) (congrArg Value.int (show FIv8 121 13 = x21 from h22)) ?_
        refine hw_callV (Bs := [.int ((0 : Int32)), .long ((0 : Int64)), .int (x21)]) (rest := []) (aX12_tokens 211 rfl) wc_RX12_457 (by decide) rfl wi_yX12_token wv_yX12_token (c121 hS) (s121 hS) rfl rfl rfl (Nat.le_of_ble_eq_true rfl) (Nat.le_of_ble_eq_true rfl) (n_token (d := d + 1) hS hF hI12 ((0 : Int32)) ((0 : Int64)) (x21) (by have := congrArg Int32.toInt (show FIv8 121 67 = x18 from h19); omega) (by have := ((by decide : (0 : Int32).toInt = 0) : ((0 : Int32)).toInt = 0); have := ((by decide : (0 : Int64).toInt = 0) : ((0 : Int64)).toInt = 0); have := ((by decide : (0 : Int64).toInt = 0) : ((0 : Int64)).toInt = 0); omega) (by have := ((by decide : (0 : Int32).toInt = 0) : ((0 : Int32)).toInt = 0); have := ((by decide : (0 : Int64).toInt = 0) : ((0 : Int64)).toInt = 0); have := ((by decide : (0 : Int64).toInt = 0) : ((0 : Int64)).toInt = 0); omega) (show rl_t (FIv8 149) (FLv9 150) from rl13)) (fun v25 sv26 p27 => ?_)
        have := congrArg Int32.toInt (show FIv8 121 67 = x18 from h19)
        obtain ⟨rfl, FI29, FL30, rfl, hI31, f32, f33, t34, u35, rl36⟩ := p27
        obtain ⟨x37, h38⟩ : ∃ y, FI29 121 67 = y := ⟨_, rfl⟩
        have h38l := congrArg Int32.toInt h38
        have b39 := gI_121_67 hI31; rw [h38] at b39
        show hw base _ _ _ _ _ [] _ _
        refine xw_vret (aX12_tokens 212 rfl) rfl ?_
        exact ⟨rfl, FI29, FL30, rfl, hI31, (gf_tr ex_rf fr10 f32 rfl rfl rfl), (gf_tr ex_rf fr11 f33 rfl rfl rfl), (by have := congrArg Int32.toInt (show FI29 121 67 = x37 from h38); omega), (by exact ⟨by omega, by rw [show ((FI29 121 67).toInt - 1).toNat = (FIv8 121 67).toInt.toNat by omega]; exact u35⟩), (show rl_t (FI29 149) (FL30 150) from rl36)⟩
      · refine hw_aloadn (aX12_tokens 9 rfl) rfl ?_
        refine xw_iloadn (aX12_tokens 10 rfl) rfl ?_
        refine hw_callV (Bs := [.int (y1)]) (rest := []) (aX12_tokens 11 rfl) wc_RX12_449 (by decide) rfl wi_yX12_sign wv_yX12_sign (c121 hS) (s121 hS) rfl rfl rfl (Nat.le_of_ble_eq_true rfl) (Nat.le_of_ble_eq_true rfl) (n_sign (d := d + 1) hS hF hI12 (y1) (by omega)) (fun v40 sv41 p42 => ?_)
        have := congrArg Int32.toInt (show FIv8 121 13 = x21 from h22)
        obtain ⟨r43, rfl, rfl, t45, t46, u47⟩ := p42
        have rg_r43 := i_rng r43
        show hw base _ _ _ _ _ [.int (r43)] _ _
        refine xw_istoren (L2 := [(2, .int (r43)), (1, .int (y1)), (0, .ref (base + 121))]) (aX12_tokens 12 rfl) (by decide) rfl ?_
        refine xw_iloadn (aX12_tokens 13 rfl) rfl ?_
        refine xw_istoren (L2 := [(3, .int (y1)), (2, .int (r43)), (1, .int (y1)), (0, .ref (base + 121))]) (aX12_tokens 14 rfl) (by decide) rfl ?_
        refine xw_iloadn (aX12_tokens 15 rfl) rfl ?_
        refine hw_bp (v := (32 : Int32)) (aX12_tokens 16 rfl) (by decide) ?_
        have j441 : ∀ (g431 : Int32) (g436 : Int32) (FIj432 : Nat → Nat → Int32) (FLj438 : Nat → Nat → Int64), (0 ≤ (g431).toInt ∧ (g431).toInt ≤ 1003) → (g_fr n SH [(121, 67)] [149, 151] [] FI FIj432) → (g_I FIj432) → (FIj432 121 13 = x21) → (FIj432 121 67 = g436) → (0 ≤ (g436).toInt ∧ (g436).toInt ≤ 1001) → (g_fr n SH [] [150] [] FL FLj438) → (rl_t (FIj432 149) (FLj438 150)) → ((g436).toInt ≤ (g431).toInt) → ((g436).toInt ≤ (x21).toInt) → ((y1).toInt < (g431).toInt) → ((g431).toInt ≤ 1003) → hw base (d + 2) none 212 363 [(0, .ref (base + 121)), (1, .int (g431)), (3, .int (y1))] [] (n, sl, SH, FIj432, FLj438, FR) (h_V (fun s => ∃ FI' FL', s = (n, sl, SH, FI', FL', FR) ∧ g_I FI' ∧ g_fr n SH [(121, 67)] [149, 151] [] FI FI' ∧ g_fr n SH [] [150] [] FL FL' ∧ (1 ≤ (FI' 121 67).toInt) ∧ (rl_e (FI' 149) (FI' 121 67)) ∧ (rl_t (FI' 149) (FL' 150)))) := by
          intro g431 g436 FIj432 FLj438 q442 fr433 hI434 kp435 kp437 q443 fr439 rl440 fc363_0 fc363_1 fc363_2 fc363_3
          have rg_g431 := i_rng g431
          have rg_g436 := i_rng g436
          have := congrArg Int32.toInt kp435
          have := congrArg Int32.toInt kp437
          refine xw_goto (tgt := 7) (aX12_tokens 205 rfl) (by decide) ?_
          exact hw_L (ih (g431) FIj432 FLj438 fr433 fr439 hI434 (show rl_t (FIj432 149) (FLj438 150) from rl440) (by omega) (by have := congrArg Int32.toInt (show FIj432 121 67 = g436 from kp437); omega) (by have := congrArg Int32.toInt (show FIj432 121 13 = x21 from kp435); have := congrArg Int32.toInt (show FIj432 121 67 = g436 from kp437); omega) (by omega)) ⟨rfl, rfl, trivial⟩
        have j444 : hw base (d + 2) none 212 35 [(0, .ref (base + 121)), (1, .int (y1)), (3, .int (y1))] [] (n, sl, SH, FIv8, FLv9, FR) (h_V (fun s => ∃ FI' FL', s = (n, sl, SH, FI', FL', FR) ∧ g_I FI' ∧ g_fr n SH [(121, 67)] [149, 151] [] FI FI' ∧ g_fr n SH [] [150] [] FL FL' ∧ (1 ≤ (FI' 121 67).toInt) ∧ (rl_e (FI' 149) (FI' 121 67)) ∧ (rl_t (FI' 149) (FL' 150)))) := by
          refine xw_iloadn (aX12_tokens 21 rfl) rfl ?_
          refine hw_ic (v := (1 : Int32)) (aX12_tokens 22 rfl) (by decide) ?_
          refine xw_iadd (aX12_tokens 23 rfl) ?_
          refine hw_tie (A := ((y1).toInt) + (1)) (i_add rfl (by decide : (1 : Int32).toInt = 1) (by omega) (by omega)) (fun x445 e446 => ?_)
          refine xw_istoren (L2 := [(1, .int (x445)), (0, .ref (base + 121)), (3, .int (y1))]) (aX12_tokens 24 rfl) (by decide) rfl ?_
          refine xw_goto (tgt := 363) (aX12_tokens 25 rfl) (by decide) ?_
          exact hw_L (j441 (x445) (x18) FIv8 FLv9 (by have := (e446 : (x445).toInt = ((y1).toInt) + (1)); show 0 ≤ (x445).toInt ∧ (x445).toInt ≤ 1003; omega) fr10 hI12 (show FIv8 121 13 = x21 from h22) (show FIv8 121 67 = x18 from h19) (by show 0 ≤ (x18).toInt ∧ (x18).toInt ≤ 1001; omega) fr11 (show rl_t (FIv8 149) (FLv9 150) from rl13) (by have := (e446 : (x445).toInt = ((y1).toInt) + (1)); show (x18).toInt ≤ (x445).toInt; omega) (by show (x18).toInt ≤ (x21).toInt; omega) (by have := (e446 : (x445).toInt = ((y1).toInt) + (1)); show (y1).toInt < (x445).toInt; omega) (by have := (e446 : (x445).toInt = ((y1).toInt) + (1)); show (x445).toInt ≤ 1003; omega)) ⟨rfl, rfl, rfl, trivial⟩
        refine hw_iceq (tgt := 35) (aX12_tokens 17 rfl) (by decide) rfl (by decide : (32 : Int32).toInt = 32) (fun cd447 => ?_) (fun cd447 => ?_)
        · exact hw_L (j444) ⟨rfl, rfl, rfl, trivial⟩
        · refine xw_iloadn (aX12_tokens 18 rfl) rfl ?_
          refine hw_bp (v := (10 : Int32)) (aX12_tokens 19 rfl) (by decide) ?_
          refine hw_icne (tgt := 42) (aX12_tokens 20 rfl) (by decide) rfl (by decide : (10 : Int32).toInt = 10) (fun cd448 => ?_) (fun cd448 => ?_)
          · refine hw_aloadn (aX12_tokens 26 rfl) rfl ?_
            refine xw_iloadn (aX12_tokens 27 rfl) rfl ?_
            refine hw_callV (Bs := [.int (r43)]) (rest := []) (aX12_tokens 28 rfl) wc_RX12_423 (by decide) rfl wi_yX12_isSmall wv_yX12_isSmall (c121 hS) (s121 hS) rfl rfl rfl (Nat.le_of_ble_eq_true rfl) (Nat.le_of_ble_eq_true rfl) (n_isSmall (d := d + 1) hS hF hI12 (r43) ) (fun v449 sv450 p451 => ?_)
            obtain ⟨r452, rfl, rfl, t454, t455, t456⟩ := p451
            show hw base _ _ _ _ _ [.int (r452)] _ _
            refine hw_ifeq (tgt := 187) (aX12_tokens 29 rfl) (by decide) rfl (fun cd457 => ?_) (fun cd457 => ?_)
            · clear t454
              replace t455 := t455 (by omega)
              refine hw_aloadn (aX12_tokens 106 rfl) rfl ?_
              refine xw_iloadn (aX12_tokens 107 rfl) rfl ?_
              refine hw_callV (Bs := [.int (r43)]) (rest := []) (aX12_tokens 108 rfl) wc_RX12_452 (by decide) rfl wi_yX12_isDigit wv_yX12_isDigit (c121 hS) (s121 hS) rfl rfl rfl (Nat.le_of_ble_eq_true rfl) (Nat.le_of_ble_eq_true rfl) (n_isDigit (d := d + 1) hS hF hI12 (r43) ) (fun v458 sv459 p460 => ?_)
              obtain ⟨r461, rfl, rfl, t463, t464, t465⟩ := p460
              show hw base _ _ _ _ _ [.int (r461)] _ _
              refine hw_ifeq (tgt := 280) (aX12_tokens 109 rfl) (by decide) rfl (fun cd466 => ?_) (fun cd466 => ?_)
              · clear t463
                replace t464 := t464 (by omega)
                refine xw_iloadn (aX12_tokens 158 rfl) rfl ?_
                refine hw_bp (v := (64 : Int32)) (aX12_tokens 159 rfl) (by decide) ?_
                refine hw_icne (tgt := 354) (aX12_tokens 160 rfl) (by decide) rfl (by decide : (64 : Int32).toInt = 64) (fun cd467 => ?_) (fun cd467 => ?_)
                · refine xw_iloadn (aX12_tokens 198 rfl) rfl ?_
                  refine hw_aloadn (aX12_tokens 199 rfl) rfl ?_
                  refine xw_iloadn (aX12_tokens 200 rfl) rfl ?_
                  refine xw_iloadn (aX12_tokens 201 rfl) rfl ?_
                  refine hw_callV (Bs := [.int (r43), .int (y1)]) (rest := [.int (y1)]) (aX12_tokens 202 rfl) wc_RX12_472 (by decide) rfl wi_yX12_signs wv_yX12_signs (c121 hS) (s121 hS) rfl rfl rfl (Nat.le_of_ble_eq_true rfl) (Nat.le_of_ble_eq_true rfl) (n_signs (d := d) hS hF hI12 (r43) (y1) (by have := congrArg Int32.toInt (show FIv8 121 67 = x18 from h19); omega) (by omega) (by omega) (show rl_t (FIv8 149) (FLv9 150) from rl13)) (fun v468 sv469 p470 => ?_)
                  have := congrArg Int32.toInt (show FIv8 121 67 = x18 from h19)
                  obtain ⟨r471, rfl, FI472, FL473, rfl, hI474, f475, f476, t477, t478, rl479⟩ := p470
                  have rg_r471 := i_rng r471
                  obtain ⟨x480, h481⟩ : ∃ y, FI472 121 67 = y := ⟨_, rfl⟩
                  have h481l := congrArg Int32.toInt h481
                  have b482 := gI_121_67 hI474; rw [h481] at b482
                  show hw base _ _ _ _ _ [.int (r471), .int (y1)] _ _
                  refine xw_iadd (aX12_tokens 203 rfl) ?_
                  refine hw_tie (A := ((y1).toInt) + ((r471).toInt)) (i_add rfl rfl (by omega) (by omega)) (fun x483 e484 => ?_)
                  refine xw_istoren (L2 := [(1, .int (x483)), (3, .int (y1)), (2, .int (r43)), (0, .ref (base + 121))]) (aX12_tokens 204 rfl) (by decide) rfl ?_
                  exact hw_L (j441 (x483) (x480) FI472 FL473 (by have := (e484 : (x483).toInt = ((y1).toInt) + ((r471).toInt)); show 0 ≤ (x483).toInt ∧ (x483).toInt ≤ 1003; omega) (gf_tr ex_rf fr10 f475 rfl rfl rfl) hI474 (show FI472 121 13 = x21 from (gf_at f475 (c121 hS) (s121 hS) rfl (h22))) (show FI472 121 67 = x480 from h481) (by show 0 ≤ (x480).toInt ∧ (x480).toInt ≤ 1001; omega) (gf_tr ex_rf fr11 f476 rfl rfl rfl) (show rl_t (FI472 149) (FL473 150) from rl479) (by have := (e484 : (x483).toInt = ((y1).toInt) + ((r471).toInt)); show (x480).toInt ≤ (x483).toInt; omega) (by show (x480).toInt ≤ (x21).toInt; omega) (by have := (e484 : (x483).toInt = ((y1).toInt) + ((r471).toInt)); show (y1).toInt < (x483).toInt; omega) (by have := (e484 : (x483).toInt = ((y1).toInt) + ((r471).toInt)); show (x483).toInt ≤ 1003; omega)) ⟨rfl, rfl, rfl, trivial⟩
                · refine hw_aloadn (aX12_tokens 161 rfl) rfl ?_
                  refine xw_iloadn (aX12_tokens 162 rfl) rfl ?_
                  refine hw_ic (v := (1 : Int32)) (aX12_tokens 163 rfl) (by decide) ?_
                  refine xw_iadd (aX12_tokens 164 rfl) ?_
                  refine hw_tie (A := ((y1).toInt) + (1)) (i_add rfl (by decide : (1 : Int32).toInt = 1) (by omega) (by omega)) (fun x485 e486 => ?_)
                  refine hw_callV (Bs := [.int (x485)]) (rest := []) (aX12_tokens 165 rfl) wc_RX12_449 (by decide) rfl wi_yX12_sign wv_yX12_sign (c121 hS) (s121 hS) rfl rfl rfl (Nat.le_of_ble_eq_true rfl) (Nat.le_of_ble_eq_true rfl) (n_sign (d := d + 1) hS hF hI12 (x485) (by have := (e486 : (x485).toInt = ((y1).toInt) + (1)); have := (e486 : (x485).toInt = ((y1).toInt) + (1)); omega)) (fun v487 sv488 p489 => ?_)
                  have := (e486 : (x485).toInt = ((y1).toInt) + (1))
                  have := congrArg Int32.toInt (show FIv8 121 13 = x21 from h22)
                  obtain ⟨r490, rfl, rfl, t492, t493, u494⟩ := p489
                  have rg_r490 := i_rng r490
                  show hw base _ _ _ _ _ [.int (r490)] _ _
                  refine xw_istore (L2 := [(4, .int (r490)), (3, .int (y1)), (2, .int (r43)), (1, .int (y1)), (0, .ref (base + 121))]) (aX12_tokens 166 rfl) (by decide) rfl ?_
                  refine xw_iload (aX12_tokens 167 rfl) rfl ?_
                  refine hw_bp (v := (49 : Int32)) (aX12_tokens 168 rfl) (by decide) ?_
                  refine hw_iclt (tgt := 313) (aX12_tokens 169 rfl) (by decide) rfl (by decide : (49 : Int32).toInt = 49) (fun cd495 => ?_) (fun cd495 => ?_)
                  · refine hw_ic (v := (0 : Int32)) (aX12_tokens 175 rfl) (by decide) ?_
                    refine xw_istore (L2 := [(5, .int ((0 : Int32))), (4, .int (r490)), (3, .int (y1)), (2, .int (r43)), (1, .int (y1)), (0, .ref (base + 121))]) (aX12_tokens 176 rfl) (by decide) rfl ?_
                    refine hw_aloadn (aX12_tokens 177 rfl) rfl ?_
                    refine xw_iload (aX12_tokens 178 rfl) rfl ?_
                    refine hw_ifeq (tgt := 326) (aX12_tokens 179 rfl) (by decide) (by decide : (0 : Int32).toInt = 0) (fun cd496 => ?_) (fun cd496 => ?_)
                    · refine hw_bp (v := (6 : Int32)) (aX12_tokens 182 rfl) (by decide) ?_
                      refine xw_iload (aX12_tokens 183 rfl) rfl ?_
                      refine hw_bp (v := (48 : Int32)) (aX12_tokens 184 rfl) (by decide) ?_
                      refine xw_isub (aX12_tokens 185 rfl) ?_
                      refine hw_tie (A := ((r490).toInt) - (48)) (i_sub rfl (by decide : (48 : Int32).toInt = 48) (by omega) (by omega)) (fun x497 e498 => ?_)
                      refine xw_i2l (aX12_tokens 186 rfl) ?_
                      refine hw_tle (A := ((r490).toInt) - (48)) (i_2l e498) (fun x499 e500 => ?_)
                      refine xw_iloadn (aX12_tokens 187 rfl) rfl ?_
                      refine hw_callV (Bs := [.int ((6 : Int32)), .long (x499), .int (y1)]) (rest := []) (aX12_tokens 188 rfl) wc_RX12_457 (by decide) rfl wi_yX12_token wv_yX12_token (c121 hS) (s121 hS) rfl rfl rfl (Nat.le_of_ble_eq_true rfl) (Nat.le_of_ble_eq_true rfl) (n_token (d := d + 1) hS hF hI12 ((6 : Int32)) (x499) (y1) (by have := congrArg Int32.toInt (show FIv8 121 67 = x18 from h19); omega) (by have := ((by decide : (6 : Int32).toInt = 6) : ((6 : Int32)).toInt = 6); have := (e500 : (x499).toInt = ((r490).toInt) - (48)); have := (e500 : (x499).toInt = ((r490).toInt) - (48)); omega) (by have := ((by decide : (6 : Int32).toInt = 6) : ((6 : Int32)).toInt = 6); have := (e500 : (x499).toInt = ((r490).toInt) - (48)); have := (e500 : (x499).toInt = ((r490).toInt) - (48)); omega) (show rl_t (FIv8 149) (FLv9 150) from rl13)) (fun v501 sv502 p503 => ?_)
                      have := congrArg Int32.toInt (show FIv8 121 67 = x18 from h19)
                      obtain ⟨rfl, FI505, FL506, rfl, hI507, f508, f509, t510, u511, rl512⟩ := p503
                      obtain ⟨x513, h514⟩ : ∃ y, FI505 121 67 = y := ⟨_, rfl⟩
                      have h514l := congrArg Int32.toInt h514
                      have b515 := gI_121_67 hI507; rw [h514] at b515
                      show hw base _ _ _ _ _ [] _ _
                      refine xw_iloadn (aX12_tokens 189 rfl) rfl ?_
                      refine xw_iload (aX12_tokens 190 rfl) rfl ?_
                      refine hw_ifeq (tgt := 348) (aX12_tokens 191 rfl) (by decide) (by decide : (0 : Int32).toInt = 0) (fun cd516 => ?_) (fun cd516 => ?_)
                      · refine hw_ic (v := (1 : Int32)) (aX12_tokens 194 rfl) (by decide) ?_
                        refine xw_iadd (aX12_tokens 195 rfl) ?_
                        refine hw_tie (A := ((y1).toInt) + (1)) (i_add rfl (by decide : (1 : Int32).toInt = 1) (by omega) (by omega)) (fun x517 e518 => ?_)
                        refine xw_istoren (L2 := [(1, .int (x517)), (5, .int ((0 : Int32))), (4, .int (r490)), (3, .int (y1)), (2, .int (r43)), (0, .ref (base + 121))]) (aX12_tokens 196 rfl) (by decide) rfl ?_
                        refine xw_goto (tgt := 363) (aX12_tokens 197 rfl) (by decide) ?_
                        exact hw_L (j441 (x517) (x513) FI505 FL506 (by have := (e518 : (x517).toInt = ((y1).toInt) + (1)); show 0 ≤ (x517).toInt ∧ (x517).toInt ≤ 1003; omega) (gf_tr ex_rf fr10 f508 rfl rfl rfl) hI507 (show FI505 121 13 = x21 from (gf_at f508 (c121 hS) (s121 hS) rfl (h22))) (show FI505 121 67 = x513 from h514) (by show 0 ≤ (x513).toInt ∧ (x513).toInt ≤ 1001; omega) (gf_tr ex_rf fr11 f509 rfl rfl rfl) (show rl_t (FI505 149) (FL506 150) from rl512) (by have := (e518 : (x517).toInt = ((y1).toInt) + (1)); show (x513).toInt ≤ (x517).toInt; omega) (by show (x513).toInt ≤ (x21).toInt; omega) (by have := (e518 : (x517).toInt = ((y1).toInt) + (1)); show (y1).toInt < (x517).toInt; omega) (by have := (e518 : (x517).toInt = ((y1).toInt) + (1)); show (x517).toInt ≤ 1003; omega)) ⟨rfl, rfl, rfl, trivial⟩
                      · omega
                    · omega
                  · refine xw_iload (aX12_tokens 170 rfl) rfl ?_
                    refine hw_bp (v := (56 : Int32)) (aX12_tokens 171 rfl) (by decide) ?_
                    refine hw_icgt (tgt := 313) (aX12_tokens 172 rfl) (by decide) rfl (by decide : (56 : Int32).toInt = 56) (fun cd519 => ?_) (fun cd519 => ?_)
                    · refine hw_ic (v := (0 : Int32)) (aX12_tokens 175 rfl) (by decide) ?_
                      refine xw_istore (L2 := [(5, .int ((0 : Int32))), (4, .int (r490)), (3, .int (y1)), (2, .int (r43)), (1, .int (y1)), (0, .ref (base + 121))]) (aX12_tokens 176 rfl) (by decide) rfl ?_
                      refine hw_aloadn (aX12_tokens 177 rfl) rfl ?_
                      refine xw_iload (aX12_tokens 178 rfl) rfl ?_
                      refine hw_ifeq (tgt := 326) (aX12_tokens 179 rfl) (by decide) (by decide : (0 : Int32).toInt = 0) (fun cd520 => ?_) (fun cd520 => ?_)
                      · refine hw_bp (v := (6 : Int32)) (aX12_tokens 182 rfl) (by decide) ?_
                        refine xw_iload (aX12_tokens 183 rfl) rfl ?_
                        refine hw_bp (v := (48 : Int32)) (aX12_tokens 184 rfl) (by decide) ?_
                        refine xw_isub (aX12_tokens 185 rfl) ?_
                        refine hw_tie (A := ((r490).toInt) - (48)) (i_sub rfl (by decide : (48 : Int32).toInt = 48) (by omega) (by omega)) (fun x521 e522 => ?_)
                        refine xw_i2l (aX12_tokens 186 rfl) ?_
                        refine hw_tle (A := ((r490).toInt) - (48)) (i_2l e522) (fun x523 e524 => ?_)
                        refine xw_iloadn (aX12_tokens 187 rfl) rfl ?_
                        refine hw_callV (Bs := [.int ((6 : Int32)), .long (x523), .int (y1)]) (rest := []) (aX12_tokens 188 rfl) wc_RX12_457 (by decide) rfl wi_yX12_token wv_yX12_token (c121 hS) (s121 hS) rfl rfl rfl (Nat.le_of_ble_eq_true rfl) (Nat.le_of_ble_eq_true rfl) (n_token (d := d + 1) hS hF hI12 ((6 : Int32)) (x523) (y1) (by have := congrArg Int32.toInt (show FIv8 121 67 = x18 from h19); omega) (by have := ((by decide : (6 : Int32).toInt = 6) : ((6 : Int32)).toInt = 6); have := (e524 : (x523).toInt = ((r490).toInt) - (48)); have := (e524 : (x523).toInt = ((r490).toInt) - (48)); omega) (by have := ((by decide : (6 : Int32).toInt = 6) : ((6 : Int32)).toInt = 6); have := (e524 : (x523).toInt = ((r490).toInt) - (48)); have := (e524 : (x523).toInt = ((r490).toInt) - (48)); omega) (show rl_t (FIv8 149) (FLv9 150) from rl13)) (fun v525 sv526 p527 => ?_)
                        have := congrArg Int32.toInt (show FIv8 121 67 = x18 from h19)
                        obtain ⟨rfl, FI529, FL530, rfl, hI531, f532, f533, t534, u535, rl536⟩ := p527
                        obtain ⟨x537, h538⟩ : ∃ y, FI529 121 67 = y := ⟨_, rfl⟩
                        have h538l := congrArg Int32.toInt h538
                        have b539 := gI_121_67 hI531; rw [h538] at b539
                        show hw base _ _ _ _ _ [] _ _
                        refine xw_iloadn (aX12_tokens 189 rfl) rfl ?_
                        refine xw_iload (aX12_tokens 190 rfl) rfl ?_
                        refine hw_ifeq (tgt := 348) (aX12_tokens 191 rfl) (by decide) (by decide : (0 : Int32).toInt = 0) (fun cd540 => ?_) (fun cd540 => ?_)
                        · refine hw_ic (v := (1 : Int32)) (aX12_tokens 194 rfl) (by decide) ?_
                          refine xw_iadd (aX12_tokens 195 rfl) ?_
                          refine hw_tie (A := ((y1).toInt) + (1)) (i_add rfl (by decide : (1 : Int32).toInt = 1) (by omega) (by omega)) (fun x541 e542 => ?_)
                          refine xw_istoren (L2 := [(1, .int (x541)), (5, .int ((0 : Int32))), (4, .int (r490)), (3, .int (y1)), (2, .int (r43)), (0, .ref (base + 121))]) (aX12_tokens 196 rfl) (by decide) rfl ?_
                          refine xw_goto (tgt := 363) (aX12_tokens 197 rfl) (by decide) ?_
                          exact hw_L (j441 (x541) (x537) FI529 FL530 (by have := (e542 : (x541).toInt = ((y1).toInt) + (1)); show 0 ≤ (x541).toInt ∧ (x541).toInt ≤ 1003; omega) (gf_tr ex_rf fr10 f532 rfl rfl rfl) hI531 (show FI529 121 13 = x21 from (gf_at f532 (c121 hS) (s121 hS) rfl (h22))) (show FI529 121 67 = x537 from h538) (by show 0 ≤ (x537).toInt ∧ (x537).toInt ≤ 1001; omega) (gf_tr ex_rf fr11 f533 rfl rfl rfl) (show rl_t (FI529 149) (FL530 150) from rl536) (by have := (e542 : (x541).toInt = ((y1).toInt) + (1)); show (x537).toInt ≤ (x541).toInt; omega) (by show (x537).toInt ≤ (x21).toInt; omega) (by have := (e542 : (x541).toInt = ((y1).toInt) + (1)); show (y1).toInt < (x541).toInt; omega) (by have := (e542 : (x541).toInt = ((y1).toInt) + (1)); show (x541).toInt ≤ 1003; omega)) ⟨rfl, rfl, rfl, trivial⟩
                        · omega
                      · omega
                    · refine hw_ic (v := (1 : Int32)) (aX12_tokens 173 rfl) (by decide) ?_
                      refine xw_goto (tgt := 314) (aX12_tokens 174 rfl) (by decide) ?_
                      refine xw_istore (L2 := [(5, .int ((1 : Int32))), (4, .int (r490)), (3, .int (y1)), (2, .int (r43)), (1, .int (y1)), (0, .ref (base + 121))]) (aX12_tokens 176 rfl) (by decide) rfl ?_
                      refine hw_aloadn (aX12_tokens 177 rfl) rfl ?_
                      refine xw_iload (aX12_tokens 178 rfl) rfl ?_
                      refine hw_ifeq (tgt := 326) (aX12_tokens 179 rfl) (by decide) (by decide : (1 : Int32).toInt = 1) (fun cd543 => ?_) (fun cd543 => ?_)
                      · omega
                      · refine hw_ic (v := (4 : Int32)) (aX12_tokens 180 rfl) (by decide) ?_
                        refine xw_goto (tgt := 328) (aX12_tokens 181 rfl) (by decide) ?_
                        refine xw_iload (aX12_tokens 183 rfl) rfl ?_
                        refine hw_bp (v := (48 : Int32)) (aX12_tokens 184 rfl) (by decide) ?_
                        refine xw_isub (aX12_tokens 185 rfl) ?_
                        refine hw_tie (A := ((r490).toInt) - (48)) (i_sub rfl (by decide : (48 : Int32).toInt = 48) (by omega) (by omega)) (fun x544 e545 => ?_)
                        refine xw_i2l (aX12_tokens 186 rfl) ?_
                        refine hw_tle (A := ((r490).toInt) - (48)) (i_2l e545) (fun x546 e547 => ?_)
                        refine xw_iloadn (aX12_tokens 187 rfl) rfl ?_
                        refine hw_callV (Bs := [.int ((4 : Int32)), .long (x546), .int (y1)]) (rest := []) (aX12_tokens 188 rfl) wc_RX12_457 (by decide) rfl wi_yX12_token wv_yX12_token (c121 hS) (s121 hS) rfl rfl rfl (Nat.le_of_ble_eq_true rfl) (Nat.le_of_ble_eq_true rfl) (n_token (d := d + 1) hS hF hI12 ((4 : Int32)) (x546) (y1) (by have := congrArg Int32.toInt (show FIv8 121 67 = x18 from h19); omega) (by have := ((by decide : (4 : Int32).toInt = 4) : ((4 : Int32)).toInt = 4); have := (e547 : (x546).toInt = ((r490).toInt) - (48)); have := (e547 : (x546).toInt = ((r490).toInt) - (48)); omega) (by have := ((by decide : (4 : Int32).toInt = 4) : ((4 : Int32)).toInt = 4); have := (e547 : (x546).toInt = ((r490).toInt) - (48)); have := (e547 : (x546).toInt = ((r490).toInt) - (48)); omega) (show rl_t (FIv8 149) (FLv9 150) from rl13)) (fun v548 sv549 p550 => ?_)
                        have := congrArg Int32.toInt (show FIv8 121 67 = x18 from h19)
                        obtain ⟨rfl, FI552, FL553, rfl, hI554, f555, f556, t557, u558, rl559⟩ := p550
                        obtain ⟨x560, h561⟩ : ∃ y, FI552 121 67 = y := ⟨_, rfl⟩
                        have h561l := congrArg Int32.toInt h561
                        have b562 := gI_121_67 hI554; rw [h561] at b562
                        show hw base _ _ _ _ _ [] _ _
                        refine xw_iloadn (aX12_tokens 189 rfl) rfl ?_
                        refine xw_iload (aX12_tokens 190 rfl) rfl ?_
                        refine hw_ifeq (tgt := 348) (aX12_tokens 191 rfl) (by decide) (by decide : (1 : Int32).toInt = 1) (fun cd563 => ?_) (fun cd563 => ?_)
                        · omega
                        · refine hw_ic (v := (2 : Int32)) (aX12_tokens 192 rfl) (by decide) ?_
                          refine xw_goto (tgt := 349) (aX12_tokens 193 rfl) (by decide) ?_
                          refine xw_iadd (aX12_tokens 195 rfl) ?_
                          refine hw_tie (A := ((y1).toInt) + (2)) (i_add rfl (by decide : (2 : Int32).toInt = 2) (by omega) (by omega)) (fun x564 e565 => ?_)
                          refine xw_istoren (L2 := [(1, .int (x564)), (5, .int ((1 : Int32))), (4, .int (r490)), (3, .int (y1)), (2, .int (r43)), (0, .ref (base + 121))]) (aX12_tokens 196 rfl) (by decide) rfl ?_
                          refine xw_goto (tgt := 363) (aX12_tokens 197 rfl) (by decide) ?_
                          exact hw_L (j441 (x564) (x560) FI552 FL553 (by have := (e565 : (x564).toInt = ((y1).toInt) + (2)); show 0 ≤ (x564).toInt ∧ (x564).toInt ≤ 1003; omega) (gf_tr ex_rf fr10 f555 rfl rfl rfl) hI554 (show FI552 121 13 = x21 from (gf_at f555 (c121 hS) (s121 hS) rfl (h22))) (show FI552 121 67 = x560 from h561) (by show 0 ≤ (x560).toInt ∧ (x560).toInt ≤ 1001; omega) (gf_tr ex_rf fr11 f556 rfl rfl rfl) (show rl_t (FI552 149) (FL553 150) from rl559) (by have := (e565 : (x564).toInt = ((y1).toInt) + (2)); show (x560).toInt ≤ (x564).toInt; omega) (by show (x560).toInt ≤ (x21).toInt; omega) (by have := (e565 : (x564).toInt = ((y1).toInt) + (2)); show (y1).toInt < (x564).toInt; omega) (by have := (e565 : (x564).toInt = ((y1).toInt) + (2)); show (x564).toInt ≤ 1003; omega)) ⟨rfl, rfl, rfl, trivial⟩
              · replace t463 := t463 (by omega)
                clear t464
                refine hw_lc (v := (0 : Int64)) (aX12_tokens 110 rfl) (by decide) ?_
                refine xw_lstore (L2 := [(4, .long ((0 : Int64))), (3, .int (y1)), (2, .int (r43)), (1, .int (y1)), (0, .ref (base + 121))]) (aX12_tokens 111 rfl) (by decide) rfl ?_
                have lp570 : ∀ (m : Nat) (y4 : Int64) (y1_566 : Int32), (0 ≤ (y1_566).toInt ∧ (y1_566).toInt ≤ 1003) → (0 ≤ (y4).toInt ∧ (y4).toInt ≤ 999999999999999999) → ((y1).toInt ≤ (y1_566).toInt) → ((y4).toInt < t10 ((y1_566).toInt - (y1).toInt)) → 1003 - (y1_566).toInt < m → hw base (d + 2) none 212 198 [(4, .long (y4)), (3, .int (y1)), (1, .int (y1_566)), (0, .ref (base + 121))] [] (n, sl, SH, FIv8, FLv9, FR) (h_V (fun s => ∃ FI' FL', s = (n, sl, SH, FI', FL', FR) ∧ g_I FI' ∧ g_fr n SH [(121, 67)] [149, 151] [] FI FI' ∧ g_fr n SH [] [150] [] FL FL' ∧ (1 ≤ (FI' 121 67).toInt) ∧ (rl_e (FI' 149) (FI' 121 67)) ∧ (rl_t (FI' 149) (FL' 150)))) := by
                  intro m
                  induction m with
                  | zero => intro y4 y1_566 iv567 iv568 iv569 xi198_0 hm; omega
                  | succ m ih =>
                    intro y4 y1_566 iv567 iv568 iv569 xi198_0 hm
                    have rg_y4 := l_rng y4
                    have rg_y1_566 := i_rng y1_566
                    refine hw_aloadn (aX12_tokens 112 rfl) rfl ?_
                    refine hw_aloadn (aX12_tokens 113 rfl) rfl ?_
                    refine xw_iloadn (aX12_tokens 114 rfl) rfl ?_
                    refine hw_callV (Bs := [.int (y1_566)]) (rest := [.ref (base + 121)]) (aX12_tokens 115 rfl) wc_RX12_449 (by decide) rfl wi_yX12_sign wv_yX12_sign (c121 hS) (s121 hS) rfl rfl rfl (Nat.le_of_ble_eq_true rfl) (Nat.le_of_ble_eq_true rfl) (n_sign (d := d + 1) hS hF hI12 (y1_566) (by omega)) (fun v571 sv572 p573 => ?_)
                    have := congrArg Int32.toInt (show FIv8 121 13 = x21 from h22)
                    obtain ⟨r574, rfl, rfl, t576, t577, u578⟩ := p573
                    have rg_r574 := i_rng r574
                    show hw base _ _ _ _ _ [.int (r574), .ref (base + 121)] _ _
                    refine hw_callV (Bs := [.int (r574)]) (rest := []) (aX12_tokens 116 rfl) wc_RX12_452 (by decide) rfl wi_yX12_isDigit wv_yX12_isDigit (c121 hS) (s121 hS) rfl rfl rfl (Nat.le_of_ble_eq_true rfl) (Nat.le_of_ble_eq_true rfl) (n_isDigit (d := d + 1) hS hF hI12 (r574) ) (fun v579 sv580 p581 => ?_)
                    obtain ⟨r582, rfl, rfl, t584, t585, t586⟩ := p581
                    show hw base _ _ _ _ _ [.int (r582)] _ _
                    refine hw_ifeq (tgt := 244) (aX12_tokens 117 rfl) (by decide) rfl (fun cd587 => ?_) (fun cd587 => ?_)
                    · clear t584
                      replace t585 := t585 (by omega)
                      have hs : (y1_566).toInt = (y1).toInt → (r574).toInt = (r43).toInt := fun e => by rw [u578 (by omega), u47 (by omega), i_eqv e]
                      have hp : (y1).toInt + 1 ≤ (y1_566).toInt := by omega
                      refine hw_aloadn (aX12_tokens 139 rfl) rfl ?_
                      refine xw_iloadn (aX12_tokens 140 rfl) rfl ?_
                      refine xw_iloadn (aX12_tokens 141 rfl) rfl ?_
                      refine xw_isub (aX12_tokens 142 rfl) ?_
                      refine hw_tie (A := ((y1_566).toInt) - ((y1).toInt)) (i_sub rfl rfl (by omega) (by omega)) (fun x588 e589 => ?_)
                      refine hw_bp (v := (18 : Int32)) (aX12_tokens 143 rfl) (by decide) ?_
                      refine hw_icgt (tgt := 265) (aX12_tokens 144 rfl) (by decide) e589 (by decide : (18 : Int32).toInt = 18) (fun cd590 => ?_) (fun cd590 => ?_)
                      · refine hw_bp (v := (6 : Int32)) (aX12_tokens 151 rfl) (by decide) ?_
                        refine xw_goto (tgt := 271) (aX12_tokens 152 rfl) (by decide) ?_
                        refine xw_lload (aX12_tokens 154 rfl) rfl ?_
                        refine xw_iloadn (aX12_tokens 155 rfl) rfl ?_
                        refine hw_callV (Bs := [.int ((6 : Int32)), .long (y4), .int (y1)]) (rest := []) (aX12_tokens 156 rfl) wc_RX12_457 (by decide) rfl wi_yX12_token wv_yX12_token (c121 hS) (s121 hS) rfl rfl rfl (Nat.le_of_ble_eq_true rfl) (Nat.le_of_ble_eq_true rfl) (n_token (d := d + 1) hS hF hI12 ((6 : Int32)) (y4) (y1) (by have := congrArg Int32.toInt (show FIv8 121 67 = x18 from h19); omega) (by have := ((by decide : (6 : Int32).toInt = 6) : ((6 : Int32)).toInt = 6); omega) (by have := ((by decide : (6 : Int32).toInt = 6) : ((6 : Int32)).toInt = 6); omega) (show rl_t (FIv8 149) (FLv9 150) from rl13)) (fun v591 sv592 p593 => ?_)
                        have := congrArg Int32.toInt (show FIv8 121 67 = x18 from h19)
                        obtain ⟨rfl, FI595, FL596, rfl, hI597, f598, f599, t600, u601, rl602⟩ := p593
                        obtain ⟨x603, h604⟩ : ∃ y, FI595 121 67 = y := ⟨_, rfl⟩
                        have h604l := congrArg Int32.toInt h604
                        have b605 := gI_121_67 hI597; rw [h604] at b605
                        show hw base _ _ _ _ _ [] _ _
                        refine xw_goto (tgt := 363) (aX12_tokens 157 rfl) (by decide) ?_
                        exact hw_L (j441 (y1_566) (x603) FI595 FL596 (by show 0 ≤ (y1_566).toInt ∧ (y1_566).toInt ≤ 1003; omega) (gf_tr ex_rf fr10 f598 rfl rfl rfl) hI597 (show FI595 121 13 = x21 from (gf_at f598 (c121 hS) (s121 hS) rfl (h22))) (show FI595 121 67 = x603 from h604) (by show 0 ≤ (x603).toInt ∧ (x603).toInt ≤ 1001; omega) (gf_tr ex_rf fr11 f599 rfl rfl rfl) (show rl_t (FI595 149) (FL596 150) from rl602) (by show (x603).toInt ≤ (y1_566).toInt; omega) (by show (x603).toInt ≤ (x21).toInt; omega) (by show (y1).toInt < (y1_566).toInt; omega) (by show (y1_566).toInt ≤ 1003; omega)) ⟨rfl, rfl, rfl, trivial⟩
                      · refine hw_aloadn (aX12_tokens 145 rfl) rfl ?_
                        refine hw_aloadn (aX12_tokens 146 rfl) rfl ?_
                        refine xw_iloadn (aX12_tokens 147 rfl) rfl ?_
                        refine hw_callV (Bs := [.int (y1_566)]) (rest := [.ref (base + 121), .ref (base + 121)]) (aX12_tokens 148 rfl) wc_RX12_449 (by decide) rfl wi_yX12_sign wv_yX12_sign (c121 hS) (s121 hS) rfl rfl rfl (Nat.le_of_ble_eq_true rfl) (Nat.le_of_ble_eq_true rfl) (n_sign (d := d + 1) hS hF hI12 (y1_566) (by omega)) (fun v606 sv607 p608 => ?_)
                        have := congrArg Int32.toInt (show FIv8 121 13 = x21 from h22)
                        obtain ⟨r609, rfl, rfl, t611, t612, u613⟩ := p608
                        have rg_r609 := i_rng r609
                        show hw base _ _ _ _ _ [.int (r609), .ref (base + 121), .ref (base + 121)] _ _
                        refine hw_callV (Bs := [.int (r609)]) (rest := [.ref (base + 121)]) (aX12_tokens 149 rfl) wc_RX12_469 (by decide) rfl wi_yX12_isLetter wv_yX12_isLetter (c121 hS) (s121 hS) rfl rfl rfl (Nat.le_of_ble_eq_true rfl) (Nat.le_of_ble_eq_true rfl) (m_isLetter (d := d) hS hF (r609) ) (fun v614 sv615 p616 => ?_)
                        obtain ⟨r617, rfl, FI618, FL619, rfl, rfl, rfl, t622⟩ := p616
                        show hw base _ _ _ _ _ [.int (r617), .ref (base + 121)] _ _
                        refine hw_ifeq (tgt := 270) (aX12_tokens 150 rfl) (by decide) rfl (fun cd623 => ?_) (fun cd623 => ?_)
                        · refine hw_ic (v := (3 : Int32)) (aX12_tokens 153 rfl) (by decide) ?_
                          refine xw_lload (aX12_tokens 154 rfl) rfl ?_
                          refine xw_iloadn (aX12_tokens 155 rfl) rfl ?_
                          refine hw_callV (Bs := [.int ((3 : Int32)), .long (y4), .int (y1)]) (rest := []) (aX12_tokens 156 rfl) wc_RX12_457 (by decide) rfl wi_yX12_token wv_yX12_token (c121 hS) (s121 hS) rfl rfl rfl (Nat.le_of_ble_eq_true rfl) (Nat.le_of_ble_eq_true rfl) (n_token (d := d + 1) hS hF hI12 ((3 : Int32)) (y4) (y1) (by have := congrArg Int32.toInt (show FIv8 121 67 = x18 from h19); omega) (by have := ((by decide : (3 : Int32).toInt = 3) : ((3 : Int32)).toInt = 3); omega) (by have := ((by decide : (3 : Int32).toInt = 3) : ((3 : Int32)).toInt = 3); omega) (show rl_t (FIv8 149) (FLv9 150) from rl13)) (fun v624 sv625 p626 => ?_)
                          have := congrArg Int32.toInt (show FIv8 121 67 = x18 from h19)
                          obtain ⟨rfl, FI628, FL629, rfl, hI630, f631, f632, t633, u634, rl635⟩ := p626
                          obtain ⟨x636, h637⟩ : ∃ y, FI628 121 67 = y := ⟨_, rfl⟩
                          have h637l := congrArg Int32.toInt h637
                          have b638 := gI_121_67 hI630; rw [h637] at b638
                          show hw base _ _ _ _ _ [] _ _
                          refine xw_goto (tgt := 363) (aX12_tokens 157 rfl) (by decide) ?_
                          exact hw_L (j441 (y1_566) (x636) FI628 FL629 (by show 0 ≤ (y1_566).toInt ∧ (y1_566).toInt ≤ 1003; omega) (gf_tr ex_rf fr10 f631 rfl rfl rfl) hI630 (show FI628 121 13 = x21 from (gf_at f631 (c121 hS) (s121 hS) rfl (h22))) (show FI628 121 67 = x636 from h637) (by show 0 ≤ (x636).toInt ∧ (x636).toInt ≤ 1001; omega) (gf_tr ex_rf fr11 f632 rfl rfl rfl) (show rl_t (FI628 149) (FL629 150) from rl635) (by show (x636).toInt ≤ (y1_566).toInt; omega) (by show (x636).toInt ≤ (x21).toInt; omega) (by show (y1).toInt < (y1_566).toInt; omega) (by show (y1_566).toInt ≤ 1003; omega)) ⟨rfl, rfl, rfl, trivial⟩
                        · refine hw_bp (v := (6 : Int32)) (aX12_tokens 151 rfl) (by decide) ?_
                          refine xw_goto (tgt := 271) (aX12_tokens 152 rfl) (by decide) ?_
                          refine xw_lload (aX12_tokens 154 rfl) rfl ?_
                          refine xw_iloadn (aX12_tokens 155 rfl) rfl ?_
                          refine hw_callV (Bs := [.int ((6 : Int32)), .long (y4), .int (y1)]) (rest := []) (aX12_tokens 156 rfl) wc_RX12_457 (by decide) rfl wi_yX12_token wv_yX12_token (c121 hS) (s121 hS) rfl rfl rfl (Nat.le_of_ble_eq_true rfl) (Nat.le_of_ble_eq_true rfl) (n_token (d := d + 1) hS hF hI12 ((6 : Int32)) (y4) (y1) (by have := congrArg Int32.toInt (show FIv8 121 67 = x18 from h19); omega) (by have := ((by decide : (6 : Int32).toInt = 6) : ((6 : Int32)).toInt = 6); omega) (by have := ((by decide : (6 : Int32).toInt = 6) : ((6 : Int32)).toInt = 6); omega) (show rl_t (FIv8 149) (FLv9 150) from rl13)) (fun v639 sv640 p641 => ?_)
                          have := congrArg Int32.toInt (show FIv8 121 67 = x18 from h19)
                          obtain ⟨rfl, FI643, FL644, rfl, hI645, f646, f647, t648, u649, rl650⟩ := p641
                          obtain ⟨x651, h652⟩ : ∃ y, FI643 121 67 = y := ⟨_, rfl⟩
                          have h652l := congrArg Int32.toInt h652
                          have b653 := gI_121_67 hI645; rw [h652] at b653
                          show hw base _ _ _ _ _ [] _ _
                          refine xw_goto (tgt := 363) (aX12_tokens 157 rfl) (by decide) ?_
                          exact hw_L (j441 (y1_566) (x651) FI643 FL644 (by show 0 ≤ (y1_566).toInt ∧ (y1_566).toInt ≤ 1003; omega) (gf_tr ex_rf fr10 f646 rfl rfl rfl) hI645 (show FI643 121 13 = x21 from (gf_at f646 (c121 hS) (s121 hS) rfl (h22))) (show FI643 121 67 = x651 from h652) (by show 0 ≤ (x651).toInt ∧ (x651).toInt ≤ 1001; omega) (gf_tr ex_rf fr11 f647 rfl rfl rfl) (show rl_t (FI643 149) (FL644 150) from rl650) (by show (x651).toInt ≤ (y1_566).toInt; omega) (by show (x651).toInt ≤ (x21).toInt; omega) (by show (y1).toInt < (y1_566).toInt; omega) (by show (y1_566).toInt ≤ 1003; omega)) ⟨rfl, rfl, rfl, trivial⟩
                    · replace t584 := t584 (by omega)
                      clear t585
                      refine xw_iloadn (aX12_tokens 118 rfl) rfl ?_
                      refine xw_iloadn (aX12_tokens 119 rfl) rfl ?_
                      refine xw_isub (aX12_tokens 120 rfl) ?_
                      refine hw_tie (A := ((y1_566).toInt) - ((y1).toInt)) (i_sub rfl rfl (by omega) (by omega)) (fun x654 e655 => ?_)
                      refine hw_bp (v := (18 : Int32)) (aX12_tokens 121 rfl) (by decide) ?_
                      refine hw_icge (tgt := 237) (aX12_tokens 122 rfl) (by decide) e655 (by decide : (18 : Int32).toInt = 18) (fun cd656 => ?_) (fun cd656 => ?_)
                      · refine xw_iloadn (aX12_tokens 134 rfl) rfl ?_
                        refine hw_ic (v := (1 : Int32)) (aX12_tokens 135 rfl) (by decide) ?_
                        refine xw_iadd (aX12_tokens 136 rfl) ?_
                        refine hw_tie (A := ((y1_566).toInt) + (1)) (i_add rfl (by decide : (1 : Int32).toInt = 1) (by omega) (by omega)) (fun x657 e658 => ?_)
                        refine xw_istoren (L2 := [(1, .int (x657)), (4, .long (y4)), (3, .int (y1)), (0, .ref (base + 121))]) (aX12_tokens 137 rfl) (by decide) rfl ?_
                        refine xw_goto (tgt := 198) (aX12_tokens 138 rfl) (by decide) ?_
                        exact hw_L (ih (y4) (x657) (by have := (e658 : (x657).toInt = ((y1_566).toInt) + (1)); omega) (by have := (e658 : (x657).toInt = ((y1_566).toInt) + (1)); omega) (by have := (e658 : (x657).toInt = ((y1_566).toInt) + (1)); omega) (show (y4).toInt < t10 ((x657).toInt - (y1).toInt) from (by have := (e658 : (x657).toInt = ((y1_566).toInt) + (1)); exact (by have e2 := e658; rw [show ((x657).toInt - (y1).toInt : Int) = ((y1_566).toInt - (y1).toInt) + 1 by omega]; exact t10_k xi198_0 (by omega)))) (by have := (e658 : (x657).toInt = ((y1_566).toInt) + (1)); omega)) ⟨rfl, rfl, rfl, rfl, trivial⟩
                      · have e659 : 0 ≤ (y4).toInt ∧ (y4).toInt ≤ 99999999999999999 := by have := t10_17 xi198_0 (by omega) (by omega); omega
                        refine xw_ldc2 (aX12_tokens 123 rfl) wk_RX12_465 ?_
                        refine xw_lload (aX12_tokens 124 rfl) rfl ?_
                        refine xw_lmul (aX12_tokens 125 rfl) ?_
                        refine hw_tle (A := (10) * ((y4).toInt)) (l_mul (by decide : (10 : Int64).toInt = 10) rfl (by omega) (by omega)) (fun x660 e661 => ?_)
                        refine hw_aloadn (aX12_tokens 126 rfl) rfl ?_
                        refine xw_iloadn (aX12_tokens 127 rfl) rfl ?_
                        refine hw_callV (Bs := [.int (y1_566)]) (rest := [.long (x660)]) (aX12_tokens 128 rfl) wc_RX12_449 (by decide) rfl wi_yX12_sign wv_yX12_sign (c121 hS) (s121 hS) rfl rfl rfl (Nat.le_of_ble_eq_true rfl) (Nat.le_of_ble_eq_true rfl) (n_sign (d := d + 1) hS hF hI12 (y1_566) (by omega)) (fun v662 sv663 p664 => ?_)
                        have := congrArg Int32.toInt (show FIv8 121 13 = x21 from h22)
                        obtain ⟨r665, rfl, rfl, t667, t668, u669⟩ := p664
                        have rg_r665 := i_rng r665
                        show hw base _ _ _ _ _ [.int (r665), .long (x660)] _ _
                        have h226 : r665 = r574 := by rw [u669 (by omega), u578 (by omega)]
                        have h226i := congrArg Int32.toInt h226
                        refine xw_i2l (aX12_tokens 129 rfl) ?_
                        refine hw_tle (A := (r665).toInt) (i_2l rfl) (fun x670 e671 => ?_)
                        refine xw_ladd (aX12_tokens 130 rfl) ?_
                        refine hw_tle (A := ((10) * ((y4).toInt)) + ((r665).toInt)) (l_add e661 e671 (by omega) (by omega)) (fun x672 e673 => ?_)
                        refine xw_ldc2 (aX12_tokens 131 rfl) wk_RX12_467 ?_
                        refine xw_lsub (aX12_tokens 132 rfl) ?_
                        refine hw_tle (A := (((10) * ((y4).toInt)) + ((r665).toInt)) - (48)) (l_sub e673 (by decide : (48 : Int64).toInt = 48) (by omega) (by omega)) (fun x674 e675 => ?_)
                        refine xw_lstore (L2 := [(4, .long (x674)), (3, .int (y1)), (1, .int (y1_566)), (0, .ref (base + 121))]) (aX12_tokens 133 rfl) (by decide) rfl ?_
                        refine xw_iloadn (aX12_tokens 134 rfl) rfl ?_
                        refine hw_ic (v := (1 : Int32)) (aX12_tokens 135 rfl) (by decide) ?_
                        refine xw_iadd (aX12_tokens 136 rfl) ?_
                        refine hw_tie (A := ((y1_566).toInt) + (1)) (i_add rfl (by decide : (1 : Int32).toInt = 1) (by omega) (by omega)) (fun x676 e677 => ?_)
                        refine xw_istoren (L2 := [(1, .int (x676)), (4, .long (x674)), (3, .int (y1)), (0, .ref (base + 121))]) (aX12_tokens 137 rfl) (by decide) rfl ?_
                        refine xw_goto (tgt := 198) (aX12_tokens 138 rfl) (by decide) ?_
                        exact hw_L (ih (x674) (x676) (by have := (e675 : (x674).toInt = (((10) * ((y4).toInt)) + ((r665).toInt)) - (48)); have := (e677 : (x676).toInt = ((y1_566).toInt) + (1)); omega) (by have := (e675 : (x674).toInt = (((10) * ((y4).toInt)) + ((r665).toInt)) - (48)); have := (e677 : (x676).toInt = ((y1_566).toInt) + (1)); omega) (by have := (e675 : (x674).toInt = (((10) * ((y4).toInt)) + ((r665).toInt)) - (48)); have := (e677 : (x676).toInt = ((y1_566).toInt) + (1)); omega) (show (x674).toInt < t10 ((x676).toInt - (y1).toInt) from (by have := (e675 : (x674).toInt = (((10) * ((y4).toInt)) + ((r665).toInt)) - (48)); have := (e677 : (x676).toInt = ((y1_566).toInt) + (1)); exact (by have e1 := e675; have e2 := e677; have z := t10_s (d := (r665).toInt - 48) xi198_0 (by omega) (by omega) (by omega); rw [show ((x676).toInt - (y1).toInt : Int) = ((y1_566).toInt - (y1).toInt) + 1 by omega]; omega))) (by have := (e675 : (x674).toInt = (((10) * ((y4).toInt)) + ((r665).toInt)) - (48)); have := (e677 : (x676).toInt = ((y1_566).toInt) + (1)); omega)) ⟨rfl, rfl, rfl, rfl, trivial⟩
                exact hw_L (lp570 ((1003 - (y1).toInt : Int).toNat + 1) ((0 : Int64)) (y1) (by have := ((by decide : (0 : Int64).toInt = 0) : ((0 : Int64)).toInt = 0); omega) (by have := ((by decide : (0 : Int64).toInt = 0) : ((0 : Int64)).toInt = 0); omega) (by have := ((by decide : (0 : Int64).toInt = 0) : ((0 : Int64)).toInt = 0); omega) (show 0 < t10 ((y1).toInt - (y1).toInt) from (by have := ((by decide : (0 : Int64).toInt = 0) : ((0 : Int64)).toInt = 0); exact (by rw [show ((y1).toInt - (y1).toInt : Int) = (0 : Int) by omega]; decide))) (by have := ((by decide : (0 : Int64).toInt = 0) : ((0 : Int64)).toInt = 0); omega)) ⟨rfl, rfl, rfl, rfl, trivial⟩
            · replace t454 := t454 (by omega)
              clear t455
              refine hw_lc (v := (0 : Int64)) (aX12_tokens 30 rfl) (by decide) ?_
              refine xw_lstore (L2 := [(4, .long ((0 : Int64))), (3, .int (y1)), (2, .int (r43)), (1, .int (y1)), (0, .ref (base + 121))]) (aX12_tokens 31 rfl) (by decide) rfl ?_
              have lp681 : ∀ (m : Nat) (y4 : Int64) (y1_678 : Int32), (0 ≤ (y1_678).toInt ∧ (y1_678).toInt ≤ 1003) → ((y1).toInt ≤ (y1_678).toInt) → 1003 - (y1_678).toInt < m → hw base (d + 2) none 212 53 [(4, .long (y4)), (3, .int (y1)), (1, .int (y1_678)), (0, .ref (base + 121))] [] (n, sl, SH, FIv8, FLv9, FR) (h_V (fun s => ∃ FI' FL', s = (n, sl, SH, FI', FL', FR) ∧ g_I FI' ∧ g_fr n SH [(121, 67)] [149, 151] [] FI FI' ∧ g_fr n SH [] [150] [] FL FL' ∧ (1 ≤ (FI' 121 67).toInt) ∧ (rl_e (FI' 149) (FI' 121 67)) ∧ (rl_t (FI' 149) (FL' 150)))) := by
                intro m
                induction m with
                | zero => intro y4 y1_678 iv679 iv680 hm; omega
                | succ m ih =>
                  intro y4 y1_678 iv679 iv680 hm
                  have rg_y4 := l_rng y4
                  have rg_y1_678 := i_rng y1_678
                  refine hw_aloadn (aX12_tokens 32 rfl) rfl ?_
                  refine hw_aloadn (aX12_tokens 33 rfl) rfl ?_
                  refine xw_iloadn (aX12_tokens 34 rfl) rfl ?_
                  refine hw_callV (Bs := [.int (y1_678)]) (rest := [.ref (base + 121)]) (aX12_tokens 35 rfl) wc_RX12_449 (by decide) rfl wi_yX12_sign wv_yX12_sign (c121 hS) (s121 hS) rfl rfl rfl (Nat.le_of_ble_eq_true rfl) (Nat.le_of_ble_eq_true rfl) (n_sign (d := d + 1) hS hF hI12 (y1_678) (by omega)) (fun v682 sv683 p684 => ?_)
                  have := congrArg Int32.toInt (show FIv8 121 13 = x21 from h22)
                  obtain ⟨r685, rfl, rfl, t687, t688, u689⟩ := p684
                  have rg_r685 := i_rng r685
                  show hw base _ _ _ _ _ [.int (r685), .ref (base + 121)] _ _
                  refine hw_callV (Bs := [.int (r685)]) (rest := []) (aX12_tokens 36 rfl) wc_RX12_423 (by decide) rfl wi_yX12_isSmall wv_yX12_isSmall (c121 hS) (s121 hS) rfl rfl rfl (Nat.le_of_ble_eq_true rfl) (Nat.le_of_ble_eq_true rfl) (n_isSmall (d := d + 1) hS hF hI12 (r685) ) (fun v690 sv691 p692 => ?_)
                  obtain ⟨r693, rfl, rfl, t695, t696, t697⟩ := p692
                  show hw base _ _ _ _ _ [.int (r693)] _ _
                  have j828 : ((y1_678).toInt < (x21).toInt) → hw base (d + 2) none 212 77 [(0, .ref (base + 121)), (1, .int (y1_678)), (3, .int (y1)), (4, .long (y4))] [] (n, sl, SH, FIv8, FLv9, FR) (h_V (fun s => ∃ FI' FL', s = (n, sl, SH, FI', FL', FR) ∧ g_I FI' ∧ g_fr n SH [(121, 67)] [149, 151] [] FI FI' ∧ g_fr n SH [] [150] [] FL FL' ∧ (1 ≤ (FI' 121 67).toInt) ∧ (rl_e (FI' 149) (FI' 121 67)) ∧ (rl_t (FI' 149) (FL' 150)))) := by
                    intro fc77_0
                    refine hw_aloadn (aX12_tokens 44 rfl) rfl ?_
                    refine xw_iloadn (aX12_tokens 45 rfl) rfl ?_
                    refine hw_callV (Bs := [.int (y1_678)]) (rest := []) (aX12_tokens 46 rfl) wc_RX12_449 (by decide) rfl wi_yX12_sign wv_yX12_sign (c121 hS) (s121 hS) rfl rfl rfl (Nat.le_of_ble_eq_true rfl) (Nat.le_of_ble_eq_true rfl) (n_sign (d := d + 1) hS hF hI12 (y1_678) (by omega)) (fun v829 sv830 p831 => ?_)
                    have := congrArg Int32.toInt (show FIv8 121 13 = x21 from h22)
                    obtain ⟨r832, rfl, rfl, t834, t835, u836⟩ := p831
                    have rg_r832 := i_rng r832
                    show hw base _ _ _ _ _ [.int (r832)] _ _
                    refine xw_istore (L2 := [(6, .int (r832)), (0, .ref (base + 121)), (1, .int (y1_678)), (3, .int (y1)), (4, .long (y4))]) (aX12_tokens 47 rfl) (by decide) rfl ?_
                    refine xw_iloadn (aX12_tokens 48 rfl) rfl ?_
                    refine xw_iloadn (aX12_tokens 49 rfl) rfl ?_
                    refine xw_isub (aX12_tokens 50 rfl) ?_
                    refine hw_tie (A := ((y1_678).toInt) - ((y1).toInt)) (i_sub rfl rfl (by omega) (by omega)) (fun x837 e838 => ?_)
                    refine hw_bp (v := (8 : Int32)) (aX12_tokens 51 rfl) (by decide) ?_
                    have j863 : ∀ (g860 : Int64), hw base (d + 2) none 212 124 [(0, .ref (base + 121)), (1, .int (y1_678)), (3, .int (y1)), (4, .long (g860))] [] (n, sl, SH, FIv8, FLv9, FR) (h_V (fun s => ∃ FI' FL', s = (n, sl, SH, FI', FL', FR) ∧ g_I FI' ∧ g_fr n SH [(121, 67)] [149, 151] [] FI FI' ∧ g_fr n SH [] [150] [] FL FL' ∧ (1 ≤ (FI' 121 67).toInt) ∧ (rl_e (FI' 149) (FI' 121 67)) ∧ (rl_t (FI' 149) (FL' 150)))) := by
                      intro g860
                      have rg_g860 := l_rng g860
                      refine xw_iloadn (aX12_tokens 70 rfl) rfl ?_
                      refine hw_ic (v := (1 : Int32)) (aX12_tokens 71 rfl) (by decide) ?_
                      refine xw_iadd (aX12_tokens 72 rfl) ?_
                      refine hw_tie (A := ((y1_678).toInt) + (1)) (i_add rfl (by decide : (1 : Int32).toInt = 1) (by omega) (by omega)) (fun x864 e865 => ?_)
                      refine xw_istoren (L2 := [(1, .int (x864)), (0, .ref (base + 121)), (3, .int (y1)), (4, .long (g860))]) (aX12_tokens 73 rfl) (by decide) rfl ?_
                      refine xw_goto (tgt := 53) (aX12_tokens 74 rfl) (by decide) ?_
                      exact hw_L (ih (g860) (x864) (by have := (e865 : (x864).toInt = ((y1_678).toInt) + (1)); omega) (by have := (e865 : (x864).toInt = ((y1_678).toInt) + (1)); omega) (by have := (e865 : (x864).toInt = ((y1_678).toInt) + (1)); omega)) ⟨rfl, rfl, rfl, rfl, trivial⟩
                    refine hw_icge (tgt := 124) (aX12_tokens 52 rfl) (by decide) e838 (by decide : (8 : Int32).toInt = 8) (fun cd866 => ?_) (fun cd866 => ?_)
                    · exact hw_L (j863 (y4)) ⟨rfl, rfl, rfl, rfl, trivial⟩
                    · refine xw_ldc2 (aX12_tokens 53 rfl) wk_RX12_455 ?_
                      refine xw_lload (aX12_tokens 54 rfl) rfl ?_
                      refine xw_lmul (aX12_tokens 55 rfl) ?_
                      refine hw_tl (fun x867 => ?_)
                      have b868 := l_rng x867
                      refine hw_aloadn (aX12_tokens 56 rfl) rfl ?_
                      refine xw_iload (aX12_tokens 57 rfl) rfl ?_
                      refine hw_callV (Bs := [.int (r832)]) (rest := [.long (x867)]) (aX12_tokens 58 rfl) wc_RX12_423 (by decide) rfl wi_yX12_isSmall wv_yX12_isSmall (c121 hS) (s121 hS) rfl rfl rfl (Nat.le_of_ble_eq_true rfl) (Nat.le_of_ble_eq_true rfl) (n_isSmall (d := d + 1) hS hF hI12 (r832) ) (fun v869 sv870 p871 => ?_)
                      obtain ⟨r872, rfl, rfl, t874, t875, t876⟩ := p871
                      show hw base _ _ _ _ _ [.int (r872), .long (x867)] _ _
                      have j887 : ∀ (g882 : Int32), (-97 ≤ (g882).toInt ∧ (g882).toInt ≤ 234) → hw base (d + 2) none 212 120 [(0, .ref (base + 121)), (1, .int (y1_678)), (3, .int (y1))] [.int (g882), .long (x867)] (n, sl, SH, FIv8, FLv9, FR) (h_V (fun s => ∃ FI' FL', s = (n, sl, SH, FI', FL', FR) ∧ g_I FI' ∧ g_fr n SH [(121, 67)] [149, 151] [] FI FI' ∧ g_fr n SH [] [150] [] FL FL' ∧ (1 ≤ (FI' 121 67).toInt) ∧ (rl_e (FI' 149) (FI' 121 67)) ∧ (rl_t (FI' 149) (FL' 150)))) := by
                        intro g882 q888
                        have rg_g882 := i_rng g882
                        refine xw_i2l (aX12_tokens 67 rfl) ?_
                        refine hw_tle (A := (g882).toInt) (i_2l rfl) (fun x889 e890 => ?_)
                        refine xw_ladd (aX12_tokens 68 rfl) ?_
                        refine hw_tl (fun x891 => ?_)
                        have b892 := l_rng x891
                        refine xw_lstore (L2 := [(4, .long (x891)), (0, .ref (base + 121)), (1, .int (y1_678)), (3, .int (y1))]) (aX12_tokens 69 rfl) (by decide) rfl ?_
                        exact hw_L (j863 (x891)) ⟨rfl, rfl, rfl, rfl, trivial⟩
                      refine hw_ifeq (tgt := 115) (aX12_tokens 59 rfl) (by decide) rfl (fun cd893 => ?_) (fun cd893 => ?_)
                      · clear t874
                        replace t875 := t875 (by omega)
                        refine xw_iload (aX12_tokens 64 rfl) rfl ?_
                        refine hw_bp (v := (21 : Int32)) (aX12_tokens 65 rfl) (by decide) ?_
                        refine xw_isub (aX12_tokens 66 rfl) ?_
                        refine hw_tie (A := ((r832).toInt) - (21)) (i_sub rfl (by decide : (21 : Int32).toInt = 21) (by omega) (by omega)) (fun x894 e895 => ?_)
                        exact hw_L (j887 (x894) (by have := (e895 : (x894).toInt = ((r832).toInt) - (21)); show -97 ≤ (x894).toInt ∧ (x894).toInt ≤ 234; omega)) ⟨rfl, rfl, rfl, trivial⟩
                      · replace t874 := t874 (by omega)
                        clear t875
                        refine xw_iload (aX12_tokens 60 rfl) rfl ?_
                        refine hw_bp (v := (96 : Int32)) (aX12_tokens 61 rfl) (by decide) ?_
                        refine xw_isub (aX12_tokens 62 rfl) ?_
                        refine hw_tie (A := ((r832).toInt) - (96)) (i_sub rfl (by decide : (96 : Int32).toInt = 96) (by omega) (by omega)) (fun x896 e897 => ?_)
                        refine xw_goto (tgt := 120) (aX12_tokens 63 rfl) (by decide) ?_
                        exact hw_L (j887 (x896) (by have := (e897 : (x896).toInt = ((r832).toInt) - (96)); show -97 ≤ (x896).toInt ∧ (x896).toInt ≤ 234; omega)) ⟨rfl, rfl, rfl, trivial⟩
                  refine hw_ifne (tgt := 77) (aX12_tokens 37 rfl) (by decide) rfl (fun cd898 => ?_) (fun cd898 => ?_)
                  · replace t695 := t695 (by omega)
                    clear t696
                    exact hw_L (j828 (by show (y1_678).toInt < (x21).toInt; omega)) ⟨rfl, rfl, rfl, rfl, trivial⟩
                  · clear t695
                    replace t696 := t696 (by omega)
                    refine hw_aloadn (aX12_tokens 38 rfl) rfl ?_
                    refine hw_aloadn (aX12_tokens 39 rfl) rfl ?_
                    refine xw_iloadn (aX12_tokens 40 rfl) rfl ?_
                    refine hw_callV (Bs := [.int (y1_678)]) (rest := [.ref (base + 121)]) (aX12_tokens 41 rfl) wc_RX12_449 (by decide) rfl wi_yX12_sign wv_yX12_sign (c121 hS) (s121 hS) rfl rfl rfl (Nat.le_of_ble_eq_true rfl) (Nat.le_of_ble_eq_true rfl) (n_sign (d := d + 1) hS hF hI12 (y1_678) (by omega)) (fun v899 sv900 p901 => ?_)
                    have := congrArg Int32.toInt (show FIv8 121 13 = x21 from h22)
                    obtain ⟨r902, rfl, rfl, t904, t905, u906⟩ := p901
                    have rg_r902 := i_rng r902
                    show hw base _ _ _ _ _ [.int (r902), .ref (base + 121)] _ _
                    refine hw_callV (Bs := [.int (r902)]) (rest := []) (aX12_tokens 42 rfl) wc_RX12_452 (by decide) rfl wi_yX12_isDigit wv_yX12_isDigit (c121 hS) (s121 hS) rfl rfl rfl (Nat.le_of_ble_eq_true rfl) (Nat.le_of_ble_eq_true rfl) (n_isDigit (d := d + 1) hS hF hI12 (r902) ) (fun v907 sv908 p909 => ?_)
                    obtain ⟨r910, rfl, rfl, t912, t913, t914⟩ := p909
                    show hw base _ _ _ _ _ [.int (r910)] _ _
                    refine hw_ifeq (tgt := 131) (aX12_tokens 43 rfl) (by decide) rfl (fun cd915 => ?_) (fun cd915 => ?_)
                    · clear t912
                      replace t913 := t913 (by omega)
                      have hs : (y1_678).toInt = (y1).toInt → (r685).toInt = (r43).toInt := fun e => by rw [u689 (by omega), u47 (by omega), i_eqv e]
                      have hp : (y1).toInt + 1 ≤ (y1_678).toInt := by omega
                      refine xw_iloadn (aX12_tokens 75 rfl) rfl ?_
                      refine xw_iloadn (aX12_tokens 76 rfl) rfl ?_
                      refine xw_isub (aX12_tokens 77 rfl) ?_
                      refine hw_tie (A := ((y1_678).toInt) - ((y1).toInt)) (i_sub rfl rfl (by omega) (by omega)) (fun x916 e917 => ?_)
                      refine hw_bp (v := (8 : Int32)) (aX12_tokens 78 rfl) (by decide) ?_
                      have j994 : ∀ (g989 : Int32) (FIj985 : Nat → Nat → Int32) (FLj991 : Nat → Nat → Int64), (g_fr n SH [(121, 67)] [149, 151] [] FI FIj985) → (g_I FIj985) → (FIj985 121 13 = x21) → (FIj985 121 67 = g989) → (0 ≤ (g989).toInt ∧ (g989).toInt ≤ 1001) → (g_fr n SH [] [150] [] FL FLj991) → (rl_t (FIj985 149) (FLj991 150)) → ((g989).toInt ≤ (y1).toInt + 1) → ((g989).toInt ≤ (x21).toInt) → hw base (d + 2) none 212 184 [(0, .ref (base + 121)), (1, .int (y1_678)), (3, .int (y1))] [] (n, sl, SH, FIj985, FLj991, FR) (h_V (fun s => ∃ FI' FL', s = (n, sl, SH, FI', FL', FR) ∧ g_I FI' ∧ g_fr n SH [(121, 67)] [149, 151] [] FI FI' ∧ g_fr n SH [] [150] [] FL FL' ∧ (1 ≤ (FI' 121 67).toInt) ∧ (rl_e (FI' 149) (FI' 121 67)) ∧ (rl_t (FI' 149) (FL' 150)))) := by
                        intro g989 FIj985 FLj991 fr986 hI987 kp988 kp990 q995 fr992 rl993 fc184_0 fc184_1
                        have rg_g989 := i_rng g989
                        have := congrArg Int32.toInt kp988
                        have := congrArg Int32.toInt kp990
                        refine xw_goto (tgt := 363) (aX12_tokens 105 rfl) (by decide) ?_
                        exact hw_L (j441 (y1_678) (g989) FIj985 FLj991 (by show 0 ≤ (y1_678).toInt ∧ (y1_678).toInt ≤ 1003; omega) fr986 hI987 (show FIj985 121 13 = x21 from kp988) (show FIj985 121 67 = g989 from kp990) (by show 0 ≤ (g989).toInt ∧ (g989).toInt ≤ 1001; omega) fr992 (show rl_t (FIj985 149) (FLj991 150) from rl993) (by show (g989).toInt ≤ (y1_678).toInt; omega) (by show (g989).toInt ≤ (x21).toInt; omega) (by show (y1).toInt < (y1_678).toInt; omega) (by show (y1_678).toInt ≤ 1003; omega)) ⟨rfl, rfl, rfl, trivial⟩
                      refine hw_icle (tgt := 150) (aX12_tokens 79 rfl) (by decide) e917 (by decide : (8 : Int32).toInt = 8) (fun cd996 => ?_) (fun cd996 => ?_)
                      · refine hw_aloadn (aX12_tokens 86 rfl) rfl ?_
                        refine xw_lload (aX12_tokens 87 rfl) rfl ?_
                        refine hw_callV (Bs := [.long (y4)]) (rest := []) (aX12_tokens 88 rfl) wc_RX12_461 (by decide) rfl wi_yX12_word wv_yX12_word (c121 hS) (s121 hS) rfl rfl rfl (Nat.le_of_ble_eq_true rfl) (Nat.le_of_ble_eq_true rfl) (m_word (d := d + 1) hS hF (y4) ) (fun v997 sv998 p999 => ?_)
                        obtain ⟨r1000, rfl, FI1001, FL1002, rfl, rfl, rfl, t1005⟩ := p999
                        have rg_r1000 := i_rng r1000
                        show hw base _ _ _ _ _ [.int (r1000)] _ _
                        refine hw_ic (v := ((-1) : Int32)) (aX12_tokens 89 rfl) (by decide) ?_
                        refine hw_iceq (tgt := 176) (aX12_tokens 90 rfl) (by decide) rfl (by decide : ((-1) : Int32).toInt = (-1)) (fun cd1006 => ?_) (fun cd1006 => ?_)
                        · refine hw_aloadn (aX12_tokens 100 rfl) rfl ?_
                          refine hw_ic (v := (1 : Int32)) (aX12_tokens 101 rfl) (by decide) ?_
                          refine xw_lload (aX12_tokens 102 rfl) rfl ?_
                          refine xw_iloadn (aX12_tokens 103 rfl) rfl ?_
                          refine hw_callV (Bs := [.int ((1 : Int32)), .long (y4), .int (y1)]) (rest := []) (aX12_tokens 104 rfl) wc_RX12_457 (by decide) rfl wi_yX12_token wv_yX12_token (c121 hS) (s121 hS) rfl rfl rfl (Nat.le_of_ble_eq_true rfl) (Nat.le_of_ble_eq_true rfl) (n_token (d := d + 1) hS hF hI12 ((1 : Int32)) (y4) (y1) (by have := congrArg Int32.toInt (show FIv8 121 67 = x18 from h19); omega) (by have := ((by decide : (1 : Int32).toInt = 1) : ((1 : Int32)).toInt = 1); omega) (by have := ((by decide : (1 : Int32).toInt = 1) : ((1 : Int32)).toInt = 1); omega) (show rl_t (FIv8 149) (FLv9 150) from rl13)) (fun v1007 sv1008 p1009 => ?_)
                          have := congrArg Int32.toInt (show FIv8 121 67 = x18 from h19)
                          obtain ⟨rfl, FI1011, FL1012, rfl, hI1013, f1014, f1015, t1016, u1017, rl1018⟩ := p1009
                          obtain ⟨x1019, h1020⟩ : ∃ y, FI1011 121 67 = y := ⟨_, rfl⟩
                          have h1020l := congrArg Int32.toInt h1020
                          have b1021 := gI_121_67 hI1013; rw [h1020] at b1021
                          show hw base _ _ _ _ _ [] _ _
                          exact hw_L (j994 (x1019) FI1011 FL1012 (gf_tr ex_rf fr10 f1014 rfl rfl rfl) hI1013 (show FI1011 121 13 = x21 from (gf_at f1014 (c121 hS) (s121 hS) rfl (h22))) (show FI1011 121 67 = x1019 from h1020) (by show 0 ≤ (x1019).toInt ∧ (x1019).toInt ≤ 1001; omega) (gf_tr ex_rf fr11 f1015 rfl rfl rfl) (show rl_t (FI1011 149) (FL1012 150) from rl1018) (by show (x1019).toInt ≤ (y1).toInt + 1; omega) (by show (x1019).toInt ≤ (x21).toInt; omega)) ⟨rfl, rfl, rfl, trivial⟩
                        · refine hw_aloadn (aX12_tokens 91 rfl) rfl ?_
                          refine hw_ic (v := (2 : Int32)) (aX12_tokens 92 rfl) (by decide) ?_
                          refine hw_aloadn (aX12_tokens 93 rfl) rfl ?_
                          refine xw_lload (aX12_tokens 94 rfl) rfl ?_
                          refine hw_callV (Bs := [.long (y4)]) (rest := [.int ((2 : Int32)), .ref (base + 121)]) (aX12_tokens 95 rfl) wc_RX12_461 (by decide) rfl wi_yX12_word wv_yX12_word (c121 hS) (s121 hS) rfl rfl rfl (Nat.le_of_ble_eq_true rfl) (Nat.le_of_ble_eq_true rfl) (m_word (d := d + 1) hS hF (y4) ) (fun v1022 sv1023 p1024 => ?_)
                          obtain ⟨r1025, rfl, FI1026, FL1027, rfl, rfl, rfl, t1030⟩ := p1024
                          have rg_r1025 := i_rng r1025
                          show hw base _ _ _ _ _ [.int (r1025), .int ((2 : Int32)), .ref (base + 121)] _ _
                          refine xw_i2l (aX12_tokens 96 rfl) ?_
                          refine hw_tle (A := (r1025).toInt) (i_2l rfl) (fun x1031 e1032 => ?_)
                          refine xw_iloadn (aX12_tokens 97 rfl) rfl ?_
                          refine hw_callV (Bs := [.int ((2 : Int32)), .long (x1031), .int (y1)]) (rest := []) (aX12_tokens 98 rfl) wc_RX12_457 (by decide) rfl wi_yX12_token wv_yX12_token (c121 hS) (s121 hS) rfl rfl rfl (Nat.le_of_ble_eq_true rfl) (Nat.le_of_ble_eq_true rfl) (n_token (d := d + 1) hS hF hI12 ((2 : Int32)) (x1031) (y1) (by have := congrArg Int32.toInt (show FIv8 121 67 = x18 from h19); omega) (by have := ((by decide : (2 : Int32).toInt = 2) : ((2 : Int32)).toInt = 2); have := (e1032 : (x1031).toInt = (r1025).toInt); have := (e1032 : (x1031).toInt = (r1025).toInt); omega) (by have := ((by decide : (2 : Int32).toInt = 2) : ((2 : Int32)).toInt = 2); have := (e1032 : (x1031).toInt = (r1025).toInt); have := (e1032 : (x1031).toInt = (r1025).toInt); omega) (show rl_t (FIv8 149) (FLv9 150) from rl13)) (fun v1033 sv1034 p1035 => ?_)
                          have := congrArg Int32.toInt (show FIv8 121 67 = x18 from h19)
                          obtain ⟨rfl, FI1037, FL1038, rfl, hI1039, f1040, f1041, t1042, u1043, rl1044⟩ := p1035
                          obtain ⟨x1045, h1046⟩ : ∃ y, FI1037 121 67 = y := ⟨_, rfl⟩
                          have h1046l := congrArg Int32.toInt h1046
                          have b1047 := gI_121_67 hI1039; rw [h1046] at b1047
                          show hw base _ _ _ _ _ [] _ _
                          refine xw_goto (tgt := 184) (aX12_tokens 99 rfl) (by decide) ?_
                          exact hw_L (j994 (x1045) FI1037 FL1038 (gf_tr ex_rf fr10 f1040 rfl rfl rfl) hI1039 (show FI1037 121 13 = x21 from (gf_at f1040 (c121 hS) (s121 hS) rfl (h22))) (show FI1037 121 67 = x1045 from h1046) (by show 0 ≤ (x1045).toInt ∧ (x1045).toInt ≤ 1001; omega) (gf_tr ex_rf fr11 f1041 rfl rfl rfl) (show rl_t (FI1037 149) (FL1038 150) from rl1044) (by show (x1045).toInt ≤ (y1).toInt + 1; omega) (by show (x1045).toInt ≤ (x21).toInt; omega)) ⟨rfl, rfl, rfl, trivial⟩
                      · refine hw_aloadn (aX12_tokens 80 rfl) rfl ?_
                        refine hw_bp (v := (6 : Int32)) (aX12_tokens 81 rfl) (by decide) ?_
                        refine hw_lc (v := (0 : Int64)) (aX12_tokens 82 rfl) (by decide) ?_
                        refine xw_iloadn (aX12_tokens 83 rfl) rfl ?_
                        refine hw_callV (Bs := [.int ((6 : Int32)), .long ((0 : Int64)), .int (y1)]) (rest := []) (aX12_tokens 84 rfl) wc_RX12_457 (by decide) rfl wi_yX12_token wv_yX12_token (c121 hS) (s121 hS) rfl rfl rfl (Nat.le_of_ble_eq_true rfl) (Nat.le_of_ble_eq_true rfl) (n_token (d := d + 1) hS hF hI12 ((6 : Int32)) ((0 : Int64)) (y1) (by have := congrArg Int32.toInt (show FIv8 121 67 = x18 from h19); omega) (by have := ((by decide : (6 : Int32).toInt = 6) : ((6 : Int32)).toInt = 6); have := ((by decide : (0 : Int64).toInt = 0) : ((0 : Int64)).toInt = 0); have := ((by decide : (0 : Int64).toInt = 0) : ((0 : Int64)).toInt = 0); omega) (by have := ((by decide : (6 : Int32).toInt = 6) : ((6 : Int32)).toInt = 6); have := ((by decide : (0 : Int64).toInt = 0) : ((0 : Int64)).toInt = 0); have := ((by decide : (0 : Int64).toInt = 0) : ((0 : Int64)).toInt = 0); omega) (show rl_t (FIv8 149) (FLv9 150) from rl13)) (fun v1048 sv1049 p1050 => ?_)
                        have := congrArg Int32.toInt (show FIv8 121 67 = x18 from h19)
                        obtain ⟨rfl, FI1052, FL1053, rfl, hI1054, f1055, f1056, t1057, u1058, rl1059⟩ := p1050
                        obtain ⟨x1060, h1061⟩ : ∃ y, FI1052 121 67 = y := ⟨_, rfl⟩
                        have h1061l := congrArg Int32.toInt h1061
                        have b1062 := gI_121_67 hI1054; rw [h1061] at b1062
                        show hw base _ _ _ _ _ [] _ _
                        refine xw_goto (tgt := 184) (aX12_tokens 85 rfl) (by decide) ?_
                        exact hw_L (j994 (x1060) FI1052 FL1053 (gf_tr ex_rf fr10 f1055 rfl rfl rfl) hI1054 (show FI1052 121 13 = x21 from (gf_at f1055 (c121 hS) (s121 hS) rfl (h22))) (show FI1052 121 67 = x1060 from h1061) (by show 0 ≤ (x1060).toInt ∧ (x1060).toInt ≤ 1001; omega) (gf_tr ex_rf fr11 f1056 rfl rfl rfl) (show rl_t (FI1052 149) (FL1053 150) from rl1059) (by show (x1060).toInt ≤ (y1).toInt + 1; omega) (by show (x1060).toInt ≤ (x21).toInt; omega)) ⟨rfl, rfl, rfl, trivial⟩
                    · replace t912 := t912 (by omega)
                      clear t913
                      exact hw_L (j828 (by show (y1_678).toInt < (x21).toInt; omega)) ⟨rfl, rfl, rfl, rfl, trivial⟩
              exact hw_L (lp681 ((1003 - (y1).toInt : Int).toNat + 1) ((0 : Int64)) (y1) (by have := ((by decide : (0 : Int64).toInt = 0) : ((0 : Int64)).toInt = 0); omega) (by have := ((by decide : (0 : Int64).toInt = 0) : ((0 : Int64)).toInt = 0); omega) (by have := ((by decide : (0 : Int64).toInt = 0) : ((0 : Int64)).toInt = 0); omega)) ⟨rfl, rfl, rfl, rfl, trivial⟩
          · exact hw_L (j444) ⟨rfl, rfl, rfl, trivial⟩
  obtain ⟨x1063, h1064⟩ : ∃ y, FI4 121 13 = y := ⟨_, rfl⟩
  have h1064l := congrArg Int32.toInt h1064
  have b1065 := gI_121_13 hI7; rw [h1064] at b1065
  exact hw_L (lp17 ((1003 - 0 : Int).toNat + 1) ((0 : Int32)) FI4 FL (gf_f gf_rf u5 (by decide)) gf_rf hI7 (show rl_t (FI4 149) (FL 150) from rl6) (by have := ((by decide : (0 : Int32).toInt = 0) : ((0 : Int32)).toInt = 0); omega) (by have := ((by decide : (0 : Int32).toInt = 0) : ((0 : Int32)).toInt = 0); have := congrArg Int32.toInt (show FI4 121 67 = (0 : Int32) from up_eq u5); have := ((by decide : (0 : Int32).toInt = 0) : ((0 : Int32)).toInt = 0); omega) (by have := ((by decide : (0 : Int32).toInt = 0) : ((0 : Int32)).toInt = 0); have := congrArg Int32.toInt (show FI4 121 13 = x1063 from h1064); have := congrArg Int32.toInt (show FI4 121 67 = (0 : Int32) from up_eq u5); have := ((by decide : (0 : Int32).toInt = 0) : ((0 : Int32)).toInt = 0); omega) (by have := ((by decide : (0 : Int32).toInt = 0) : ((0 : Int32)).toInt = 0); omega)) ⟨rfl, rfl, trivial⟩
