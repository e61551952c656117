set_option maxHeartbeats 4000000 in
set_option maxRecDepth 100000 in
theorem n_sign {sk : xK} {base d n sl : Nat} {SH : Nat → Nat × Nat} {FI : Nat → Nat → Int32} {FL : Nat → Nat → Int64} {FR : Nat → Nat → Option Nat} (hS : h_S n SH) (hF : h_FR FR) (hI : g_I FI) (a1 : Int32) (g0 : 0 ≤ (a1).toInt ∧ (a1).toInt ≤ 1100) : hw sk base d none 206 0 [(0, .ref (base + 121)), (1, .int (a1))] [] (n, sl, SH, FI, FL, FR) (h_I (fun r s => s = (n, sl, SH, FI, FL, FR) ∧ (-1 ≤ r.toInt ∧ r.toInt ≤ 255) ∧ (r.toInt = -1 ∨ (a1).toInt < (FI 121 13).toInt) ∧ ((a1).toInt < (FI 121 13).toInt → r = FI 126 (a1).toNatClampNeg))) := by
  have rg_a1 := i_rng a1
  obtain ⟨x1, h2⟩ : ∃ y, FI 121 13 = y := ⟨_, rfl⟩
  have h2l := congrArg Int32.toInt h2
  have b3 := gI_121_13 hI; rw [h2] at b3
  refine xw_iloadn (aX12_sign 0 rfl) rfl ?_
  refine hw_aloadn (aX12_sign 1 rfl) rfl ?_
  refine hw_get (v := .int (x1)) (aX12_sign 2 rfl) wf_RX12_190 (c121 hS) (s121 hS) (by decide) (congrArg Value.int (show FI 121 13 = x1 from h2)) ?_
  refine hw_icge (tgt := 17) (aX12_sign 3 rfl) (by decide) rfl rfl (fun cd4 => ?_) (fun cd4 => ?_)
  · refine hw_ic (v := ((-1) : Int32)) (aX12_sign 9 rfl) (by decide) ?_
    refine xw_iret (aX12_sign 10 rfl) rfl rfl ?_
    have e5 : (((-1) : Int32)).toInt = (-1) := (by decide : ((-1) : Int32).toInt = (-1))
    exact ⟨((-1) : Int32), rfl, rfl, (by have : (((-1) : Int32)).toInt = (-1) := (by decide); omega), (by have : (((-1) : Int32)).toInt = (-1) := (by decide); omega), (by exact fun h => absurd h (by omega))⟩
  · refine hw_aloadn (aX12_sign 4 rfl) rfl ?_
    refine hw_get (v := .ref (base + 126)) (aX12_sign 5 rfl) wf_RX12_30 (c121 hS) (s121 hS) (by decide) (congrArg (fun r => va_rf (h_rf base r)) (r121_12 hF)) ?_
    refine xw_iloadn (aX12_sign 6 rfl) rfl ?_
    obtain ⟨x6, h7⟩ : ∃ y, FI 126 (a1).toNatClampNeg = y := ⟨_, rfl⟩
    have h7l := congrArg Int32.toInt h7
    have := i_rng x6
    refine hw_iald (v := x6) (aX12_sign 7 rfl) (c126 hS) (s126 hS) (h_in rfl (by omega) (by omega)) (show FI 126 (a1).toNatClampNeg = x6 from h7) ?_
    have b8 := gI_126 hI (i_lt (x := a1) rfl (by omega) (by omega)); rw [h7] at b8
    refine xw_goto (tgt := 18) (aX12_sign 8 rfl) (by decide) ?_
    refine xw_iret (aX12_sign 10 rfl) rfl rfl ?_
    exact ⟨x6, rfl, rfl, (by omega), (by omega), (by exact fun _ => (h7).symm)⟩
set_option maxHeartbeats 4000000 in
set_option maxRecDepth 100000 in
theorem n_isSmall {sk : xK} {base d n sl : Nat} {SH : Nat → Nat × Nat} {FI : Nat → Nat → Int32} {FL : Nat → Nat → Int64} {FR : Nat → Nat → Option Nat} (hS : h_S n SH) (hF : h_FR FR) (hI : g_I FI) (a1 : Int32) : hw sk base d none 207 0 [(0, .ref (base + 121)), (1, .int (a1))] [] (n, sl, SH, FI, FL, FR) (h_I (fun r s => s = (n, sl, SH, FI, FL, FR) ∧ (r.toInt = 1 → (97 ≤ (a1).toInt ∧ (a1).toInt ≤ 122)) ∧ (r.toInt = 0 → ((a1).toInt < 97 ∨ 122 < (a1).toInt)) ∧ (0 ≤ r.toInt ∧ r.toInt ≤ 1))) := by
  have rg_a1 := i_rng a1
  refine xw_iloadn (aX12_isSmall 0 rfl) rfl ?_
  refine hw_bp (v := (97 : Int32)) (aX12_isSmall 1 rfl) (by decide) ?_
  refine hw_iclt (tgt := 16) (aX12_isSmall 2 rfl) (by decide) rfl (by decide : (97 : Int32).toInt = 97) (fun cd1 => ?_) (fun cd1 => ?_)
  · refine hw_ic (v := (0 : Int32)) (aX12_isSmall 8 rfl) (by decide) ?_
    refine xw_iret (aX12_isSmall 9 rfl) rfl (by decide) ?_
    have e2 : ((0 : Int32)).toInt = 0 := (by decide : (0 : Int32).toInt = 0)
    exact ⟨(0 : Int32), rfl, rfl, (by have : ((0 : Int32)).toInt = 0 := (by decide); omega), (by have : ((0 : Int32)).toInt = 0 := (by decide); omega), (by have : ((0 : Int32)).toInt = 0 := (by decide); omega)⟩
  · refine xw_iloadn (aX12_isSmall 3 rfl) rfl ?_
    refine hw_bp (v := (122 : Int32)) (aX12_isSmall 4 rfl) (by decide) ?_
    refine hw_icgt (tgt := 16) (aX12_isSmall 5 rfl) (by decide) rfl (by decide : (122 : Int32).toInt = 122) (fun cd3 => ?_) (fun cd3 => ?_)
    · refine hw_ic (v := (0 : Int32)) (aX12_isSmall 8 rfl) (by decide) ?_
      refine xw_iret (aX12_isSmall 9 rfl) rfl (by decide) ?_
      have e4 : ((0 : Int32)).toInt = 0 := (by decide : (0 : Int32).toInt = 0)
      exact ⟨(0 : Int32), rfl, rfl, (by have : ((0 : Int32)).toInt = 0 := (by decide); omega), (by have : ((0 : Int32)).toInt = 0 := (by decide); omega), (by have : ((0 : Int32)).toInt = 0 := (by decide); omega)⟩
    · refine hw_ic (v := (1 : Int32)) (aX12_isSmall 6 rfl) (by decide) ?_
      refine xw_goto (tgt := 17) (aX12_isSmall 7 rfl) (by decide) ?_
      refine xw_iret (aX12_isSmall 9 rfl) rfl (by decide) ?_
      have e5 : ((1 : Int32)).toInt = 1 := (by decide : (1 : Int32).toInt = 1)
      exact ⟨(1 : Int32), rfl, rfl, (by have : ((1 : Int32)).toInt = 1 := (by decide); omega), (by have : ((1 : Int32)).toInt = 1 := (by decide); omega), (by have : ((1 : Int32)).toInt = 1 := (by decide); omega)⟩
set_option maxHeartbeats 4000000 in
set_option maxRecDepth 100000 in
theorem n_isDigit {sk : xK} {base d n sl : Nat} {SH : Nat → Nat × Nat} {FI : Nat → Nat → Int32} {FL : Nat → Nat → Int64} {FR : Nat → Nat → Option Nat} (hS : h_S n SH) (hF : h_FR FR) (hI : g_I FI) (a1 : Int32) : hw sk base d none 208 0 [(0, .ref (base + 121)), (1, .int (a1))] [] (n, sl, SH, FI, FL, FR) (h_I (fun r s => s = (n, sl, SH, FI, FL, FR) ∧ (r.toInt = 1 → (48 ≤ (a1).toInt ∧ (a1).toInt ≤ 57)) ∧ (r.toInt = 0 → ((a1).toInt < 48 ∨ 57 < (a1).toInt)) ∧ (0 ≤ r.toInt ∧ r.toInt ≤ 1))) := by
  have rg_a1 := i_rng a1
  refine xw_iloadn (aX12_isDigit 0 rfl) rfl ?_
  refine hw_bp (v := (48 : Int32)) (aX12_isDigit 1 rfl) (by decide) ?_
  refine hw_iclt (tgt := 16) (aX12_isDigit 2 rfl) (by decide) rfl (by decide : (48 : Int32).toInt = 48) (fun cd1 => ?_) (fun cd1 => ?_)
  · refine hw_ic (v := (0 : Int32)) (aX12_isDigit 8 rfl) (by decide) ?_
    refine xw_iret (aX12_isDigit 9 rfl) rfl (by decide) ?_
    have e2 : ((0 : Int32)).toInt = 0 := (by decide : (0 : Int32).toInt = 0)
    exact ⟨(0 : Int32), rfl, rfl, (by have : ((0 : Int32)).toInt = 0 := (by decide); omega), (by have : ((0 : Int32)).toInt = 0 := (by decide); omega), (by have : ((0 : Int32)).toInt = 0 := (by decide); omega)⟩
  · refine xw_iloadn (aX12_isDigit 3 rfl) rfl ?_
    refine hw_bp (v := (57 : Int32)) (aX12_isDigit 4 rfl) (by decide) ?_
    refine hw_icgt (tgt := 16) (aX12_isDigit 5 rfl) (by decide) rfl (by decide : (57 : Int32).toInt = 57) (fun cd3 => ?_) (fun cd3 => ?_)
    · refine hw_ic (v := (0 : Int32)) (aX12_isDigit 8 rfl) (by decide) ?_
      refine xw_iret (aX12_isDigit 9 rfl) rfl (by decide) ?_
      have e4 : ((0 : Int32)).toInt = 0 := (by decide : (0 : Int32).toInt = 0)
      exact ⟨(0 : Int32), rfl, rfl, (by have : ((0 : Int32)).toInt = 0 := (by decide); omega), (by have : ((0 : Int32)).toInt = 0 := (by decide); omega), (by have : ((0 : Int32)).toInt = 0 := (by decide); omega)⟩
    · refine hw_ic (v := (1 : Int32)) (aX12_isDigit 6 rfl) (by decide) ?_
      refine xw_goto (tgt := 17) (aX12_isDigit 7 rfl) (by decide) ?_
      refine xw_iret (aX12_isDigit 9 rfl) rfl (by decide) ?_
      have e5 : ((1 : Int32)).toInt = 1 := (by decide : (1 : Int32).toInt = 1)
      exact ⟨(1 : Int32), rfl, rfl, (by have : ((1 : Int32)).toInt = 1 := (by decide); omega), (by have : ((1 : Int32)).toInt = 1 := (by decide); omega), (by have : ((1 : Int32)).toInt = 1 := (by decide); omega)⟩
def nX12_token : Nat := 0xb1be01b56004be01b42a2a4f0415be01b42a6f00b42a5020be01b42a6c00b42a4f1bbe01b42a6900b42a
theorem bX12_token : cX12_token.data.toList.map UInt8.toNat = x_un nX12_token 42 := by decide +kernel
def iX12_token : List (Nat × Jvm.ClassFile.Instr × Nat) := [(0, .aload_n 0, 1), (1, .getfield 105, 3), (4, .aload_n 0, 1), (5, .getfield 446, 3), (8, .iload_n 1, 1), (9, .iastore, 1), (10, .aload_n 0, 1), (11, .getfield 108, 3), (14, .aload_n 0, 1), (15, .getfield 446, 3), (18, .lload_n 2, 1), (19, .lastore, 1), (20, .aload_n 0, 1), (21, .getfield 111, 3), (24, .aload_n 0, 1), (25, .getfield 446, 3), (28, .iload 4, 2), (30, .iastore, 1), (31, .aload_n 0, 1), (32, .aload_n 0, 1), (33, .getfield 446, 3), (36, .iconst 1, 1), (37, .iadd, 1), (38, .putfield 446, 3), (41, .return_, 1)]
theorem dX12_token : x_il nX12_token 42 iX12_token = true := by decide +kernel
theorem aX12_token (k : Nat) {pc : Nat} {i : Jvm.ClassFile.Instr} {len : Nat} (hk : iX12_token[k]? = some (pc, i, len)) : x_at xMM 211 pc i len yX12_token 5 none := ⟨cX12_token, rfl, x_il_ok bX12_token dX12_token k hk⟩
set_option maxHeartbeats 4000000 in
set_option maxRecDepth 100000 in
theorem n_token {sk : xK} {base d n sl : Nat} {SH : Nat → Nat × Nat} {FI : Nat → Nat → Int32} {FL : Nat → Nat → Int64} {FR : Nat → Nat → Option Nat} (hS : h_S n SH) (hF : h_FR FR) (hI : g_I FI) (a1 : Int32) (a2 : Int64) (a3 : Int32) (g0 : (FI 121 67).toInt ≤ 1000) (g1 : (a1).toInt = 3 → 0 ≤ (a2).toInt ∧ (a2).toInt ≤ 999999999999999999) (g2 : (a1).toInt = 4 → 1 ≤ (a2).toInt ∧ (a2).toInt ≤ 8) (g3 : 0 ≤ (a3).toInt ∧ (a3).toInt ≤ 1000) (gg0 : rl_wx (FI 121 67) (FI 149) (FL 150) (FI 151) (a3).toInt) (rel_tok : rl_t (FI 149) (FL 150)) (rel_wh : rl_w (FI 121 67) (FI 149) (FL 150) (FI 151)) : hw sk base d none 211 0 [(0, .ref (base + 121)), (1, .int (a1)), (2, .long (a2)), (4, .int (a3))] [] (n, sl, SH, FI, FL, FR) (h_V (fun s => ∃ FI' FL', s = (n, sl, SH, FI', FL', FR) ∧ g_I FI' ∧ g_fr n SH [(121, 67)] [149, 151] [] FI FI' ∧ g_fr n SH [] [150] [] FL FL' ∧ ((FI' 121 67).toInt = (FI 121 67).toInt + 1) ∧ (FI' 149 (FI 121 67).toInt.toNat = a1) ∧ (∀ x, (a3).toInt + wl (a1).toInt (a2).toInt ≤ x → rl_wx (FI' 121 67) (FI' 149) (FL' 150) (FI' 151) x) ∧ (rl_t (FI' 149) (FL' 150)) ∧ (rl_w (FI' 121 67) (FI' 149) (FL' 150) (FI' 151)))) := by
  have rg_a1 := i_rng a1
  have rg_a2 := l_rng a2
  have rg_a3 := i_rng a3
  obtain ⟨x1, h2⟩ : ∃ y, FI 121 67 = y := ⟨_, rfl⟩
  have h2l := congrArg Int32.toInt h2
  have b3 := gI_121_67 hI; rw [h2] at b3
  refine hw_aloadn (aX12_token 0 rfl) rfl ?_
  refine hw_get (v := .ref (base + 149)) (aX12_token 1 rfl) wf_RX12_105 (c121 hS) (s121 hS) (by decide) (congrArg (fun r => va_rf (h_rf base r)) (r121_62 hF)) ?_
  refine hw_aloadn (aX12_token 2 rfl) rfl ?_
  refine hw_get (v := .int (x1)) (aX12_token 3 rfl) wf_RX12_446 (c121 hS) (s121 hS) (by decide) (congrArg Value.int (show FI 121 67 = x1 from h2)) ?_
  refine xw_iloadn (aX12_token 4 rfl) rfl ?_
  refine hv_iast (k := (x1).toNatClampNeg) (aX12_token 5 rfl) (c149 hS) (s149 hS) (h_in rfl (by omega) (by omega)) rfl (fun FI4 u5 => ?_)
  have hI6 : g_I FI4 := gU_F hI u5 rfl
  refine hw_aloadn (aX12_token 6 rfl) rfl ?_
  refine hw_get (v := .ref (base + 150)) (aX12_token 7 rfl) wf_RX12_108 (c121 hS) (s121 hS) (by decide) (congrArg (fun r => va_rf (h_rf base r)) (r121_63 hF)) ?_
  refine hw_aloadn (aX12_token 8 rfl) rfl ?_
  refine hw_get (v := .int (x1)) (aX12_token 9 rfl) wf_RX12_446 (c121 hS) (s121 hS) (by decide) (congrArg Value.int (show FI4 121 67 = x1 from (up_c u5 (by decide) (h2)))) ?_
  refine xw_lloadn (aX12_token 10 rfl) rfl ?_
  refine hv_last (k := (x1).toNatClampNeg) (aX12_token 11 rfl) (c150 hS) (s150 hS) (h_in rfl (by omega) (by omega)) rfl (fun FL7 u8 => ?_)
  have rl9 : rl_t (FI4 149) (FL7 150) := by rw [show FI4 149 = va_up (FI 149) ((x1).toNatClampNeg) (a1) from (up_va u5 (rfl)), show FL7 150 = va_up (FL 150) ((x1).toNatClampNeg) (a2) from (up_va u8 (rfl))]; exact rl_t_up rel_tok g1 g2
  refine hw_aloadn (aX12_token 12 rfl) rfl ?_
  refine hw_get (v := .ref (base + 151)) (aX12_token 13 rfl) wf_RX12_111 (c121 hS) (s121 hS) (by decide) (congrArg (fun r => va_rf (h_rf base r)) (r121_64 hF)) ?_
  refine hw_aloadn (aX12_token 14 rfl) rfl ?_
  refine hw_get (v := .int (x1)) (aX12_token 15 rfl) wf_RX12_446 (c121 hS) (s121 hS) (by decide) (congrArg Value.int (show FI4 121 67 = x1 from (up_c u5 (by decide) (h2)))) ?_
  refine xw_iload (aX12_token 16 rfl) rfl ?_
  refine hv_iast (k := (x1).toNatClampNeg) (aX12_token 17 rfl) (c151 hS) (s151 hS) (h_in rfl (by omega) (by omega)) rfl (fun FI10 u11 => ?_)
  have rl12 : rl_t (FI10 149) (FL7 150) := by rw [show FI10 149 = FI4 149 from up_row u11 (by decide) rfl]; exact rl9
  have hI13 : g_I FI10 := gU_F hI6 u11 rfl
  refine hw_aloadn (aX12_token 18 rfl) rfl ?_
  refine hw_aloadn (aX12_token 19 rfl) rfl ?_
  refine hw_get (v := .int (x1)) (aX12_token 20 rfl) wf_RX12_446 (c121 hS) (s121 hS) (by decide) (congrArg Value.int (show FI10 121 67 = x1 from (up_c u11 (by decide) ((up_c u5 (by decide) (h2)))))) ?_
  refine hw_ic (v := (1 : Int32)) (aX12_token 21 rfl) (by decide) ?_
  refine xw_iadd (aX12_token 22 rfl) ?_
  refine hw_tie (A := ((x1).toInt) + (1)) (i_add rfl (by decide : (1 : Int32).toInt = 1) (by omega) (by omega)) (fun x14 e15 => ?_)
  refine hv_puti (aX12_token 23 rfl) wf_RX12_446 (c121 hS) (s121 hS) (by decide) rfl rfl (fun FI16 u17 => ?_)
  have rl18 : rl_t (FI16 149) (FL7 150) := by rw [show FI16 149 = FI10 149 from up_row u17 (by decide) rfl]; exact rl12
  have hI19 : g_I FI16 := gU_121_67 hI13 u17 (by have := (e15 : (x14).toInt = ((x1).toInt) + (1)); omega) (by have := (e15 : (x14).toInt = ((x1).toInt) + (1)); omega)
  have hT2 : (FI16 121 67).toInt = (x1).toInt + 1 := by have := congrArg Int32.toInt (show FI16 121 67 = x14 from up_eq u17); have := (e15 : (x14).toInt = ((x1).toInt) + (1)); omega
  have hT := rel_wh; rw [show FI 121 67 = x1 from h2] at hT; have hTx := gg0; rw [show FI 121 67 = x1 from h2] at hTx
  have rl20 : rl_w (FI16 121 67) (FI16 149) (FL7 150) (FI16 151) := by rw [show FI16 149 = va_up (FI 149) ((x1).toNatClampNeg) (a1) from (up_row u17 (by decide) ((up_row u11 (by decide) ((up_va u5 (rfl)))))), show FL7 150 = va_up (FL 150) ((x1).toNatClampNeg) (a2) from (up_va u8 (rfl)), show FI16 151 = va_up (FI 151) ((x1).toNatClampNeg) (a3) from (up_row u17 (by decide) ((up_va u11 ((up_row u5 (by decide) (rfl))))))]; exact rl_w_up hT (by omega) hT2 hTx ⟨by omega, by omega⟩
  refine xw_vret (aX12_token 24 rfl) rfl ?_
  exact ⟨rfl, FI16, FL7, rfl, hI19, (gf_f (gf_a (gf_a gf_rf u5 (by decide)) u11 (by decide)) u17 (by decide)), (gf_a gf_rf u8 (by decide)), (by have := congrArg Int32.toInt (show FI16 121 67 = x14 from up_eq u17); have := (e15 : (x14).toInt = ((x1).toInt) + (1)); omega), (by rw [← i_cl (A := (FI 121 67).toInt) (congrArg Int32.toInt (h2)).symm]; exact (up_c u17 (by decide) ((up_c u11 (by decide) (up_eq u5))))), (by intro x hx; rw [show FI16 149 = va_up (FI 149) ((x1).toNatClampNeg) (a1) from (up_row u17 (by decide) ((up_row u11 (by decide) ((up_va u5 (rfl)))))), show FL7 150 = va_up (FL 150) ((x1).toNatClampNeg) (a2) from (up_va u8 (rfl)), show FI16 151 = va_up (FI 151) ((x1).toNatClampNeg) (a3) from (up_row u17 (by decide) ((up_va u11 ((up_row u5 (by decide) (rfl))))))]; exact rl_wx_up (by omega) hT2 hx), (show rl_t (FI16 149) (FL7 150) from rl18), (show rl_w (FI16 121 67) (FI16 149) (FL7 150) (FI16 151) from rl20)⟩
def nX12_signs : Nat := 0xac0515c901b61c850415080400a706100800a00204152a0436020400a71b07009906150636030400a7040700a07e101b09009f2a101b0f009f2d101b15009f2b101b1b009f3e101b21009f3c101b27009f26101b2d009f5e101b33009f7c101b39009f3f101b3f009f25101b45009f2f101b4b009a06150636030400a7040700a029101b09009f28101b0f009f5d101b15009f5b101b1b009f7d101b21009f7b101b27009f3a101b2d009f2c101b33009f3b101b39009f3d101b053604a900a00204150536050400a7060700a0070111041504360601110600a70701110900a03e10c101b660051c2a2900a03e101d2f00a03e101b3500a704360501110b00a03c101d1100a03c101b4900a704360401110b00a03d101d1100a03e101b5d00a704360301110b00a03d101d1100a03c101b7100a704360201110b00a03d101d1100a021101b8500a704360101110b00a03d101d1100a03d101b9900a704360001110b00a02e101d1100a02e101b0536050436023ec101b660041c2a
theorem bX12_signs : cX12_signs.data.toList.map UInt8.toNat = x_un nX12_signs 379 := by decide +kernel
def iX12_signs : List (Nat × Jvm.ClassFile.Instr × Nat) := [(0, .aload_n 0, 1), (1, .iload_n 2, 1), (2, .iconst 1, 1), (3, .iadd, 1), (4, .invokevirtual 449, 3), (7, .istore_n 3, 1), (8, .iconst (-1), 1), (9, .istore 4, 2), (11, .iconst 2, 1), (12, .istore 5, 2), (14, .iload_n 1, 1), (15, .bipush 46, 2), (17, .if_icmp .ne 17, 3), (20, .iload_n 3, 1), (21, .bipush 46, 2), (23, .if_icmp .ne 11, 3), (26, .sipush 256, 3), (29, .istore 4, 2), (31, .goto 153, 3), (34, .iload_n 1, 1), (35, .bipush 61, 2), (37, .if_icmp .ne 17, 3), (40, .iload_n 3, 1), (41, .bipush 61, 2), (43, .if_icmp .ne 11, 3), (46, .sipush 257, 3), (49, .istore 4, 2), (51, .goto 133, 3), (54, .iload_n 1, 1), (55, .bipush 33, 2), (57, .if_icmp .ne 17, 3), (60, .iload_n 3, 1), (61, .bipush 61, 2), (63, .if_icmp .ne 11, 3), (66, .sipush 258, 3), (69, .istore 4, 2), (71, .goto 113, 3), (74, .iload_n 1, 1), (75, .bipush 60, 2), (77, .if_icmp .ne 17, 3), (80, .iload_n 3, 1), (81, .bipush 61, 2), (83, .if_icmp .ne 11, 3), (86, .sipush 259, 3), (89, .istore 4, 2), (91, .goto 93, 3), (94, .iload_n 1, 1), (95, .bipush 62, 2), (97, .if_icmp .ne 17, 3), (100, .iload_n 3, 1), (101, .bipush 61, 2), (103, .if_icmp .ne 11, 3), (106, .sipush 260, 3), (109, .istore 4, 2), (111, .goto 73, 3), (114, .iload_n 1, 1), (115, .bipush 60, 2), (117, .if_icmp .ne 17, 3), (120, .iload_n 3, 1), (121, .bipush 60, 2), (123, .if_icmp .ne 11, 3), (126, .sipush 261, 3), (129, .istore 4, 2), (131, .goto 53, 3), (134, .iload_n 1, 1), (135, .bipush 62, 2), (137, .if_icmp .ne 47, 3), (140, .iload_n 3, 1), (141, .bipush 62, 2), (143, .if_icmp .ne 41, 3), (146, .aload_n 0, 1), (147, .iload_n 2, 1), (148, .iconst 2, 1), (149, .iadd, 1), (150, .invokevirtual 449, 3), (153, .bipush 62, 2), (155, .if_icmp .ne 9, 3), (158, .sipush 263, 3), (161, .goto 6, 3), (164, .sipush 262, 3), (167, .istore 4, 2), (169, .iload 4, 2), (171, .sipush 263, 3), (174, .if_icmp .ne 7, 3), (177, .iconst 3, 1), (178, .goto 4, 3), (181, .iconst 2, 1), (182, .istore 5, 2), (184, .iload 4, 2), (186, .iconst (-1), 1), (187, .if_icmp .ne 169, 3), (190, .iconst 1, 1), (191, .istore 5, 2), (193, .iload_n 1, 1), (194, .bipush 61, 2), (196, .if_icmp .eq 57, 3), (199, .iload_n 1, 1), (200, .bipush 59, 2), (202, .if_icmp .eq 51, 3), (205, .iload_n 1, 1), (206, .bipush 44, 2), (208, .if_icmp .eq 45, 3), (211, .iload_n 1, 1), (212, .bipush 58, 2), (214, .if_icmp .eq 39, 3), (217, .iload_n 1, 1), (218, .bipush 123, 2), (220, .if_icmp .eq 33, 3), (223, .iload_n 1, 1), (224, .bipush 125, 2), (226, .if_icmp .eq 27, 3), (229, .iload_n 1, 1), (230, .bipush 91, 2), (232, .if_icmp .eq 21, 3), (235, .iload_n 1, 1), (236, .bipush 93, 2), (238, .if_icmp .eq 15, 3), (241, .iload_n 1, 1), (242, .bipush 40, 2), (244, .if_icmp .eq 9, 3), (247, .iload_n 1, 1), (248, .bipush 41, 2), (250, .if_icmp .ne 7, 3), (253, .iconst 1, 1), (254, .goto 4, 3), (257, .iconst 0, 1), (258, .istore 6, 2), (260, .iload 6, 2), (262, .ifCond .ne 75, 3), (265, .iload_n 1, 1), (266, .bipush 47, 2), (268, .if_icmp .eq 69, 3), (271, .iload_n 1, 1), (272, .bipush 37, 2), (274, .if_icmp .eq 63, 3), (277, .iload_n 1, 1), (278, .bipush 63, 2), (280, .if_icmp .eq 57, 3), (283, .iload_n 1, 1), (284, .bipush 124, 2), (286, .if_icmp .eq 51, 3), (289, .iload_n 1, 1), (290, .bipush 94, 2), (292, .if_icmp .eq 45, 3), (295, .iload_n 1, 1), (296, .bipush 38, 2), (298, .if_icmp .eq 39, 3), (301, .iload_n 1, 1), (302, .bipush 60, 2), (304, .if_icmp .eq 33, 3), (307, .iload_n 1, 1), (308, .bipush 62, 2), (310, .if_icmp .eq 27, 3), (313, .iload_n 1, 1), (314, .bipush 43, 2), (316, .if_icmp .eq 21, 3), (319, .iload_n 1, 1), (320, .bipush 45, 2), (322, .if_icmp .eq 15, 3), (325, .iload_n 1, 1), (326, .bipush 42, 2), (328, .if_icmp .eq 9, 3), (331, .iload_n 1, 1), (332, .bipush 126, 2), (334, .if_icmp .ne 7, 3), (337, .iconst 1, 1), (338, .goto 4, 3), (341, .iconst 0, 1), (342, .istore 6, 2), (344, .iload 6, 2), (346, .ifCond .eq 7, 3), (349, .iload_n 1, 1), (350, .goto 4, 3), (353, .iconst (-1), 1), (354, .istore 4, 2), (356, .aload_n 0, 1), (357, .iload 4, 2), (359, .iconst (-1), 1), (360, .if_icmp .ne 8, 3), (363, .bipush 6, 2), (365, .goto 4, 3), (368, .iconst 5, 1), (369, .iload 4, 2), (371, .i2l, 1), (372, .iload_n 2, 1), (373, .invokevirtual 457, 3), (376, .iload 5, 2), (378, .ireturn, 1)]
theorem dX12_signs : x_il nX12_signs 379 iX12_signs = true := by decide +kernel
theorem aX12_signs (k : Nat) {pc : Nat} {i : Jvm.ClassFile.Instr} {len : Nat} (hk : iX12_signs[k]? = some (pc, i, len)) : x_at xMM 213 pc i len yX12_signs 7 (some .int) := ⟨cX12_signs, rfl, x_il_ok bX12_signs dX12_signs k hk⟩
set_option maxHeartbeats 4000000 in
set_option maxRecDepth 100000 in
theorem n_signs {sk : xK} {base d n sl : Nat} {SH : Nat → Nat × Nat} {FI : Nat → Nat → Int32} {FL : Nat → Nat → Int64} {FR : Nat → Nat → Option Nat} (hS : h_S n SH) (hF : h_FR FR) (hI : g_I FI) (a1 : Int32) (a2 : Int32) (g0 : (FI 121 67).toInt ≤ 1000) (g1 : (a2).toInt < (FI 121 13).toInt) (g2 : -1 ≤ (a1).toInt ∧ (a1).toInt ≤ 255) (g3 : 0 ≤ (a2).toInt ∧ (a2).toInt ≤ 999) (gg0 : rl_wx (FI 121 67) (FI 149) (FL 150) (FI 151) (a2).toInt) (rel_tok : rl_t (FI 149) (FL 150)) (rel_wh : rl_w (FI 121 67) (FI 149) (FL 150) (FI 151)) : hw sk base (d + 1) none 213 0 [(0, .ref (base + 121)), (1, .int (a1)), (2, .int (a2))] [] (n, sl, SH, FI, FL, FR) (h_I (fun r s => ∃ FI' FL', s = (n, sl, SH, FI', FL', FR) ∧ g_I FI' ∧ g_fr n SH [(121, 67)] [149, 151] [] FI FI' ∧ g_fr n SH [] [150] [] FL FL' ∧ (1 ≤ r.toInt ∧ r.toInt ≤ 3) ∧ ((FI' 121 67).toInt = (FI 121 67).toInt + 1) ∧ ((a2).toInt + r.toInt ≤ (FI 121 13).toInt) ∧ (rl_wx (FI' 121 67) (FI' 149) (FL' 150) (FI' 151) ((a2).toInt + r.toInt)) ∧ (rl_t (FI' 149) (FL' 150)) ∧ (rl_w (FI' 121 67) (FI' 149) (FL' 150) (FI' 151)))) := by
  have rg_a1 := i_rng a1
  have rg_a2 := i_rng a2
  obtain ⟨x1, h2⟩ : ∃ y, FI 121 67 = y := ⟨_, rfl⟩
  have h2l := congrArg Int32.toInt h2
  have b3 := gI_121_67 hI; rw [h2] at b3
  obtain ⟨x4, h5⟩ : ∃ y, FI 121 13 = y := ⟨_, rfl⟩
  have h5l := congrArg Int32.toInt h5
  have b6 := gI_121_13 hI; rw [h5] at b6
  refine hw_aloadn (aX12_signs 0 rfl) rfl ?_
  refine xw_iloadn (aX12_signs 1 rfl) rfl ?_
  refine hw_ic (v := (1 : Int32)) (aX12_signs 2 rfl) (by decide) ?_
  refine xw_iadd (aX12_signs 3 rfl) ?_
  refine hw_tie (A := ((a2).toInt) + (1)) (i_add rfl (by decide : (1 : Int32).toInt = 1) (by omega) (by omega)) (fun x7 e8 => ?_)
  refine hw_callV (Bs := [.int (x7)]) (rest := []) (aX12_signs 4 rfl) wc_RX12_449 (by decide) rfl wi_yX12_sign wv_yX12_sign (c121 hS) (s121 hS) rfl rfl rfl (Nat.le_of_ble_eq_true rfl) (Nat.le_of_ble_eq_true rfl) (n_sign (d := d) hS hF hI (x7) (by have := (e8 : (x7).toInt = ((a2).toInt) + (1)); have := (e8 : (x7).toInt = ((a2).toInt) + (1)); omega)) (fun v9 sv10 p11 => ?_)
  have := (e8 : (x7).toInt = ((a2).toInt) + (1))
  have := congrArg Int32.toInt (show FI 121 13 = x4 from h5)
  obtain ⟨r12, rfl, rfl, t14, t15, u16⟩ := p11
  have rg_r12 := i_rng r12
  show hw sk base _ _ _ _ _ [.int (r12)] _ _
  refine xw_istoren (L2 := [(3, .int (r12)), (0, .ref (base + 121)), (1, .int (a1)), (2, .int (a2))]) (aX12_signs 5 rfl) (by decide) rfl ?_
  refine hw_ic (v := ((-1) : Int32)) (aX12_signs 6 rfl) (by decide) ?_
  refine xw_istore (L2 := [(4, .int (((-1) : Int32))), (3, .int (r12)), (0, .ref (base + 121)), (1, .int (a1)), (2, .int (a2))]) (aX12_signs 7 rfl) (by decide) rfl ?_
  refine hw_ic (v := (2 : Int32)) (aX12_signs 8 rfl) (by decide) ?_
  refine xw_istore (L2 := [(5, .int ((2 : Int32))), (4, .int (((-1) : Int32))), (3, .int (r12)), (0, .ref (base + 121)), (1, .int (a1)), (2, .int (a2))]) (aX12_signs 9 rfl) (by decide) rfl ?_
  refine xw_iloadn (aX12_signs 10 rfl) rfl ?_
  refine hw_bp (v := (46 : Int32)) (aX12_signs 11 rfl) (by decide) ?_
  have j98 : ∀ (g45 : Int32) (g46 : Int32), (-1 ≤ (g45).toInt ∧ (g45).toInt ≤ 263) → (2 ≤ (g46).toInt ∧ (g46).toInt ≤ 3) → (((g45).toInt : Int) = -1 ∨ ((2 : Int) ≤ (g46).toInt ∧ (a2).toInt + (g46).toInt ≤ (FI 121 13).toInt)) → hw sk base (d + 1) none 213 184 [(0, .ref (base + 121)), (1, .int (a1)), (2, .int (a2)), (4, .int (g45)), (5, .int (g46))] [] (n, sl, SH, FI, FL, FR) (h_I (fun r s => ∃ FI' FL', s = (n, sl, SH, FI', FL', FR) ∧ g_I FI' ∧ g_fr n SH [(121, 67)] [149, 151] [] FI FI' ∧ g_fr n SH [] [150] [] FL FL' ∧ (1 ≤ r.toInt ∧ r.toInt ≤ 3) ∧ ((FI' 121 67).toInt = (FI 121 67).toInt + 1) ∧ ((a2).toInt + r.toInt ≤ (FI 121 13).toInt) ∧ (rl_wx (FI' 121 67) (FI' 149) (FL' 150) (FI' 151) ((a2).toInt + r.toInt)) ∧ (rl_t (FI' 149) (FL' 150)) ∧ (rl_w (FI' 121 67) (FI' 149) (FL' 150) (FI' 151)))) := by
    intro g45 g46 q99 q100 fc184_0
    have rg_g45 := i_rng g45
    have rg_g46 := i_rng g46
    refine xw_iload (aX12_signs 88 rfl) rfl ?_
    refine hw_ic (v := ((-1) : Int32)) (aX12_signs 89 rfl) (by decide) ?_
    have j152 : ∀ (g129 : Int32) (g130 : Int32), (-1 ≤ (g129).toInt ∧ (g129).toInt ≤ 263) → (1 ≤ (g130).toInt ∧ (g130).toInt ≤ 3) → (((g129).toInt : Int) = 256 → (2 : Int) ≤ (g130).toInt) → ((1 : Int) ≤ (g130).toInt ∧ (a2).toInt + (g130).toInt ≤ (FI 121 13).toInt) → hw sk base (d + 1) none 213 356 [(0, .ref (base + 121)), (2, .int (a2)), (4, .int (g129)), (5, .int (g130))] [] (n, sl, SH, FI, FL, FR) (h_I (fun r s => ∃ FI' FL', s = (n, sl, SH, FI', FL', FR) ∧ g_I FI' ∧ g_fr n SH [(121, 67)] [149, 151] [] FI FI' ∧ g_fr n SH [] [150] [] FL FL' ∧ (1 ≤ r.toInt ∧ r.toInt ≤ 3) ∧ ((FI' 121 67).toInt = (FI 121 67).toInt + 1) ∧ ((a2).toInt + r.toInt ≤ (FI 121 13).toInt) ∧ (rl_wx (FI' 121 67) (FI' 149) (FL' 150) (FI' 151) ((a2).toInt + r.toInt)) ∧ (rl_t (FI' 149) (FL' 150)) ∧ (rl_w (FI' 121 67) (FI' 149) (FL' 150) (FI' 151)))) := by
      intro g129 g130 q153 q154 fc356_0 fc356_1
      have rg_g129 := i_rng g129
      have rg_g130 := i_rng g130
      refine hw_aloadn (aX12_signs 175 rfl) rfl ?_
      refine xw_iload (aX12_signs 176 rfl) rfl ?_
      refine hw_ic (v := ((-1) : Int32)) (aX12_signs 177 rfl) (by decide) ?_
      have j176 : ∀ (g156 : Int32), (5 ≤ (g156).toInt ∧ (g156).toInt ≤ 6) → hw sk base (d + 1) none 213 369 [(0, .ref (base + 121)), (2, .int (a2)), (4, .int (g129)), (5, .int (g130))] [.int (g156), .ref (base + 121)] (n, sl, SH, FI, FL, FR) (h_I (fun r s => ∃ FI' FL', s = (n, sl, SH, FI', FL', FR) ∧ g_I FI' ∧ g_fr n SH [(121, 67)] [149, 151] [] FI FI' ∧ g_fr n SH [] [150] [] FL FL' ∧ (1 ≤ r.toInt ∧ r.toInt ≤ 3) ∧ ((FI' 121 67).toInt = (FI 121 67).toInt + 1) ∧ ((a2).toInt + r.toInt ≤ (FI 121 13).toInt) ∧ (rl_wx (FI' 121 67) (FI' 149) (FL' 150) (FI' 151) ((a2).toInt + r.toInt)) ∧ (rl_t (FI' 149) (FL' 150)) ∧ (rl_w (FI' 121 67) (FI' 149) (FL' 150) (FI' 151)))) := by
        intro g156 q177
        have rg_g156 := i_rng g156
        refine xw_iload (aX12_signs 182 rfl) rfl ?_
        refine xw_i2l (aX12_signs 183 rfl) ?_
        refine hw_tle (A := (g129).toInt) (i_2l rfl) (fun x178 e179 => ?_)
        refine xw_iloadn (aX12_signs 184 rfl) rfl ?_
        have hl2i : (x178).toInt = (g129).toInt := e179
        refine hw_callV (Bs := [.int (g156), .long (x178), .int (a2)]) (rest := []) (aX12_signs 185 rfl) wc_RX12_457 (by decide) rfl wi_yX12_token wv_yX12_token (c121 hS) (s121 hS) rfl rfl rfl (Nat.le_of_ble_eq_true rfl) (Nat.le_of_ble_eq_true rfl) (n_token (d := d) hS hF hI (g156) (x178) (a2) (by have := congrArg Int32.toInt (show FI 121 67 = x1 from h2); omega) (by have := (e179 : (x178).toInt = (g129).toInt); have := (e179 : (x178).toInt = (g129).toInt); omega) (by have := (e179 : (x178).toInt = (g129).toInt); have := (e179 : (x178).toInt = (g129).toInt); omega) (by omega) (gg0) (show rl_t (FI 149) (FL 150) from rel_tok) (show rl_w (FI 121 67) (FI 149) (FL 150) (FI 151) from rel_wh)) (fun v180 sv181 p182 => ?_)
        have := congrArg Int32.toInt (show FI 121 67 = x1 from h2)
        obtain ⟨rfl, FI184, FL185, rfl, hI186, f187, f188, t189, u190, u191, rl192, rl193⟩ := p182
        obtain ⟨x194, h195⟩ : ∃ y, FI184 121 67 = y := ⟨_, rfl⟩
        have h195l := congrArg Int32.toInt h195
        have b196 := gI_121_67 hI186; rw [h195] at b196
        show hw sk base _ _ _ _ _ [] _ _
        refine xw_iload (aX12_signs 186 rfl) rfl ?_
        refine xw_iret (aX12_signs 187 rfl) rfl rfl ?_
        exact ⟨g130, rfl, FI184, FL185, rfl, hI186, (gf_tr ex_rf gf_rf f187 rfl rfl rfl), (gf_tr ex_rf gf_rf f188 rfl rfl rfl), (by omega), (by have := congrArg Int32.toInt (show FI184 121 67 = x194 from h195); omega), (by omega), (by exact u191 _ (by have hw := wl_le (k := (g156).toInt) (w := (x178).toInt) (n := (g130).toInt) (by omega) (fun h => by omega) (fun h => by omega); omega)), (show rl_t (FI184 149) (FL185 150) from rl192), (show rl_w (FI184 121 67) (FI184 149) (FL185 150) (FI184 151) from rl193)⟩
      refine hw_icne (tgt := 368) (aX12_signs 178 rfl) (by decide) rfl (by decide : ((-1) : Int32).toInt = (-1)) (fun cd197 => ?_) (fun cd197 => ?_)
      · refine hw_ic (v := (5 : Int32)) (aX12_signs 181 rfl) (by decide) ?_
        exact hw_L (j176 ((5 : Int32)) (by have := ((by decide : (5 : Int32).toInt = 5) : ((5 : Int32)).toInt = 5); show 5 ≤ ((5 : Int32)).toInt ∧ ((5 : Int32)).toInt ≤ 6; omega)) ⟨rfl, rfl, rfl, rfl, trivial⟩
      · refine hw_bp (v := (6 : Int32)) (aX12_signs 179 rfl) (by decide) ?_
        refine xw_goto (tgt := 369) (aX12_signs 180 rfl) (by decide) ?_
        exact hw_L (j176 ((6 : Int32)) (by have := ((by decide : (6 : Int32).toInt = 6) : ((6 : Int32)).toInt = 6); show 5 ≤ ((6 : Int32)).toInt ∧ ((6 : Int32)).toInt ≤ 6; omega)) ⟨rfl, rfl, rfl, rfl, trivial⟩
    refine hw_icne (tgt := 356) (aX12_signs 90 rfl) (by decide) rfl (by decide : ((-1) : Int32).toInt = (-1)) (fun cd198 => ?_) (fun cd198 => ?_)
    · exact hw_L (j152 (g45) (g46) (by show -1 ≤ (g45).toInt ∧ (g45).toInt ≤ 263; omega) (by show 1 ≤ (g46).toInt ∧ (g46).toInt ≤ 3; omega) (by show ((g45).toInt : Int) = 256 → (2 : Int) ≤ (g46).toInt; omega) (by show (1 : Int) ≤ (g46).toInt ∧ (a2).toInt + (g46).toInt ≤ (FI 121 13).toInt; omega)) ⟨rfl, rfl, rfl, rfl, trivial⟩
    · refine hw_ic (v := (1 : Int32)) (aX12_signs 91 rfl) (by decide) ?_
      refine xw_istore (L2 := [(5, .int ((1 : Int32))), (0, .ref (base + 121)), (1, .int (a1)), (2, .int (a2)), (4, .int (g45))]) (aX12_signs 92 rfl) (by decide) rfl ?_
      refine xw_iloadn (aX12_signs 93 rfl) rfl ?_
      refine hw_bp (v := (61 : Int32)) (aX12_signs 94 rfl) (by decide) ?_
      have j226 : ∀ (g209 : Int32), (0 ≤ (g209).toInt ∧ (g209).toInt ≤ 1) → hw sk base (d + 1) none 213 258 [(0, .ref (base + 121)), (1, .int (a1)), (2, .int (a2)), (5, .int ((1 : Int32)))] [.int (g209)] (n, sl, SH, FI, FL, FR) (h_I (fun r s => ∃ FI' FL', s = (n, sl, SH, FI', FL', FR) ∧ g_I FI' ∧ g_fr n SH [(121, 67)] [149, 151] [] FI FI' ∧ g_fr n SH [] [150] [] FL FL' ∧ (1 ≤ r.toInt ∧ r.toInt ≤ 3) ∧ ((FI' 121 67).toInt = (FI 121 67).toInt + 1) ∧ ((a2).toInt + r.toInt ≤ (FI 121 13).toInt) ∧ (rl_wx (FI' 121 67) (FI' 149) (FL' 150) (FI' 151) ((a2).toInt + r.toInt)) ∧ (rl_t (FI' 149) (FL' 150)) ∧ (rl_w (FI' 121 67) (FI' 149) (FL' 150) (FI' 151)))) := by
        intro g209 q227
        have rg_g209 := i_rng g209
        refine xw_istore (L2 := [(6, .int (g209)), (0, .ref (base + 121)), (1, .int (a1)), (2, .int (a2)), (5, .int ((1 : Int32)))]) (aX12_signs 126 rfl) (by decide) rfl ?_
        refine xw_iload (aX12_signs 127 rfl) rfl ?_
        have j244 : ∀ (g241 : Int32), (0 ≤ (g241).toInt ∧ (g241).toInt ≤ 1) → hw sk base (d + 1) none 213 342 [(0, .ref (base + 121)), (1, .int (a1)), (2, .int (a2)), (5, .int ((1 : Int32)))] [.int (g241)] (n, sl, SH, FI, FL, FR) (h_I (fun r s => ∃ FI' FL', s = (n, sl, SH, FI', FL', FR) ∧ g_I FI' ∧ g_fr n SH [(121, 67)] [149, 151] [] FI FI' ∧ g_fr n SH [] [150] [] FL FL' ∧ (1 ≤ r.toInt ∧ r.toInt ≤ 3) ∧ ((FI' 121 67).toInt = (FI 121 67).toInt + 1) ∧ ((a2).toInt + r.toInt ≤ (FI 121 13).toInt) ∧ (rl_wx (FI' 121 67) (FI' 149) (FL' 150) (FI' 151) ((a2).toInt + r.toInt)) ∧ (rl_t (FI' 149) (FL' 150)) ∧ (rl_w (FI' 121 67) (FI' 149) (FL' 150) (FI' 151)))) := by
          intro g241 q245
          have rg_g241 := i_rng g241
          refine xw_istore (L2 := [(6, .int (g241)), (0, .ref (base + 121)), (1, .int (a1)), (2, .int (a2)), (5, .int ((1 : Int32)))]) (aX12_signs 168 rfl) (by decide) rfl ?_
          refine xw_iload (aX12_signs 169 rfl) rfl ?_
          have j248 : ∀ (g247 : Int32), (-1 ≤ (g247).toInt ∧ (g247).toInt ≤ 255) → hw sk base (d + 1) none 213 354 [(0, .ref (base + 121)), (2, .int (a2)), (5, .int ((1 : Int32)))] [.int (g247)] (n, sl, SH, FI, FL, FR) (h_I (fun r s => ∃ FI' FL', s = (n, sl, SH, FI', FL', FR) ∧ g_I FI' ∧ g_fr n SH [(121, 67)] [149, 151] [] FI FI' ∧ g_fr n SH [] [150] [] FL FL' ∧ (1 ≤ r.toInt ∧ r.toInt ≤ 3) ∧ ((FI' 121 67).toInt = (FI 121 67).toInt + 1) ∧ ((a2).toInt + r.toInt ≤ (FI 121 13).toInt) ∧ (rl_wx (FI' 121 67) (FI' 149) (FL' 150) (FI' 151) ((a2).toInt + r.toInt)) ∧ (rl_t (FI' 149) (FL' 150)) ∧ (rl_w (FI' 121 67) (FI' 149) (FL' 150) (FI' 151)))) := by
            intro g247 q249
            have rg_g247 := i_rng g247
            refine xw_istore (L2 := [(4, .int (g247)), (0, .ref (base + 121)), (2, .int (a2)), (5, .int ((1 : Int32)))]) (aX12_signs 174 rfl) (by decide) rfl ?_
            exact hw_L (j152 (g247) ((1 : Int32)) (by show -1 ≤ (g247).toInt ∧ (g247).toInt ≤ 263; omega) (by have := ((by decide : (1 : Int32).toInt = 1) : ((1 : Int32)).toInt = 1); show 1 ≤ ((1 : Int32)).toInt ∧ ((1 : Int32)).toInt ≤ 3; omega) (by have := ((by decide : (1 : Int32).toInt = 1) : ((1 : Int32)).toInt = 1); show ((g247).toInt : Int) = 256 → (2 : Int) ≤ 1; omega) (by have := ((by decide : (1 : Int32).toInt = 1) : ((1 : Int32)).toInt = 1); have := ((by decide : (1 : Int32).toInt = 1) : ((1 : Int32)).toInt = 1); show (1 : Int) ≤ 1 ∧ (a2).toInt + 1 ≤ (FI 121 13).toInt; omega)) ⟨rfl, rfl, rfl, rfl, trivial⟩
          refine hw_ifeq (tgt := 353) (aX12_signs 170 rfl) (by decide) rfl (fun cd250 => ?_) (fun cd250 => ?_)
          · refine hw_ic (v := ((-1) : Int32)) (aX12_signs 173 rfl) (by decide) ?_
            exact hw_L (j248 (((-1) : Int32)) (by have := ((by decide : ((-1) : Int32).toInt = (-1)) : (((-1) : Int32)).toInt = (-1)); show -1 ≤ (((-1) : Int32)).toInt ∧ (((-1) : Int32)).toInt ≤ 255; omega)) ⟨rfl, rfl, rfl, trivial⟩
          · refine xw_iloadn (aX12_signs 171 rfl) rfl ?_
            refine xw_goto (tgt := 354) (aX12_signs 172 rfl) (by decide) ?_
            exact hw_L (j248 (a1) (by show -1 ≤ (a1).toInt ∧ (a1).toInt ≤ 255; omega)) ⟨rfl, rfl, rfl, trivial⟩
        have j251 : hw sk base (d + 1) none 213 337 [(0, .ref (base + 121)), (1, .int (a1)), (2, .int (a2)), (5, .int ((1 : Int32)))] [] (n, sl, SH, FI, FL, FR) (h_I (fun r s => ∃ FI' FL', s = (n, sl, SH, FI', FL', FR) ∧ g_I FI' ∧ g_fr n SH [(121, 67)] [149, 151] [] FI FI' ∧ g_fr n SH [] [150] [] FL FL' ∧ (1 ≤ r.toInt ∧ r.toInt ≤ 3) ∧ ((FI' 121 67).toInt = (FI 121 67).toInt + 1) ∧ ((a2).toInt + r.toInt ≤ (FI 121 13).toInt) ∧ (rl_wx (FI' 121 67) (FI' 149) (FL' 150) (FI' 151) ((a2).toInt + r.toInt)) ∧ (rl_t (FI' 149) (FL' 150)) ∧ (rl_w (FI' 121 67) (FI' 149) (FL' 150) (FI' 151)))) := by
          refine hw_ic (v := (1 : Int32)) (aX12_signs 165 rfl) (by decide) ?_
          refine xw_goto (tgt := 342) (aX12_signs 166 rfl) (by decide) ?_
          exact hw_L (j244 ((1 : Int32)) (by have := ((by decide : (1 : Int32).toInt = 1) : ((1 : Int32)).toInt = 1); show 0 ≤ ((1 : Int32)).toInt ∧ ((1 : Int32)).toInt ≤ 1; omega)) ⟨rfl, rfl, rfl, rfl, trivial⟩
        refine hw_ifne (tgt := 337) (aX12_signs 128 rfl) (by decide) rfl (fun cd252 => ?_) (fun cd252 => ?_)
        · exact hw_L (j251) ⟨rfl, rfl, rfl, rfl, trivial⟩
        · refine xw_iloadn (aX12_signs 129 rfl) rfl ?_
          refine hw_bp (v := (47 : Int32)) (aX12_signs 130 rfl) (by decide) ?_
          refine hw_iceq (tgt := 337) (aX12_signs 131 rfl) (by decide) rfl (by decide : (47 : Int32).toInt = 47) (fun cd253 => ?_) (fun cd253 => ?_)
          · exact hw_L (j251) ⟨rfl, rfl, rfl, rfl, trivial⟩
          · refine xw_iloadn (aX12_signs 132 rfl) rfl ?_
            refine hw_bp (v := (37 : Int32)) (aX12_signs 133 rfl) (by decide) ?_
            refine hw_iceq (tgt := 337) (aX12_signs 134 rfl) (by decide) rfl (by decide : (37 : Int32).toInt = 37) (fun cd254 => ?_) (fun cd254 => ?_)
            · exact hw_L (j251) ⟨rfl, rfl, rfl, rfl, trivial⟩
            · refine xw_iloadn (aX12_signs 135 rfl) rfl ?_
              refine hw_bp (v := (63 : Int32)) (aX12_signs 136 rfl) (by decide) ?_
              refine hw_iceq (tgt := 337) (aX12_signs 137 rfl) (by decide) rfl (by decide : (63 : Int32).toInt = 63) (fun cd255 => ?_) (fun cd255 => ?_)
              · exact hw_L (j251) ⟨rfl, rfl, rfl, rfl, trivial⟩
              · refine xw_iloadn (aX12_signs 138 rfl) rfl ?_
                refine hw_bp (v := (124 : Int32)) (aX12_signs 139 rfl) (by decide) ?_
                refine hw_iceq (tgt := 337) (aX12_signs 140 rfl) (by decide) rfl (by decide : (124 : Int32).toInt = 124) (fun cd256 => ?_) (fun cd256 => ?_)
                · exact hw_L (j251) ⟨rfl, rfl, rfl, rfl, trivial⟩
                · refine xw_iloadn (aX12_signs 141 rfl) rfl ?_
                  refine hw_bp (v := (94 : Int32)) (aX12_signs 142 rfl) (by decide) ?_
                  refine hw_iceq (tgt := 337) (aX12_signs 143 rfl) (by decide) rfl (by decide : (94 : Int32).toInt = 94) (fun cd257 => ?_) (fun cd257 => ?_)
                  · exact hw_L (j251) ⟨rfl, rfl, rfl, rfl, trivial⟩
                  · refine xw_iloadn (aX12_signs 144 rfl) rfl ?_
                    refine hw_bp (v := (38 : Int32)) (aX12_signs 145 rfl) (by decide) ?_
                    refine hw_iceq (tgt := 337) (aX12_signs 146 rfl) (by decide) rfl (by decide : (38 : Int32).toInt = 38) (fun cd258 => ?_) (fun cd258 => ?_)
                    · exact hw_L (j251) ⟨rfl, rfl, rfl, rfl, trivial⟩
                    · refine xw_iloadn (aX12_signs 147 rfl) rfl ?_
                      refine hw_bp (v := (60 : Int32)) (aX12_signs 148 rfl) (by decide) ?_
                      refine hw_iceq (tgt := 337) (aX12_signs 149 rfl) (by decide) rfl (by decide : (60 : Int32).toInt = 60) (fun cd259 => ?_) (fun cd259 => ?_)
                      · exact hw_L (j251) ⟨rfl, rfl, rfl, rfl, trivial⟩
                      · refine xw_iloadn (aX12_signs 150 rfl) rfl ?_
                        refine hw_bp (v := (62 : Int32)) (aX12_signs 151 rfl) (by decide) ?_
                        refine hw_iceq (tgt := 337) (aX12_signs 152 rfl) (by decide) rfl (by decide : (62 : Int32).toInt = 62) (fun cd260 => ?_) (fun cd260 => ?_)
                        · exact hw_L (j251) ⟨rfl, rfl, rfl, rfl, trivial⟩
                        · refine xw_iloadn (aX12_signs 153 rfl) rfl ?_
                          refine hw_bp (v := (43 : Int32)) (aX12_signs 154 rfl) (by decide) ?_
                          refine hw_iceq (tgt := 337) (aX12_signs 155 rfl) (by decide) rfl (by decide : (43 : Int32).toInt = 43) (fun cd261 => ?_) (fun cd261 => ?_)
                          · exact hw_L (j251) ⟨rfl, rfl, rfl, rfl, trivial⟩
                          · refine xw_iloadn (aX12_signs 156 rfl) rfl ?_
                            refine hw_bp (v := (45 : Int32)) (aX12_signs 157 rfl) (by decide) ?_
                            refine hw_iceq (tgt := 337) (aX12_signs 158 rfl) (by decide) rfl (by decide : (45 : Int32).toInt = 45) (fun cd262 => ?_) (fun cd262 => ?_)
                            · exact hw_L (j251) ⟨rfl, rfl, rfl, rfl, trivial⟩
                            · refine xw_iloadn (aX12_signs 159 rfl) rfl ?_
                              refine hw_bp (v := (42 : Int32)) (aX12_signs 160 rfl) (by decide) ?_
                              refine hw_iceq (tgt := 337) (aX12_signs 161 rfl) (by decide) rfl (by decide : (42 : Int32).toInt = 42) (fun cd263 => ?_) (fun cd263 => ?_)
                              · exact hw_L (j251) ⟨rfl, rfl, rfl, rfl, trivial⟩
                              · refine xw_iloadn (aX12_signs 162 rfl) rfl ?_
                                refine hw_bp (v := (126 : Int32)) (aX12_signs 163 rfl) (by decide) ?_
                                refine hw_icne (tgt := 341) (aX12_signs 164 rfl) (by decide) rfl (by decide : (126 : Int32).toInt = 126) (fun cd264 => ?_) (fun cd264 => ?_)
                                · refine hw_ic (v := (0 : Int32)) (aX12_signs 167 rfl) (by decide) ?_
                                  exact hw_L (j244 ((0 : Int32)) (by have := ((by decide : (0 : Int32).toInt = 0) : ((0 : Int32)).toInt = 0); show 0 ≤ ((0 : Int32)).toInt ∧ ((0 : Int32)).toInt ≤ 1; omega)) ⟨rfl, rfl, rfl, rfl, trivial⟩
                                · exact hw_L (j251) ⟨rfl, rfl, rfl, rfl, trivial⟩
      have j265 : (40 ≤ (a1).toInt ∧ (a1).toInt ≤ 125) → hw sk base (d + 1) none 213 253 [(0, .ref (base + 121)), (1, .int (a1)), (2, .int (a2)), (5, .int ((1 : Int32)))] [] (n, sl, SH, FI, FL, FR) (h_I (fun r s => ∃ FI' FL', s = (n, sl, SH, FI', FL', FR) ∧ g_I FI' ∧ g_fr n SH [(121, 67)] [149, 151] [] FI FI' ∧ g_fr n SH [] [150] [] FL FL' ∧ (1 ≤ r.toInt ∧ r.toInt ≤ 3) ∧ ((FI' 121 67).toInt = (FI 121 67).toInt + 1) ∧ ((a2).toInt + r.toInt ≤ (FI 121 13).toInt) ∧ (rl_wx (FI' 121 67) (FI' 149) (FL' 150) (FI' 151) ((a2).toInt + r.toInt)) ∧ (rl_t (FI' 149) (FL' 150)) ∧ (rl_w (FI' 121 67) (FI' 149) (FL' 150) (FI' 151)))) := by
        intro q266
        refine hw_ic (v := (1 : Int32)) (aX12_signs 123 rfl) (by decide) ?_
        refine xw_goto (tgt := 258) (aX12_signs 124 rfl) (by decide) ?_
        exact hw_L (j226 ((1 : Int32)) (by have := ((by decide : (1 : Int32).toInt = 1) : ((1 : Int32)).toInt = 1); show 0 ≤ ((1 : Int32)).toInt ∧ ((1 : Int32)).toInt ≤ 1; omega)) ⟨rfl, rfl, rfl, rfl, trivial⟩
      refine hw_iceq (tgt := 253) (aX12_signs 95 rfl) (by decide) rfl (by decide : (61 : Int32).toInt = 61) (fun cd267 => ?_) (fun cd267 => ?_)
      · exact hw_L (j265 (by omega)) ⟨rfl, rfl, rfl, rfl, trivial⟩
      · refine xw_iloadn (aX12_signs 96 rfl) rfl ?_
        refine hw_bp (v := (59 : Int32)) (aX12_signs 97 rfl) (by decide) ?_
        refine hw_iceq (tgt := 253) (aX12_signs 98 rfl) (by decide) rfl (by decide : (59 : Int32).toInt = 59) (fun cd268 => ?_) (fun cd268 => ?_)
        · exact hw_L (j265 (by omega)) ⟨rfl, rfl, rfl, rfl, trivial⟩
        · refine xw_iloadn (aX12_signs 99 rfl) rfl ?_
          refine hw_bp (v := (44 : Int32)) (aX12_signs 100 rfl) (by decide) ?_
          refine hw_iceq (tgt := 253) (aX12_signs 101 rfl) (by decide) rfl (by decide : (44 : Int32).toInt = 44) (fun cd269 => ?_) (fun cd269 => ?_)
          · exact hw_L (j265 (by omega)) ⟨rfl, rfl, rfl, rfl, trivial⟩
          · refine xw_iloadn (aX12_signs 102 rfl) rfl ?_
            refine hw_bp (v := (58 : Int32)) (aX12_signs 103 rfl) (by decide) ?_
            refine hw_iceq (tgt := 253) (aX12_signs 104 rfl) (by decide) rfl (by decide : (58 : Int32).toInt = 58) (fun cd270 => ?_) (fun cd270 => ?_)
            · exact hw_L (j265 (by omega)) ⟨rfl, rfl, rfl, rfl, trivial⟩
            · refine xw_iloadn (aX12_signs 105 rfl) rfl ?_
              refine hw_bp (v := (123 : Int32)) (aX12_signs 106 rfl) (by decide) ?_
              refine hw_iceq (tgt := 253) (aX12_signs 107 rfl) (by decide) rfl (by decide : (123 : Int32).toInt = 123) (fun cd271 => ?_) (fun cd271 => ?_)
              · exact hw_L (j265 (by omega)) ⟨rfl, rfl, rfl, rfl, trivial⟩
              · refine xw_iloadn (aX12_signs 108 rfl) rfl ?_
                refine hw_bp (v := (125 : Int32)) (aX12_signs 109 rfl) (by decide) ?_
                refine hw_iceq (tgt := 253) (aX12_signs 110 rfl) (by decide) rfl (by decide : (125 : Int32).toInt = 125) (fun cd272 => ?_) (fun cd272 => ?_)
                · exact hw_L (j265 (by omega)) ⟨rfl, rfl, rfl, rfl, trivial⟩
                · refine xw_iloadn (aX12_signs 111 rfl) rfl ?_
                  refine hw_bp (v := (91 : Int32)) (aX12_signs 112 rfl) (by decide) ?_
                  refine hw_iceq (tgt := 253) (aX12_signs 113 rfl) (by decide) rfl (by decide : (91 : Int32).toInt = 91) (fun cd273 => ?_) (fun cd273 => ?_)
                  · exact hw_L (j265 (by omega)) ⟨rfl, rfl, rfl, rfl, trivial⟩
                  · refine xw_iloadn (aX12_signs 114 rfl) rfl ?_
                    refine hw_bp (v := (93 : Int32)) (aX12_signs 115 rfl) (by decide) ?_
                    refine hw_iceq (tgt := 253) (aX12_signs 116 rfl) (by decide) rfl (by decide : (93 : Int32).toInt = 93) (fun cd274 => ?_) (fun cd274 => ?_)
                    · exact hw_L (j265 (by omega)) ⟨rfl, rfl, rfl, rfl, trivial⟩
                    · refine xw_iloadn (aX12_signs 117 rfl) rfl ?_
                      refine hw_bp (v := (40 : Int32)) (aX12_signs 118 rfl) (by decide) ?_
                      refine hw_iceq (tgt := 253) (aX12_signs 119 rfl) (by decide) rfl (by decide : (40 : Int32).toInt = 40) (fun cd275 => ?_) (fun cd275 => ?_)
                      · exact hw_L (j265 (by omega)) ⟨rfl, rfl, rfl, rfl, trivial⟩
                      · refine xw_iloadn (aX12_signs 120 rfl) rfl ?_
                        refine hw_bp (v := (41 : Int32)) (aX12_signs 121 rfl) (by decide) ?_
                        refine hw_icne (tgt := 257) (aX12_signs 122 rfl) (by decide) rfl (by decide : (41 : Int32).toInt = 41) (fun cd276 => ?_) (fun cd276 => ?_)
                        · refine hw_ic (v := (0 : Int32)) (aX12_signs 125 rfl) (by decide) ?_
                          exact hw_L (j226 ((0 : Int32)) (by have := ((by decide : (0 : Int32).toInt = 0) : ((0 : Int32)).toInt = 0); show 0 ≤ ((0 : Int32)).toInt ∧ ((0 : Int32)).toInt ≤ 1; omega)) ⟨rfl, rfl, rfl, rfl, trivial⟩
                        · exact hw_L (j265 (by omega)) ⟨rfl, rfl, rfl, rfl, trivial⟩
  have j277 : hw sk base (d + 1) none 213 34 [(0, .ref (base + 121)), (1, .int (a1)), (2, .int (a2)), (3, .int (r12)), (4, .int (((-1) : Int32))), (5, .int ((2 : Int32)))] [] (n, sl, SH, FI, FL, FR) (h_I (fun r s => ∃ FI' FL', s = (n, sl, SH, FI', FL', FR) ∧ g_I FI' ∧ g_fr n SH [(121, 67)] [149, 151] [] FI FI' ∧ g_fr n SH [] [150] [] FL FL' ∧ (1 ≤ r.toInt ∧ r.toInt ≤ 3) ∧ ((FI' 121 67).toInt = (FI 121 67).toInt + 1) ∧ ((a2).toInt + r.toInt ≤ (FI 121 13).toInt) ∧ (rl_wx (FI' 121 67) (FI' 149) (FL' 150) (FI' 151) ((a2).toInt + r.toInt)) ∧ (rl_t (FI' 149) (FL' 150)) ∧ (rl_w (FI' 121 67) (FI' 149) (FL' 150) (FI' 151)))) := by
    refine xw_iloadn (aX12_signs 19 rfl) rfl ?_
    refine hw_bp (v := (61 : Int32)) (aX12_signs 20 rfl) (by decide) ?_
    have j304 : hw sk base (d + 1) none 213 54 [(0, .ref (base + 121)), (1, .int (a1)), (2, .int (a2)), (3, .int (r12)), (4, .int (((-1) : Int32))), (5, .int ((2 : Int32)))] [] (n, sl, SH, FI, FL, FR) (h_I (fun r s => ∃ FI' FL', s = (n, sl, SH, FI', FL', FR) ∧ g_I FI' ∧ g_fr n SH [(121, 67)] [149, 151] [] FI FI' ∧ g_fr n SH [] [150] [] FL FL' ∧ (1 ≤ r.toInt ∧ r.toInt ≤ 3) ∧ ((FI' 121 67).toInt = (FI 121 67).toInt + 1) ∧ ((a2).toInt + r.toInt ≤ (FI 121 13).toInt) ∧ (rl_wx (FI' 121 67) (FI' 149) (FL' 150) (FI' 151) ((a2).toInt + r.toInt)) ∧ (rl_t (FI' 149) (FL' 150)) ∧ (rl_w (FI' 121 67) (FI' 149) (FL' 150) (FI' 151)))) := by
      refine xw_iloadn (aX12_signs 28 rfl) rfl ?_
      refine hw_bp (v := (33 : Int32)) (aX12_signs 29 rfl) (by decide) ?_
      have j329 : hw sk base (d + 1) none 213 74 [(0, .ref (base + 121)), (1, .int (a1)), (2, .int (a2)), (3, .int (r12)), (4, .int (((-1) : Int32))), (5, .int ((2 : Int32)))] [] (n, sl, SH, FI, FL, FR) (h_I (fun r s => ∃ FI' FL', s = (n, sl, SH, FI', FL', FR) ∧ g_I FI' ∧ g_fr n SH [(121, 67)] [149, 151] [] FI FI' ∧ g_fr n SH [] [150] [] FL FL' ∧ (1 ≤ r.toInt ∧ r.toInt ≤ 3) ∧ ((FI' 121 67).toInt = (FI 121 67).toInt + 1) ∧ ((a2).toInt + r.toInt ≤ (FI 121 13).toInt) ∧ (rl_wx (FI' 121 67) (FI' 149) (FL' 150) (FI' 151) ((a2).toInt + r.toInt)) ∧ (rl_t (FI' 149) (FL' 150)) ∧ (rl_w (FI' 121 67) (FI' 149) (FL' 150) (FI' 151)))) := by
        refine xw_iloadn (aX12_signs 37 rfl) rfl ?_
        refine hw_bp (v := (60 : Int32)) (aX12_signs 38 rfl) (by decide) ?_
        have j352 : hw sk base (d + 1) none 213 94 [(0, .ref (base + 121)), (1, .int (a1)), (2, .int (a2)), (3, .int (r12)), (4, .int (((-1) : Int32))), (5, .int ((2 : Int32)))] [] (n, sl, SH, FI, FL, FR) (h_I (fun r s => ∃ FI' FL', s = (n, sl, SH, FI', FL', FR) ∧ g_I FI' ∧ g_fr n SH [(121, 67)] [149, 151] [] FI FI' ∧ g_fr n SH [] [150] [] FL FL' ∧ (1 ≤ r.toInt ∧ r.toInt ≤ 3) ∧ ((FI' 121 67).toInt = (FI 121 67).toInt + 1) ∧ ((a2).toInt + r.toInt ≤ (FI 121 13).toInt) ∧ (rl_wx (FI' 121 67) (FI' 149) (FL' 150) (FI' 151) ((a2).toInt + r.toInt)) ∧ (rl_t (FI' 149) (FL' 150)) ∧ (rl_w (FI' 121 67) (FI' 149) (FL' 150) (FI' 151)))) := by
          refine xw_iloadn (aX12_signs 46 rfl) rfl ?_
          refine hw_bp (v := (62 : Int32)) (aX12_signs 47 rfl) (by decide) ?_
          have j373 : hw sk base (d + 1) none 213 114 [(0, .ref (base + 121)), (1, .int (a1)), (2, .int (a2)), (3, .int (r12)), (4, .int (((-1) : Int32))), (5, .int ((2 : Int32)))] [] (n, sl, SH, FI, FL, FR) (h_I (fun r s => ∃ FI' FL', s = (n, sl, SH, FI', FL', FR) ∧ g_I FI' ∧ g_fr n SH [(121, 67)] [149, 151] [] FI FI' ∧ g_fr n SH [] [150] [] FL FL' ∧ (1 ≤ r.toInt ∧ r.toInt ≤ 3) ∧ ((FI' 121 67).toInt = (FI 121 67).toInt + 1) ∧ ((a2).toInt + r.toInt ≤ (FI 121 13).toInt) ∧ (rl_wx (FI' 121 67) (FI' 149) (FL' 150) (FI' 151) ((a2).toInt + r.toInt)) ∧ (rl_t (FI' 149) (FL' 150)) ∧ (rl_w (FI' 121 67) (FI' 149) (FL' 150) (FI' 151)))) := by
            refine xw_iloadn (aX12_signs 55 rfl) rfl ?_
            refine hw_bp (v := (60 : Int32)) (aX12_signs 56 rfl) (by decide) ?_
            have j392 : hw sk base (d + 1) none 213 134 [(0, .ref (base + 121)), (1, .int (a1)), (2, .int (a2)), (3, .int (r12)), (4, .int (((-1) : Int32))), (5, .int ((2 : Int32)))] [] (n, sl, SH, FI, FL, FR) (h_I (fun r s => ∃ FI' FL', s = (n, sl, SH, FI', FL', FR) ∧ g_I FI' ∧ g_fr n SH [(121, 67)] [149, 151] [] FI FI' ∧ g_fr n SH [] [150] [] FL FL' ∧ (1 ≤ r.toInt ∧ r.toInt ≤ 3) ∧ ((FI' 121 67).toInt = (FI 121 67).toInt + 1) ∧ ((a2).toInt + r.toInt ≤ (FI 121 13).toInt) ∧ (rl_wx (FI' 121 67) (FI' 149) (FL' 150) (FI' 151) ((a2).toInt + r.toInt)) ∧ (rl_t (FI' 149) (FL' 150)) ∧ (rl_w (FI' 121 67) (FI' 149) (FL' 150) (FI' 151)))) := by
              refine xw_iloadn (aX12_signs 64 rfl) rfl ?_
              refine hw_bp (v := (62 : Int32)) (aX12_signs 65 rfl) (by decide) ?_
              refine hw_icne (tgt := 184) (aX12_signs 66 rfl) (by decide) rfl (by decide : (62 : Int32).toInt = 62) (fun cd393 => ?_) (fun cd393 => ?_)
              · exact hw_L (j98 (((-1) : Int32)) ((2 : Int32)) (by have := ((by decide : ((-1) : Int32).toInt = (-1)) : (((-1) : Int32)).toInt = (-1)); show -1 ≤ (((-1) : Int32)).toInt ∧ (((-1) : Int32)).toInt ≤ 263; omega) (by have := ((by decide : (2 : Int32).toInt = 2) : ((2 : Int32)).toInt = 2); show 2 ≤ ((2 : Int32)).toInt ∧ ((2 : Int32)).toInt ≤ 3; omega) (by have := ((by decide : ((-1) : Int32).toInt = (-1)) : (((-1) : Int32)).toInt = (-1)); have := ((by decide : (2 : Int32).toInt = 2) : ((2 : Int32)).toInt = 2); have := ((by decide : (2 : Int32).toInt = 2) : ((2 : Int32)).toInt = 2); show ((-1) : Int) = -1 ∨ ((2 : Int) ≤ 2 ∧ (a2).toInt + 2 ≤ (FI 121 13).toInt); omega)) ⟨rfl, rfl, rfl, rfl, rfl, trivial⟩
              · refine xw_iloadn (aX12_signs 67 rfl) rfl ?_
                refine hw_bp (v := (62 : Int32)) (aX12_signs 68 rfl) (by decide) ?_
                refine hw_icne (tgt := 184) (aX12_signs 69 rfl) (by decide) rfl (by decide : (62 : Int32).toInt = 62) (fun cd394 => ?_) (fun cd394 => ?_)
                · exact hw_L (j98 (((-1) : Int32)) ((2 : Int32)) (by have := ((by decide : ((-1) : Int32).toInt = (-1)) : (((-1) : Int32)).toInt = (-1)); show -1 ≤ (((-1) : Int32)).toInt ∧ (((-1) : Int32)).toInt ≤ 263; omega) (by have := ((by decide : (2 : Int32).toInt = 2) : ((2 : Int32)).toInt = 2); show 2 ≤ ((2 : Int32)).toInt ∧ ((2 : Int32)).toInt ≤ 3; omega) (by have := ((by decide : ((-1) : Int32).toInt = (-1)) : (((-1) : Int32)).toInt = (-1)); have := ((by decide : (2 : Int32).toInt = 2) : ((2 : Int32)).toInt = 2); have := ((by decide : (2 : Int32).toInt = 2) : ((2 : Int32)).toInt = 2); show ((-1) : Int) = -1 ∨ ((2 : Int) ≤ 2 ∧ (a2).toInt + 2 ≤ (FI 121 13).toInt); omega)) ⟨rfl, rfl, rfl, rfl, rfl, trivial⟩
                · refine hw_aloadn (aX12_signs 70 rfl) rfl ?_
                  refine xw_iloadn (aX12_signs 71 rfl) rfl ?_
                  refine hw_ic (v := (2 : Int32)) (aX12_signs 72 rfl) (by decide) ?_
                  refine xw_iadd (aX12_signs 73 rfl) ?_
                  refine hw_tie (A := ((a2).toInt) + (2)) (i_add rfl (by decide : (2 : Int32).toInt = 2) (by omega) (by omega)) (fun x395 e396 => ?_)
                  refine hw_callV (Bs := [.int (x395)]) (rest := []) (aX12_signs 74 rfl) wc_RX12_449 (by decide) rfl wi_yX12_sign wv_yX12_sign (c121 hS) (s121 hS) rfl rfl rfl (Nat.le_of_ble_eq_true rfl) (Nat.le_of_ble_eq_true rfl) (n_sign (d := d) hS hF hI (x395) (by have := (e396 : (x395).toInt = ((a2).toInt) + (2)); have := (e396 : (x395).toInt = ((a2).toInt) + (2)); omega)) (fun v397 sv398 p399 => ?_)
                  have := (e396 : (x395).toInt = ((a2).toInt) + (2))
                  have := congrArg Int32.toInt (show FI 121 13 = x4 from h5)
                  obtain ⟨r400, rfl, rfl, t402, t403, u404⟩ := p399
                  have rg_r400 := i_rng r400
                  show hw sk base _ _ _ _ _ [.int (r400)] _ _
                  refine hw_bp (v := (62 : Int32)) (aX12_signs 75 rfl) (by decide) ?_
                  have j409 : ∀ (g406 : Int32), (262 ≤ (g406).toInt ∧ (g406).toInt ≤ 263) → ((g406).toInt = 262 ∨ ((g406).toInt = 263 ∧ (a2).toInt + 3 ≤ (FI 121 13).toInt)) → hw sk base (d + 1) none 213 167 [(0, .ref (base + 121)), (1, .int (a1)), (2, .int (a2))] [.int (g406)] (n, sl, SH, FI, FL, FR) (h_I (fun r s => ∃ FI' FL', s = (n, sl, SH, FI', FL', FR) ∧ g_I FI' ∧ g_fr n SH [(121, 67)] [149, 151] [] FI FI' ∧ g_fr n SH [] [150] [] FL FL' ∧ (1 ≤ r.toInt ∧ r.toInt ≤ 3) ∧ ((FI' 121 67).toInt = (FI 121 67).toInt + 1) ∧ ((a2).toInt + r.toInt ≤ (FI 121 13).toInt) ∧ (rl_wx (FI' 121 67) (FI' 149) (FL' 150) (FI' 151) ((a2).toInt + r.toInt)) ∧ (rl_t (FI' 149) (FL' 150)) ∧ (rl_w (FI' 121 67) (FI' 149) (FL' 150) (FI' 151)))) := by
                    intro g406 q410 fc167_0
                    have rg_g406 := i_rng g406
                    refine xw_istore (L2 := [(4, .int (g406)), (0, .ref (base + 121)), (1, .int (a1)), (2, .int (a2))]) (aX12_signs 80 rfl) (by decide) rfl ?_
                    refine xw_iload (aX12_signs 81 rfl) rfl ?_
                    refine hw_sp (v := (263 : Int32)) (aX12_signs 82 rfl) (by decide) ?_
                    have j413 : ∀ (g412 : Int32), (2 ≤ (g412).toInt ∧ (g412).toInt ≤ 3) → ((2 : Int) ≤ (g412).toInt ∧ (a2).toInt + (g412).toInt ≤ (FI 121 13).toInt) → hw sk base (d + 1) none 213 182 [(0, .ref (base + 121)), (1, .int (a1)), (2, .int (a2)), (4, .int (g406))] [.int (g412)] (n, sl, SH, FI, FL, FR) (h_I (fun r s => ∃ FI' FL', s = (n, sl, SH, FI', FL', FR) ∧ g_I FI' ∧ g_fr n SH [(121, 67)] [149, 151] [] FI FI' ∧ g_fr n SH [] [150] [] FL FL' ∧ (1 ≤ r.toInt ∧ r.toInt ≤ 3) ∧ ((FI' 121 67).toInt = (FI 121 67).toInt + 1) ∧ ((a2).toInt + r.toInt ≤ (FI 121 13).toInt) ∧ (rl_wx (FI' 121 67) (FI' 149) (FL' 150) (FI' 151) ((a2).toInt + r.toInt)) ∧ (rl_t (FI' 149) (FL' 150)) ∧ (rl_w (FI' 121 67) (FI' 149) (FL' 150) (FI' 151)))) := by
                      intro g412 q414 fc182_0
                      have rg_g412 := i_rng g412
                      refine xw_istore (L2 := [(5, .int (g412)), (0, .ref (base + 121)), (1, .int (a1)), (2, .int (a2)), (4, .int (g406))]) (aX12_signs 87 rfl) (by decide) rfl ?_
                      exact hw_L (j98 (g406) (g412) (by show -1 ≤ (g406).toInt ∧ (g406).toInt ≤ 263; omega) (by show 2 ≤ (g412).toInt ∧ (g412).toInt ≤ 3; omega) (by show ((g406).toInt : Int) = -1 ∨ ((2 : Int) ≤ (g412).toInt ∧ (a2).toInt + (g412).toInt ≤ (FI 121 13).toInt); omega)) ⟨rfl, rfl, rfl, rfl, rfl, trivial⟩
                    refine hw_icne (tgt := 181) (aX12_signs 83 rfl) (by decide) rfl (by decide : (263 : Int32).toInt = 263) (fun cd415 => ?_) (fun cd415 => ?_)
                    · refine hw_ic (v := (2 : Int32)) (aX12_signs 86 rfl) (by decide) ?_
                      exact hw_L (j413 ((2 : Int32)) (by have := ((by decide : (2 : Int32).toInt = 2) : ((2 : Int32)).toInt = 2); show 2 ≤ ((2 : Int32)).toInt ∧ ((2 : Int32)).toInt ≤ 3; omega) (by have := ((by decide : (2 : Int32).toInt = 2) : ((2 : Int32)).toInt = 2); have := ((by decide : (2 : Int32).toInt = 2) : ((2 : Int32)).toInt = 2); show (2 : Int) ≤ 2 ∧ (a2).toInt + 2 ≤ (FI 121 13).toInt; omega)) ⟨rfl, rfl, rfl, rfl, trivial⟩
                    · refine hw_ic (v := (3 : Int32)) (aX12_signs 84 rfl) (by decide) ?_
                      refine xw_goto (tgt := 182) (aX12_signs 85 rfl) (by decide) ?_
                      exact hw_L (j413 ((3 : Int32)) (by have := ((by decide : (3 : Int32).toInt = 3) : ((3 : Int32)).toInt = 3); show 2 ≤ ((3 : Int32)).toInt ∧ ((3 : Int32)).toInt ≤ 3; omega) (by have := ((by decide : (3 : Int32).toInt = 3) : ((3 : Int32)).toInt = 3); have := ((by decide : (3 : Int32).toInt = 3) : ((3 : Int32)).toInt = 3); show (2 : Int) ≤ 3 ∧ (a2).toInt + 3 ≤ (FI 121 13).toInt; omega)) ⟨rfl, rfl, rfl, rfl, trivial⟩
                  refine hw_icne (tgt := 164) (aX12_signs 76 rfl) (by decide) rfl (by decide : (62 : Int32).toInt = 62) (fun cd416 => ?_) (fun cd416 => ?_)
                  · refine hw_sp (v := (262 : Int32)) (aX12_signs 79 rfl) (by decide) ?_
                    exact hw_L (j409 ((262 : Int32)) (by have := ((by decide : (262 : Int32).toInt = 262) : ((262 : Int32)).toInt = 262); show 262 ≤ ((262 : Int32)).toInt ∧ ((262 : Int32)).toInt ≤ 263; omega) (by have := ((by decide : (262 : Int32).toInt = 262) : ((262 : Int32)).toInt = 262); have := ((by decide : (262 : Int32).toInt = 262) : ((262 : Int32)).toInt = 262); show 262 = 262 ∨ (262 = 263 ∧ (a2).toInt + 3 ≤ (FI 121 13).toInt); omega)) ⟨rfl, rfl, rfl, trivial⟩
                  · refine hw_sp (v := (263 : Int32)) (aX12_signs 77 rfl) (by decide) ?_
                    refine xw_goto (tgt := 167) (aX12_signs 78 rfl) (by decide) ?_
                    exact hw_L (j409 ((263 : Int32)) (by have := ((by decide : (263 : Int32).toInt = 263) : ((263 : Int32)).toInt = 263); show 262 ≤ ((263 : Int32)).toInt ∧ ((263 : Int32)).toInt ≤ 263; omega) (by have := ((by decide : (263 : Int32).toInt = 263) : ((263 : Int32)).toInt = 263); have := ((by decide : (263 : Int32).toInt = 263) : ((263 : Int32)).toInt = 263); show 263 = 262 ∨ (263 = 263 ∧ (a2).toInt + 3 ≤ (FI 121 13).toInt); omega)) ⟨rfl, rfl, rfl, trivial⟩
            refine hw_icne (tgt := 134) (aX12_signs 57 rfl) (by decide) rfl (by decide : (60 : Int32).toInt = 60) (fun cd417 => ?_) (fun cd417 => ?_)
            · exact hw_L (j392) ⟨rfl, rfl, rfl, rfl, rfl, rfl, trivial⟩
            · refine xw_iloadn (aX12_signs 58 rfl) rfl ?_
              refine hw_bp (v := (60 : Int32)) (aX12_signs 59 rfl) (by decide) ?_
              refine hw_icne (tgt := 134) (aX12_signs 60 rfl) (by decide) rfl (by decide : (60 : Int32).toInt = 60) (fun cd418 => ?_) (fun cd418 => ?_)
              · exact hw_L (j392) ⟨rfl, rfl, rfl, rfl, rfl, rfl, trivial⟩
              · refine hw_sp (v := (261 : Int32)) (aX12_signs 61 rfl) (by decide) ?_
                refine xw_istore (L2 := [(4, .int ((261 : Int32))), (0, .ref (base + 121)), (1, .int (a1)), (2, .int (a2)), (3, .int (r12)), (5, .int ((2 : Int32)))]) (aX12_signs 62 rfl) (by decide) rfl ?_
                refine xw_goto (tgt := 184) (aX12_signs 63 rfl) (by decide) ?_
                exact hw_L (j98 ((261 : Int32)) ((2 : Int32)) (by have := ((by decide : (261 : Int32).toInt = 261) : ((261 : Int32)).toInt = 261); show -1 ≤ ((261 : Int32)).toInt ∧ ((261 : Int32)).toInt ≤ 263; omega) (by have := ((by decide : (2 : Int32).toInt = 2) : ((2 : Int32)).toInt = 2); show 2 ≤ ((2 : Int32)).toInt ∧ ((2 : Int32)).toInt ≤ 3; omega) (by have := ((by decide : (261 : Int32).toInt = 261) : ((261 : Int32)).toInt = 261); have := ((by decide : (2 : Int32).toInt = 2) : ((2 : Int32)).toInt = 2); have := ((by decide : (2 : Int32).toInt = 2) : ((2 : Int32)).toInt = 2); show (261 : Int) = -1 ∨ ((2 : Int) ≤ 2 ∧ (a2).toInt + 2 ≤ (FI 121 13).toInt); omega)) ⟨rfl, rfl, rfl, rfl, rfl, trivial⟩
          refine hw_icne (tgt := 114) (aX12_signs 48 rfl) (by decide) rfl (by decide : (62 : Int32).toInt = 62) (fun cd419 => ?_) (fun cd419 => ?_)
          · exact hw_L (j373) ⟨rfl, rfl, rfl, rfl, rfl, rfl, trivial⟩
          · refine xw_iloadn (aX12_signs 49 rfl) rfl ?_
            refine hw_bp (v := (61 : Int32)) (aX12_signs 50 rfl) (by decide) ?_
            refine hw_icne (tgt := 114) (aX12_signs 51 rfl) (by decide) rfl (by decide : (61 : Int32).toInt = 61) (fun cd420 => ?_) (fun cd420 => ?_)
            · exact hw_L (j373) ⟨rfl, rfl, rfl, rfl, rfl, rfl, trivial⟩
            · refine hw_sp (v := (260 : Int32)) (aX12_signs 52 rfl) (by decide) ?_
              refine xw_istore (L2 := [(4, .int ((260 : Int32))), (0, .ref (base + 121)), (1, .int (a1)), (2, .int (a2)), (3, .int (r12)), (5, .int ((2 : Int32)))]) (aX12_signs 53 rfl) (by decide) rfl ?_
              refine xw_goto (tgt := 184) (aX12_signs 54 rfl) (by decide) ?_
              exact hw_L (j98 ((260 : Int32)) ((2 : Int32)) (by have := ((by decide : (260 : Int32).toInt = 260) : ((260 : Int32)).toInt = 260); show -1 ≤ ((260 : Int32)).toInt ∧ ((260 : Int32)).toInt ≤ 263; omega) (by have := ((by decide : (2 : Int32).toInt = 2) : ((2 : Int32)).toInt = 2); show 2 ≤ ((2 : Int32)).toInt ∧ ((2 : Int32)).toInt ≤ 3; omega) (by have := ((by decide : (260 : Int32).toInt = 260) : ((260 : Int32)).toInt = 260); have := ((by decide : (2 : Int32).toInt = 2) : ((2 : Int32)).toInt = 2); have := ((by decide : (2 : Int32).toInt = 2) : ((2 : Int32)).toInt = 2); show (260 : Int) = -1 ∨ ((2 : Int) ≤ 2 ∧ (a2).toInt + 2 ≤ (FI 121 13).toInt); omega)) ⟨rfl, rfl, rfl, rfl, rfl, trivial⟩
        refine hw_icne (tgt := 94) (aX12_signs 39 rfl) (by decide) rfl (by decide : (60 : Int32).toInt = 60) (fun cd421 => ?_) (fun cd421 => ?_)
        · exact hw_L (j352) ⟨rfl, rfl, rfl, rfl, rfl, rfl, trivial⟩
        · refine xw_iloadn (aX12_signs 40 rfl) rfl ?_
          refine hw_bp (v := (61 : Int32)) (aX12_signs 41 rfl) (by decide) ?_
          refine hw_icne (tgt := 94) (aX12_signs 42 rfl) (by decide) rfl (by decide : (61 : Int32).toInt = 61) (fun cd422 => ?_) (fun cd422 => ?_)
          · exact hw_L (j352) ⟨rfl, rfl, rfl, rfl, rfl, rfl, trivial⟩
          · refine hw_sp (v := (259 : Int32)) (aX12_signs 43 rfl) (by decide) ?_
            refine xw_istore (L2 := [(4, .int ((259 : Int32))), (0, .ref (base + 121)), (1, .int (a1)), (2, .int (a2)), (3, .int (r12)), (5, .int ((2 : Int32)))]) (aX12_signs 44 rfl) (by decide) rfl ?_
            refine xw_goto (tgt := 184) (aX12_signs 45 rfl) (by decide) ?_
            exact hw_L (j98 ((259 : Int32)) ((2 : Int32)) (by have := ((by decide : (259 : Int32).toInt = 259) : ((259 : Int32)).toInt = 259); show -1 ≤ ((259 : Int32)).toInt ∧ ((259 : Int32)).toInt ≤ 263; omega) (by have := ((by decide : (2 : Int32).toInt = 2) : ((2 : Int32)).toInt = 2); show 2 ≤ ((2 : Int32)).toInt ∧ ((2 : Int32)).toInt ≤ 3; omega) (by have := ((by decide : (259 : Int32).toInt = 259) : ((259 : Int32)).toInt = 259); have := ((by decide : (2 : Int32).toInt = 2) : ((2 : Int32)).toInt = 2); have := ((by decide : (2 : Int32).toInt = 2) : ((2 : Int32)).toInt = 2); show (259 : Int) = -1 ∨ ((2 : Int) ≤ 2 ∧ (a2).toInt + 2 ≤ (FI 121 13).toInt); omega)) ⟨rfl, rfl, rfl, rfl, rfl, trivial⟩
      refine hw_icne (tgt := 74) (aX12_signs 30 rfl) (by decide) rfl (by decide : (33 : Int32).toInt = 33) (fun cd423 => ?_) (fun cd423 => ?_)
      · exact hw_L (j329) ⟨rfl, rfl, rfl, rfl, rfl, rfl, trivial⟩
      · refine xw_iloadn (aX12_signs 31 rfl) rfl ?_
        refine hw_bp (v := (61 : Int32)) (aX12_signs 32 rfl) (by decide) ?_
        refine hw_icne (tgt := 74) (aX12_signs 33 rfl) (by decide) rfl (by decide : (61 : Int32).toInt = 61) (fun cd424 => ?_) (fun cd424 => ?_)
        · exact hw_L (j329) ⟨rfl, rfl, rfl, rfl, rfl, rfl, trivial⟩
        · refine hw_sp (v := (258 : Int32)) (aX12_signs 34 rfl) (by decide) ?_
          refine xw_istore (L2 := [(4, .int ((258 : Int32))), (0, .ref (base + 121)), (1, .int (a1)), (2, .int (a2)), (3, .int (r12)), (5, .int ((2 : Int32)))]) (aX12_signs 35 rfl) (by decide) rfl ?_
          refine xw_goto (tgt := 184) (aX12_signs 36 rfl) (by decide) ?_
          exact hw_L (j98 ((258 : Int32)) ((2 : Int32)) (by have := ((by decide : (258 : Int32).toInt = 258) : ((258 : Int32)).toInt = 258); show -1 ≤ ((258 : Int32)).toInt ∧ ((258 : Int32)).toInt ≤ 263; omega) (by have := ((by decide : (2 : Int32).toInt = 2) : ((2 : Int32)).toInt = 2); show 2 ≤ ((2 : Int32)).toInt ∧ ((2 : Int32)).toInt ≤ 3; omega) (by have := ((by decide : (258 : Int32).toInt = 258) : ((258 : Int32)).toInt = 258); have := ((by decide : (2 : Int32).toInt = 2) : ((2 : Int32)).toInt = 2); have := ((by decide : (2 : Int32).toInt = 2) : ((2 : Int32)).toInt = 2); show (258 : Int) = -1 ∨ ((2 : Int) ≤ 2 ∧ (a2).toInt + 2 ≤ (FI 121 13).toInt); omega)) ⟨rfl, rfl, rfl, rfl, rfl, trivial⟩
    refine hw_icne (tgt := 54) (aX12_signs 21 rfl) (by decide) rfl (by decide : (61 : Int32).toInt = 61) (fun cd425 => ?_) (fun cd425 => ?_)
    · exact hw_L (j304) ⟨rfl, rfl, rfl, rfl, rfl, rfl, trivial⟩
    · refine xw_iloadn (aX12_signs 22 rfl) rfl ?_
      refine hw_bp (v := (61 : Int32)) (aX12_signs 23 rfl) (by decide) ?_
      refine hw_icne (tgt := 54) (aX12_signs 24 rfl) (by decide) rfl (by decide : (61 : Int32).toInt = 61) (fun cd426 => ?_) (fun cd426 => ?_)
      · exact hw_L (j304) ⟨rfl, rfl, rfl, rfl, rfl, rfl, trivial⟩
      · refine hw_sp (v := (257 : Int32)) (aX12_signs 25 rfl) (by decide) ?_
        refine xw_istore (L2 := [(4, .int ((257 : Int32))), (0, .ref (base + 121)), (1, .int (a1)), (2, .int (a2)), (3, .int (r12)), (5, .int ((2 : Int32)))]) (aX12_signs 26 rfl) (by decide) rfl ?_
        refine xw_goto (tgt := 184) (aX12_signs 27 rfl) (by decide) ?_
        exact hw_L (j98 ((257 : Int32)) ((2 : Int32)) (by have := ((by decide : (257 : Int32).toInt = 257) : ((257 : Int32)).toInt = 257); show -1 ≤ ((257 : Int32)).toInt ∧ ((257 : Int32)).toInt ≤ 263; omega) (by have := ((by decide : (2 : Int32).toInt = 2) : ((2 : Int32)).toInt = 2); show 2 ≤ ((2 : Int32)).toInt ∧ ((2 : Int32)).toInt ≤ 3; omega) (by have := ((by decide : (257 : Int32).toInt = 257) : ((257 : Int32)).toInt = 257); have := ((by decide : (2 : Int32).toInt = 2) : ((2 : Int32)).toInt = 2); have := ((by decide : (2 : Int32).toInt = 2) : ((2 : Int32)).toInt = 2); show (257 : Int) = -1 ∨ ((2 : Int) ≤ 2 ∧ (a2).toInt + 2 ≤ (FI 121 13).toInt); omega)) ⟨rfl, rfl, rfl, rfl, rfl, trivial⟩
  refine hw_icne (tgt := 34) (aX12_signs 12 rfl) (by decide) rfl (by decide : (46 : Int32).toInt = 46) (fun cd427 => ?_) (fun cd427 => ?_)
  · exact hw_L (j277) ⟨rfl, rfl, rfl, rfl, rfl, rfl, trivial⟩
  · refine xw_iloadn (aX12_signs 13 rfl) rfl ?_
    refine hw_bp (v := (46 : Int32)) (aX12_signs 14 rfl) (by decide) ?_
    refine hw_icne (tgt := 34) (aX12_signs 15 rfl) (by decide) rfl (by decide : (46 : Int32).toInt = 46) (fun cd428 => ?_) (fun cd428 => ?_)
    · exact hw_L (j277) ⟨rfl, rfl, rfl, rfl, rfl, rfl, trivial⟩
    · refine hw_sp (v := (256 : Int32)) (aX12_signs 16 rfl) (by decide) ?_
      refine xw_istore (L2 := [(4, .int ((256 : Int32))), (5, .int ((2 : Int32))), (3, .int (r12)), (0, .ref (base + 121)), (1, .int (a1)), (2, .int (a2))]) (aX12_signs 17 rfl) (by decide) rfl ?_
      refine xw_goto (tgt := 184) (aX12_signs 18 rfl) (by decide) ?_
      exact hw_L (j98 ((256 : Int32)) ((2 : Int32)) (by have := ((by decide : (256 : Int32).toInt = 256) : ((256 : Int32)).toInt = 256); show -1 ≤ ((256 : Int32)).toInt ∧ ((256 : Int32)).toInt ≤ 263; omega) (by have := ((by decide : (2 : Int32).toInt = 2) : ((2 : Int32)).toInt = 2); show 2 ≤ ((2 : Int32)).toInt ∧ ((2 : Int32)).toInt ≤ 3; omega) (by have := ((by decide : (256 : Int32).toInt = 256) : ((256 : Int32)).toInt = 256); have := ((by decide : (2 : Int32).toInt = 2) : ((2 : Int32)).toInt = 2); have := ((by decide : (2 : Int32).toInt = 2) : ((2 : Int32)).toInt = 2); show (256 : Int) = -1 ∨ ((2 : Int) ≤ 2 ∧ (a2).toInt + 2 ≤ (FI 121 13).toInt); omega)) ⟨rfl, rfl, rfl, rfl, rfl, trivial⟩
def nX12_tokens : Nat := 0xb1c901b6be00b42a09032a9cfea73c60d801b61b1c2a1b0c00a73c60040400a70507009905151bc901b61d85643010041506100500a70707009905152a0536030400a7040700a3381004150e00a1311004150436c101b660041b2a4700a040101c5600a7c901b61d0416060400a70610080099d501b6c101b61b2a2a0f00a31210641d1b2ad5ffa73c60041b043765d301146185c101b61b2a690416d101141600a21210641d1b250099c401b6c101b61b2a2a043709580099c401b61c2ab300a7c901b61d0416042a0b00a7c901b61d85cd01b604162a052a13009f02cd01b604162a2500a7c901b61d0906102a0e00a40810641d1bb5ffa73c60041b0437618564151006150800a764601006150b0099a701b606152a690416c701142300a20810641d1b0636c101b61b2a390099c401b6c101b61b2a2a0f009aa701b6c101b61b2a2a0437098c0099a701b61c2a4401a73c60041b0a00a00a101c09009f20101c3e1b3dc101b61b2a6201a2be00b42a1b3c03be01b5032a
theorem bX12_tokens : cX12_tokens.data.toList.map UInt8.toNat = x_un nX12_tokens 377 := by decide +kernel
def iX12_tokens : List (Nat × Jvm.ClassFile.Instr × Nat) := [(0, .aload_n 0, 1), (1, .iconst 0, 1), (2, .putfield 446, 3), (5, .iconst 0, 1), (6, .istore_n 1, 1), (7, .iload_n 1, 1), (8, .aload_n 0, 1), (9, .getfield 190, 3), (12, .if_icmp .ge 354, 3), (15, .aload_n 0, 1), (16, .iload_n 1, 1), (17, .invokevirtual 449, 3), (20, .istore_n 2, 1), (21, .iload_n 1, 1), (22, .istore_n 3, 1), (23, .iload_n 2, 1), (24, .bipush 32, 2), (26, .if_icmp .eq 9, 3), (29, .iload_n 2, 1), (30, .bipush 10, 2), (32, .if_icmp .ne 10, 3), (35, .iload_n 1, 1), (36, .iconst 1, 1), (37, .iadd, 1), (38, .istore_n 1, 1), (39, .goto 324, 3), (42, .aload_n 0, 1), (43, .iload_n 2, 1), (44, .invokevirtual 423, 3), (47, .ifCond .eq 140, 3), (50, .lconst 0, 1), (51, .lstore 4, 2), (53, .aload_n 0, 1), (54, .aload_n 0, 1), (55, .iload_n 1, 1), (56, .invokevirtual 449, 3), (59, .invokevirtual 423, 3), (62, .ifCond .ne 15, 3), (65, .aload_n 0, 1), (66, .aload_n 0, 1), (67, .iload_n 1, 1), (68, .invokevirtual 449, 3), (71, .invokevirtual 452, 3), (74, .ifCond .eq 57, 3), (77, .aload_n 0, 1), (78, .iload_n 1, 1), (79, .invokevirtual 449, 3), (82, .istore 6, 2), (84, .iload_n 1, 1), (85, .iload_n 3, 1), (86, .isub, 1), (87, .bipush 8, 2), (89, .if_icmp .ge 35, 3), (92, .ldc2_w 455, 3), (95, .lload 4, 2), (97, .lmul, 1), (98, .aload_n 0, 1), (99, .iload 6, 2), (101, .invokevirtual 423, 3), (104, .ifCond .eq 11, 3), (107, .iload 6, 2), (109, .bipush 96, 2), (111, .isub, 1), (112, .goto 8, 3), (115, .iload 6, 2), (117, .bipush 21, 2), (119, .isub, 1), (120, .i2l, 1), (121, .ladd, 1), (122, .lstore 4, 2), (124, .iload_n 1, 1), (125, .iconst 1, 1), (126, .iadd, 1), (127, .istore_n 1, 1), (128, .goto (-75), 3), (131, .iload_n 1, 1), (132, .iload_n 3, 1), (133, .isub, 1), (134, .bipush 8, 2), (136, .if_icmp .le 14, 3), (139, .aload_n 0, 1), (140, .bipush 6, 2), (142, .lconst 0, 1), (143, .iload_n 3, 1), (144, .invokevirtual 457, 3), (147, .goto 37, 3), (150, .aload_n 0, 1), (151, .lload 4, 2), (153, .invokevirtual 461, 3), (156, .iconst (-1), 1), (157, .if_icmp .eq 19, 3), (160, .aload_n 0, 1), (161, .iconst 2, 1), (162, .aload_n 0, 1), (163, .lload 4, 2), (165, .invokevirtual 461, 3), (168, .i2l, 1), (169, .iload_n 3, 1), (170, .invokevirtual 457, 3), (173, .goto 11, 3), (176, .aload_n 0, 1), (177, .iconst 1, 1), (178, .lload 4, 2), (180, .iload_n 3, 1), (181, .invokevirtual 457, 3), (184, .goto 179, 3), (187, .aload_n 0, 1), (188, .iload_n 2, 1), (189, .invokevirtual 452, 3), (192, .ifCond .eq 88, 3), (195, .lconst 0, 1), (196, .lstore 4, 2), (198, .aload_n 0, 1), (199, .aload_n 0, 1), (200, .iload_n 1, 1), (201, .invokevirtual 449, 3), (204, .invokevirtual 452, 3), (207, .ifCond .eq 37, 3), (210, .iload_n 1, 1), (211, .iload_n 3, 1), (212, .isub, 1), (213, .bipush 18, 2), (215, .if_icmp .ge 22, 3), (218, .ldc2_w 465, 3), (221, .lload 4, 2), (223, .lmul, 1), (224, .aload_n 0, 1), (225, .iload_n 1, 1), (226, .invokevirtual 449, 3), (229, .i2l, 1), (230, .ladd, 1), (231, .ldc2_w 467, 3), (234, .lsub, 1), (235, .lstore 4, 2), (237, .iload_n 1, 1), (238, .iconst 1, 1), (239, .iadd, 1), (240, .istore_n 1, 1), (241, .goto (-43), 3), (244, .aload_n 0, 1), (245, .iload_n 1, 1), (246, .iload_n 3, 1), (247, .isub, 1), (248, .bipush 18, 2), (250, .if_icmp .gt 15, 3), (253, .aload_n 0, 1), (254, .aload_n 0, 1), (255, .iload_n 1, 1), (256, .invokevirtual 449, 3), (259, .invokevirtual 469, 3), (262, .ifCond .eq 8, 3), (265, .bipush 6, 2), (267, .goto 4, 3), (270, .iconst 3, 1), (271, .lload 4, 2), (273, .iload_n 3, 1), (274, .invokevirtual 457, 3), (277, .goto 86, 3), (280, .iload_n 2, 1), (281, .bipush 64, 2), (283, .if_icmp .ne 71, 3), (286, .aload_n 0, 1), (287, .iload_n 1, 1), (288, .iconst 1, 1), (289, .iadd, 1), (290, .invokevirtual 449, 3), (293, .istore 4, 2), (295, .iload 4, 2), (297, .bipush 49, 2), (299, .if_icmp .lt 14, 3), (302, .iload 4, 2), (304, .bipush 56, 2), (306, .if_icmp .gt 7, 3), (309, .iconst 1, 1), (310, .goto 4, 3), (313, .iconst 0, 1), (314, .istore 5, 2), (316, .aload_n 0, 1), (317, .iload 5, 2), (319, .ifCond .eq 7, 3), (322, .iconst 4, 1), (323, .goto 5, 3), (326, .bipush 6, 2), (328, .iload 4, 2), (330, .bipush 48, 2), (332, .isub, 1), (333, .i2l, 1), (334, .iload_n 3, 1), (335, .invokevirtual 457, 3), (338, .iload_n 1, 1), (339, .iload 5, 2), (341, .ifCond .eq 7, 3), (344, .iconst 2, 1), (345, .goto 4, 3), (348, .iconst 1, 1), (349, .iadd, 1), (350, .istore_n 1, 1), (351, .goto 12, 3), (354, .iload_n 1, 1), (355, .aload_n 0, 1), (356, .iload_n 2, 1), (357, .iload_n 1, 1), (358, .invokevirtual 472, 3), (361, .iadd, 1), (362, .istore_n 1, 1), (363, .goto (-356), 3), (366, .aload_n 0, 1), (367, .iconst 0, 1), (368, .lconst 0, 1), (369, .aload_n 0, 1), (370, .getfield 190, 3), (373, .invokevirtual 457, 3), (376, .return_, 1)]
theorem dX12_tokens : x_il nX12_tokens 377 iX12_tokens = true := by decide +kernel
theorem aX12_tokens (k : Nat) {pc : Nat} {i : Jvm.ClassFile.Instr} {len : Nat} (hk : iX12_tokens[k]? = some (pc, i, len)) : x_at xMM 212 pc i len yX12_tokens 7 none := ⟨cX12_tokens, rfl, x_il_ok bX12_tokens dX12_tokens k hk⟩
set_option maxHeartbeats 4000000 in
set_option maxRecDepth 100000 in
theorem n_tokens {sk : xK} {base d n sl : Nat} {SH : Nat → Nat × Nat} {FI : Nat → Nat → Int32} {FL : Nat → Nat → Int64} {FR : Nat → Nat → Option Nat} (hS : h_S n SH) (hF : h_FR FR) (hI : g_I FI) (rel_tok : rl_t (FI 149) (FL 150)) : hw sk base (d + 2) none 212 0 [(0, .ref (base + 121))] [] (n, sl, SH, FI, FL, FR) (h_V (fun s => ∃ FI' FL', s = (n, sl, SH, FI', FL', FR) ∧ g_I FI' ∧ g_fr n SH [(121, 67)] [149, 151] [] FI FI' ∧ g_fr n SH [] [150] [] FL FL' ∧ (1 ≤ (FI' 121 67).toInt) ∧ (rl_e (FI' 149) (FI' 121 67)) ∧ (rl_w (FI' 121 67) (FI' 149) (FL' 150) (FI' 151)) ∧ (rl_t (FI' 149) (FL' 150)))) := by
  obtain ⟨x1, h2⟩ : ∃ y, FI 121 67 = y := ⟨_, rfl⟩
  have h2l := congrArg Int32.toInt h2
  have b3 := gI_121_67 hI; rw [h2] at b3
  refine hw_aloadn (aX12_tokens 0 rfl) rfl ?_
  refine hw_ic (v := (0 : Int32)) (aX12_tokens 1 rfl) (by decide) ?_
  refine hv_puti (aX12_tokens 2 rfl) wf_RX12_446 (c121 hS) (s121 hS) (by decide) rfl rfl (fun FI4 u5 => ?_)
  have rl6 : rl_t (FI4 149) (FL 150) := by rw [show FI4 149 = FI 149 from up_row u5 (by decide) rfl]; exact rel_tok
  have hI7 : g_I FI4 := gU_121_67 hI u5 (by have := ((by decide : (0 : Int32).toInt = 0) : ((0 : Int32)).toInt = 0); omega) (by have := ((by decide : (0 : Int32).toInt = 0) : ((0 : Int32)).toInt = 0); omega)
  have h670 : (FI4 121 67).toInt = 0 := by have := congrArg Int32.toInt (show FI4 121 67 = (0 : Int32) from up_eq u5); have := ((by decide : (0 : Int32).toInt = 0) : ((0 : Int32)).toInt = 0); omega
  have rl8 : rl_w (FI4 121 67) (FI4 149) (FL 150) (FI4 151) := rl_w_0 h670
  refine hw_ic (v := (0 : Int32)) (aX12_tokens 3 rfl) (by decide) ?_
  refine xw_istoren (L2 := [(1, .int ((0 : Int32))), (0, .ref (base + 121))]) (aX12_tokens 4 rfl) (by decide) rfl ?_
  have lp20 : ∀ (m : Nat) (y1 : Int32) (FIv9 : Nat → Nat → Int32) (FLv10 : Nat → Nat → Int64), (g_fr n SH [(121, 67)] [149, 151] [] FI FIv9) → (g_fr n SH [] [150] [] FL FLv10) → (g_I FIv9) → (rl_t (FIv9 149) (FLv10 150)) → (rl_w (FIv9 121 67) (FIv9 149) (FLv10 150) (FIv9 151)) → (0 ≤ (y1).toInt ∧ (y1).toInt ≤ 1000) → ((FIv9 121 67).toInt ≤ (y1).toInt) → ((FIv9 121 67).toInt ≤ (FIv9 121 13).toInt) → ((y1).toInt ≤ (FIv9 121 13).toInt) → (rl_wx (FIv9 121 67) (FIv9 149) (FLv10 150) (FIv9 151) (y1).toInt) → 1003 - (y1).toInt < m → hw sk base (d + 2) none 212 7 [(1, .int (y1)), (0, .ref (base + 121))] [] (n, sl, SH, FIv9, FLv10, FR) (h_V (fun s => ∃ FI' FL', s = (n, sl, SH, FI', FL', FR) ∧ g_I FI' ∧ g_fr n SH [(121, 67)] [149, 151] [] FI FI' ∧ g_fr n SH [] [150] [] FL FL' ∧ (1 ≤ (FI' 121 67).toInt) ∧ (rl_e (FI' 149) (FI' 121 67)) ∧ (rl_w (FI' 121 67) (FI' 149) (FL' 150) (FI' 151)) ∧ (rl_t (FI' 149) (FL' 150)))) := by
    intro m
    induction m with
    | zero => intro y1 FIv9 FLv10 fr11 fr12 hI13 rl14 rl15 iv16 iv17 iv18 iv19 xi7_0 hm; omega
    | succ m ih =>
      intro y1 FIv9 FLv10 fr11 fr12 hI13 rl14 rl15 iv16 iv17 iv18 iv19 xi7_0 hm
      have rg_y1 := i_rng y1
      obtain ⟨x21, h22⟩ : ∃ y, FIv9 121 67 = y := ⟨_, rfl⟩
      have h22l := congrArg Int32.toInt h22
      have b23 := gI_121_67 hI13; rw [h22] at b23
      obtain ⟨x24, h25⟩ : ∃ y, FIv9 121 13 = y := ⟨_, rfl⟩
      have h25l := congrArg Int32.toInt h25
      have b26 := gI_121_13 hI13; rw [h25] at b26
      refine xw_iloadn (aX12_tokens 5 rfl) rfl ?_
      refine hw_aloadn (aX12_tokens 6 rfl) rfl ?_
      refine hw_get (v := .int (x24)) (aX12_tokens 7 rfl) wf_RX12_190 (c121 hS) (s121 hS) (by decide) (congrArg Value.int (show FIv9 121 13 = x24 from h25)) ?_
      refine hw_icge (tgt := 366) (aX12_tokens 8 rfl) (by decide) rfl rfl (fun cd27 => ?_) (fun cd27 => ?_)
      · refine hw_aloadn (aX12_tokens 206 rfl) rfl ?_
        refine hw_ic (v := (0 : Int32)) (aX12_tokens 207 rfl) (by decide) ?_
        refine hw_lc (v := (0 : Int64)) (aX12_tokens 208 rfl) (by decide) ?_
        refine hw_aloadn (aX12_tokens 209 rfl) rfl ?_
        refine hw_get (v := .int (x24)) (aX12_tokens 210 rfl) wf_RX12_190 (c121 hS) (s121 hS) (by decide) (congrArg Value.int (show FIv9 121 13 = x24 from h25)) ?_
        refine hw_callV (Bs := [.int ((0 : Int32)), .long ((0 : Int64)), .int (x24)]) (rest := []) (aX12_tokens 211 rfl) wc_RX12_457 (by decide) rfl wi_yX12_token wv_yX12_token (c121 hS) (s121 hS) rfl rfl rfl (Nat.le_of_ble_eq_true rfl) (Nat.le_of_ble_eq_true rfl) (n_token (d := d + 1) hS hF hI13 ((0 : Int32)) ((0 : Int64)) (x24) (by have := congrArg Int32.toInt (show FIv9 121 67 = x21 from h22); omega) (by have := ((by decide : (0 : Int32).toInt = 0) : ((0 : Int32)).toInt = 0); have := ((by decide : (0 : Int64).toInt = 0) : ((0 : Int64)).toInt = 0); have := ((by decide : (0 : Int64).toInt = 0) : ((0 : Int64)).toInt = 0); omega) (by have := ((by decide : (0 : Int32).toInt = 0) : ((0 : Int32)).toInt = 0); have := ((by decide : (0 : Int64).toInt = 0) : ((0 : Int64)).toInt = 0); have := ((by decide : (0 : Int64).toInt = 0) : ((0 : Int64)).toInt = 0); omega) (by omega) (rl_wx_le xi7_0 (by omega)) (show rl_t (FIv9 149) (FLv10 150) from rl14) (show rl_w (FIv9 121 67) (FIv9 149) (FLv10 150) (FIv9 151) from rl15)) (fun v28 sv29 p30 => ?_)
        have := congrArg Int32.toInt (show FIv9 121 67 = x21 from h22)
        obtain ⟨rfl, FI32, FL33, rfl, hI34, f35, f36, t37, u38, u39, rl40, rl41⟩ := p30
        obtain ⟨x42, h43⟩ : ∃ y, FI32 121 67 = y := ⟨_, rfl⟩
        have h43l := congrArg Int32.toInt h43
        have b44 := gI_121_67 hI34; rw [h43] at b44
        show hw sk base _ _ _ _ _ [] _ _
        refine xw_vret (aX12_tokens 212 rfl) rfl ?_
        exact ⟨rfl, FI32, FL33, rfl, hI34, (gf_tr ex_rf fr11 f35 rfl rfl rfl), (gf_tr ex_rf fr12 f36 rfl rfl rfl), (by have := congrArg Int32.toInt (show FI32 121 67 = x42 from h43); omega), (by exact ⟨by omega, by rw [show ((FI32 121 67).toInt - 1).toNat = (FIv9 121 67).toInt.toNat by omega]; exact u38⟩), (by exact rl41), (show rl_t (FI32 149) (FL33 150) from rl40)⟩
      · refine hw_aloadn (aX12_tokens 9 rfl) rfl ?_
        refine xw_iloadn (aX12_tokens 10 rfl) rfl ?_
        refine hw_callV (Bs := [.int (y1)]) (rest := []) (aX12_tokens 11 rfl) wc_RX12_449 (by decide) rfl wi_yX12_sign wv_yX12_sign (c121 hS) (s121 hS) rfl rfl rfl (Nat.le_of_ble_eq_true rfl) (Nat.le_of_ble_eq_true rfl) (n_sign (d := d + 1) hS hF hI13 (y1) (by omega)) (fun v45 sv46 p47 => ?_)
        have := congrArg Int32.toInt (show FIv9 121 13 = x24 from h25)
        obtain ⟨r48, rfl, rfl, t50, t51, u52⟩ := p47
        have rg_r48 := i_rng r48
        show hw sk base _ _ _ _ _ [.int (r48)] _ _
        refine xw_istoren (L2 := [(2, .int (r48)), (1, .int (y1)), (0, .ref (base + 121))]) (aX12_tokens 12 rfl) (by decide) rfl ?_
        refine xw_iloadn (aX12_tokens 13 rfl) rfl ?_
        refine xw_istoren (L2 := [(3, .int (y1)), (2, .int (r48)), (1, .int (y1)), (0, .ref (base + 121))]) (aX12_tokens 14 rfl) (by decide) rfl ?_
        refine xw_iloadn (aX12_tokens 15 rfl) rfl ?_
        refine hw_bp (v := (32 : Int32)) (aX12_tokens 16 rfl) (by decide) ?_
        have j471 : ∀ (g460 : Int32) (g465 : Int32) (FIj461 : Nat → Nat → Int32) (FLj467 : Nat → Nat → Int64), (0 ≤ (g460).toInt ∧ (g460).toInt ≤ 1002) → (g_fr n SH [(121, 67)] [149, 151] [] FI FIj461) → (g_I FIj461) → (FIj461 121 13 = x24) → (FIj461 121 67 = g465) → (0 ≤ (g465).toInt ∧ (g465).toInt ≤ 1001) → (g_fr n SH [] [150] [] FL FLj467) → (rl_t (FIj461 149) (FLj467 150)) → (rl_w (FIj461 121 67) (FIj461 149) (FLj467 150) (FIj461 151)) → ((g465).toInt ≤ (g460).toInt) → ((g465).toInt ≤ (x24).toInt) → ((y1).toInt < (g460).toInt) → ((g460).toInt ≤ (x24).toInt) → (rl_wx (FIj461 121 67) (FIj461 149) (FLj467 150) (FIj461 151) (g460).toInt) → hw sk base (d + 2) none 212 363 [(0, .ref (base + 121)), (1, .int (g460)), (3, .int (y1))] [] (n, sl, SH, FIj461, FLj467, FR) (h_V (fun s => ∃ FI' FL', s = (n, sl, SH, FI', FL', FR) ∧ g_I FI' ∧ g_fr n SH [(121, 67)] [149, 151] [] FI FI' ∧ g_fr n SH [] [150] [] FL FL' ∧ (1 ≤ (FI' 121 67).toInt) ∧ (rl_e (FI' 149) (FI' 121 67)) ∧ (rl_w (FI' 121 67) (FI' 149) (FL' 150) (FI' 151)) ∧ (rl_t (FI' 149) (FL' 150)))) := by
          intro g460 g465 FIj461 FLj467 q472 fr462 hI463 kp464 kp466 q473 fr468 rl469 rl470 fc363_0 fc363_1 fc363_2 fc363_3 fc363_4
          have rg_g460 := i_rng g460
          have rg_g465 := i_rng g465
          have := congrArg Int32.toInt kp464
          have := congrArg Int32.toInt kp466
          refine xw_goto (tgt := 7) (aX12_tokens 205 rfl) (by decide) ?_
          exact hw_L (ih (g460) FIj461 FLj467 fr462 fr468 hI463 (show rl_t (FIj461 149) (FLj467 150) from rl469) (show rl_w (FIj461 121 67) (FIj461 149) (FLj467 150) (FIj461 151) from rl470) (by omega) (by have := congrArg Int32.toInt (show FIj461 121 67 = g465 from kp466); omega) (by have := congrArg Int32.toInt (show FIj461 121 13 = x24 from kp464); have := congrArg Int32.toInt (show FIj461 121 67 = g465 from kp466); omega) (by have := congrArg Int32.toInt (show FIj461 121 13 = x24 from kp464); omega) (show rl_wx (FIj461 121 67) (FIj461 149) (FLj467 150) (FIj461 151) (g460).toInt from (by exact fc363_4)) (by omega)) ⟨rfl, rfl, trivial⟩
        have j474 : hw sk base (d + 2) none 212 35 [(0, .ref (base + 121)), (1, .int (y1)), (3, .int (y1))] [] (n, sl, SH, FIv9, FLv10, FR) (h_V (fun s => ∃ FI' FL', s = (n, sl, SH, FI', FL', FR) ∧ g_I FI' ∧ g_fr n SH [(121, 67)] [149, 151] [] FI FI' ∧ g_fr n SH [] [150] [] FL FL' ∧ (1 ≤ (FI' 121 67).toInt) ∧ (rl_e (FI' 149) (FI' 121 67)) ∧ (rl_w (FI' 121 67) (FI' 149) (FL' 150) (FI' 151)) ∧ (rl_t (FI' 149) (FL' 150)))) := by
          refine xw_iloadn (aX12_tokens 21 rfl) rfl ?_
          refine hw_ic (v := (1 : Int32)) (aX12_tokens 22 rfl) (by decide) ?_
          refine xw_iadd (aX12_tokens 23 rfl) ?_
          refine hw_tie (A := ((y1).toInt) + (1)) (i_add rfl (by decide : (1 : Int32).toInt = 1) (by omega) (by omega)) (fun x475 e476 => ?_)
          refine xw_istoren (L2 := [(1, .int (x475)), (0, .ref (base + 121)), (3, .int (y1))]) (aX12_tokens 24 rfl) (by decide) rfl ?_
          refine xw_goto (tgt := 363) (aX12_tokens 25 rfl) (by decide) ?_
          exact hw_L (j471 (x475) (x21) FIv9 FLv10 (by have := (e476 : (x475).toInt = ((y1).toInt) + (1)); show 0 ≤ (x475).toInt ∧ (x475).toInt ≤ 1002; omega) fr11 hI13 (show FIv9 121 13 = x24 from h25) (show FIv9 121 67 = x21 from h22) (by show 0 ≤ (x21).toInt ∧ (x21).toInt ≤ 1001; omega) fr12 (show rl_t (FIv9 149) (FLv10 150) from rl14) (show rl_w (FIv9 121 67) (FIv9 149) (FLv10 150) (FIv9 151) from rl15) (by have := (e476 : (x475).toInt = ((y1).toInt) + (1)); show (x21).toInt ≤ (x475).toInt; omega) (by show (x21).toInt ≤ (x24).toInt; omega) (by have := (e476 : (x475).toInt = ((y1).toInt) + (1)); show (y1).toInt < (x475).toInt; omega) (by have := (e476 : (x475).toInt = ((y1).toInt) + (1)); show (x475).toInt ≤ (x24).toInt; omega) (show rl_wx (FIv9 121 67) (FIv9 149) (FLv10 150) (FIv9 151) (x475).toInt from (rl_wx_le xi7_0 (by have := (e476 : (x475).toInt = ((y1).toInt) + (1)); omega)))) ⟨rfl, rfl, rfl, trivial⟩
        refine hw_iceq (tgt := 35) (aX12_tokens 17 rfl) (by decide) rfl (by decide : (32 : Int32).toInt = 32) (fun cd477 => ?_) (fun cd477 => ?_)
        · exact hw_L (j474) ⟨rfl, rfl, rfl, trivial⟩
        · refine xw_iloadn (aX12_tokens 18 rfl) rfl ?_
          refine hw_bp (v := (10 : Int32)) (aX12_tokens 19 rfl) (by decide) ?_
          refine hw_icne (tgt := 42) (aX12_tokens 20 rfl) (by decide) rfl (by decide : (10 : Int32).toInt = 10) (fun cd478 => ?_) (fun cd478 => ?_)
          · refine hw_aloadn (aX12_tokens 26 rfl) rfl ?_
            refine xw_iloadn (aX12_tokens 27 rfl) rfl ?_
            refine hw_callV (Bs := [.int (r48)]) (rest := []) (aX12_tokens 28 rfl) wc_RX12_423 (by decide) rfl wi_yX12_isSmall wv_yX12_isSmall (c121 hS) (s121 hS) rfl rfl rfl (Nat.le_of_ble_eq_true rfl) (Nat.le_of_ble_eq_true rfl) (n_isSmall (d := d + 1) hS hF hI13 (r48) ) (fun v479 sv480 p481 => ?_)
            obtain ⟨r482, rfl, rfl, t484, t485, t486⟩ := p481
            show hw sk base _ _ _ _ _ [.int (r482)] _ _
            refine hw_ifeq (tgt := 187) (aX12_tokens 29 rfl) (by decide) rfl (fun cd487 => ?_) (fun cd487 => ?_)
            · clear t484
              replace t485 := t485 (by omega)
              refine hw_aloadn (aX12_tokens 106 rfl) rfl ?_
              refine xw_iloadn (aX12_tokens 107 rfl) rfl ?_
              refine hw_callV (Bs := [.int (r48)]) (rest := []) (aX12_tokens 108 rfl) wc_RX12_452 (by decide) rfl wi_yX12_isDigit wv_yX12_isDigit (c121 hS) (s121 hS) rfl rfl rfl (Nat.le_of_ble_eq_true rfl) (Nat.le_of_ble_eq_true rfl) (n_isDigit (d := d + 1) hS hF hI13 (r48) ) (fun v488 sv489 p490 => ?_)
              obtain ⟨r491, rfl, rfl, t493, t494, t495⟩ := p490
              show hw sk base _ _ _ _ _ [.int (r491)] _ _
              refine hw_ifeq (tgt := 280) (aX12_tokens 109 rfl) (by decide) rfl (fun cd496 => ?_) (fun cd496 => ?_)
              · clear t493
                replace t494 := t494 (by omega)
                refine xw_iloadn (aX12_tokens 158 rfl) rfl ?_
                refine hw_bp (v := (64 : Int32)) (aX12_tokens 159 rfl) (by decide) ?_
                refine hw_icne (tgt := 354) (aX12_tokens 160 rfl) (by decide) rfl (by decide : (64 : Int32).toInt = 64) (fun cd497 => ?_) (fun cd497 => ?_)
                · refine xw_iloadn (aX12_tokens 198 rfl) rfl ?_
                  refine hw_aloadn (aX12_tokens 199 rfl) rfl ?_
                  refine xw_iloadn (aX12_tokens 200 rfl) rfl ?_
                  refine xw_iloadn (aX12_tokens 201 rfl) rfl ?_
                  refine hw_callV (Bs := [.int (r48), .int (y1)]) (rest := [.int (y1)]) (aX12_tokens 202 rfl) wc_RX12_472 (by decide) rfl wi_yX12_signs wv_yX12_signs (c121 hS) (s121 hS) rfl rfl rfl (Nat.le_of_ble_eq_true rfl) (Nat.le_of_ble_eq_true rfl) (n_signs (d := d) hS hF hI13 (r48) (y1) (by have := congrArg Int32.toInt (show FIv9 121 67 = x21 from h22); omega) (by have := congrArg Int32.toInt (show FIv9 121 13 = x24 from h25); omega) (by omega) (by omega) (xi7_0) (show rl_t (FIv9 149) (FLv10 150) from rl14) (show rl_w (FIv9 121 67) (FIv9 149) (FLv10 150) (FIv9 151) from rl15)) (fun v498 sv499 p500 => ?_)
                  have := congrArg Int32.toInt (show FIv9 121 67 = x21 from h22)
                  have := congrArg Int32.toInt (show FIv9 121 13 = x24 from h25)
                  obtain ⟨r501, rfl, FI502, FL503, rfl, hI504, f505, f506, t507, t508, t509, u510, rl511, rl512⟩ := p500
                  have rg_r501 := i_rng r501
                  obtain ⟨x513, h514⟩ : ∃ y, FI502 121 67 = y := ⟨_, rfl⟩
                  have h514l := congrArg Int32.toInt h514
                  have b515 := gI_121_67 hI504; rw [h514] at b515
                  show hw sk base _ _ _ _ _ [.int (r501), .int (y1)] _ _
                  refine xw_iadd (aX12_tokens 203 rfl) ?_
                  refine hw_tie (A := ((y1).toInt) + ((r501).toInt)) (i_add rfl rfl (by omega) (by omega)) (fun x516 e517 => ?_)
                  refine xw_istoren (L2 := [(1, .int (x516)), (3, .int (y1)), (2, .int (r48)), (0, .ref (base + 121))]) (aX12_tokens 204 rfl) (by decide) rfl ?_
                  exact hw_L (j471 (x516) (x513) FI502 FL503 (by have := (e517 : (x516).toInt = ((y1).toInt) + ((r501).toInt)); show 0 ≤ (x516).toInt ∧ (x516).toInt ≤ 1002; omega) (gf_tr ex_rf fr11 f505 rfl rfl rfl) hI504 (show FI502 121 13 = x24 from (gf_at f505 (c121 hS) (s121 hS) rfl (h25))) (show FI502 121 67 = x513 from h514) (by show 0 ≤ (x513).toInt ∧ (x513).toInt ≤ 1001; omega) (gf_tr ex_rf fr12 f506 rfl rfl rfl) (show rl_t (FI502 149) (FL503 150) from rl511) (show rl_w (FI502 121 67) (FI502 149) (FL503 150) (FI502 151) from rl512) (by have := (e517 : (x516).toInt = ((y1).toInt) + ((r501).toInt)); show (x513).toInt ≤ (x516).toInt; omega) (by show (x513).toInt ≤ (x24).toInt; omega) (by have := (e517 : (x516).toInt = ((y1).toInt) + ((r501).toInt)); show (y1).toInt < (x516).toInt; omega) (by have := (e517 : (x516).toInt = ((y1).toInt) + ((r501).toInt)); show (x516).toInt ≤ (x24).toInt; omega) (show rl_wx (FI502 121 67) (FI502 149) (FL503 150) (FI502 151) (x516).toInt from (rl_wx_le u510 (by have := (e517 : (x516).toInt = ((y1).toInt) + ((r501).toInt)); omega)))) ⟨rfl, rfl, rfl, trivial⟩
                · refine hw_aloadn (aX12_tokens 161 rfl) rfl ?_
                  refine xw_iloadn (aX12_tokens 162 rfl) rfl ?_
                  refine hw_ic (v := (1 : Int32)) (aX12_tokens 163 rfl) (by decide) ?_
                  refine xw_iadd (aX12_tokens 164 rfl) ?_
                  refine hw_tie (A := ((y1).toInt) + (1)) (i_add rfl (by decide : (1 : Int32).toInt = 1) (by omega) (by omega)) (fun x518 e519 => ?_)
                  refine hw_callV (Bs := [.int (x518)]) (rest := []) (aX12_tokens 165 rfl) wc_RX12_449 (by decide) rfl wi_yX12_sign wv_yX12_sign (c121 hS) (s121 hS) rfl rfl rfl (Nat.le_of_ble_eq_true rfl) (Nat.le_of_ble_eq_true rfl) (n_sign (d := d + 1) hS hF hI13 (x518) (by have := (e519 : (x518).toInt = ((y1).toInt) + (1)); have := (e519 : (x518).toInt = ((y1).toInt) + (1)); omega)) (fun v520 sv521 p522 => ?_)
                  have := (e519 : (x518).toInt = ((y1).toInt) + (1))
                  have := congrArg Int32.toInt (show FIv9 121 13 = x24 from h25)
                  obtain ⟨r523, rfl, rfl, t525, t526, u527⟩ := p522
                  have rg_r523 := i_rng r523
                  show hw sk base _ _ _ _ _ [.int (r523)] _ _
                  refine xw_istore (L2 := [(4, .int (r523)), (3, .int (y1)), (2, .int (r48)), (1, .int (y1)), (0, .ref (base + 121))]) (aX12_tokens 166 rfl) (by decide) rfl ?_
                  refine xw_iload (aX12_tokens 167 rfl) rfl ?_
                  refine hw_bp (v := (49 : Int32)) (aX12_tokens 168 rfl) (by decide) ?_
                  refine hw_iclt (tgt := 313) (aX12_tokens 169 rfl) (by decide) rfl (by decide : (49 : Int32).toInt = 49) (fun cd528 => ?_) (fun cd528 => ?_)
                  · refine hw_ic (v := (0 : Int32)) (aX12_tokens 175 rfl) (by decide) ?_
                    refine xw_istore (L2 := [(5, .int ((0 : Int32))), (4, .int (r523)), (3, .int (y1)), (2, .int (r48)), (1, .int (y1)), (0, .ref (base + 121))]) (aX12_tokens 176 rfl) (by decide) rfl ?_
                    refine hw_aloadn (aX12_tokens 177 rfl) rfl ?_
                    refine xw_iload (aX12_tokens 178 rfl) rfl ?_
                    refine hw_ifeq (tgt := 326) (aX12_tokens 179 rfl) (by decide) (by decide : (0 : Int32).toInt = 0) (fun cd529 => ?_) (fun cd529 => ?_)
                    · refine hw_bp (v := (6 : Int32)) (aX12_tokens 182 rfl) (by decide) ?_
                      refine xw_iload (aX12_tokens 183 rfl) rfl ?_
                      refine hw_bp (v := (48 : Int32)) (aX12_tokens 184 rfl) (by decide) ?_
                      refine xw_isub (aX12_tokens 185 rfl) ?_
                      refine hw_tie (A := ((r523).toInt) - (48)) (i_sub rfl (by decide : (48 : Int32).toInt = 48) (by omega) (by omega)) (fun x530 e531 => ?_)
                      refine xw_i2l (aX12_tokens 186 rfl) ?_
                      refine hw_tle (A := ((r523).toInt) - (48)) (i_2l e531) (fun x532 e533 => ?_)
                      refine xw_iloadn (aX12_tokens 187 rfl) rfl ?_
                      refine hw_callV (Bs := [.int ((6 : Int32)), .long (x532), .int (y1)]) (rest := []) (aX12_tokens 188 rfl) wc_RX12_457 (by decide) rfl wi_yX12_token wv_yX12_token (c121 hS) (s121 hS) rfl rfl rfl (Nat.le_of_ble_eq_true rfl) (Nat.le_of_ble_eq_true rfl) (n_token (d := d + 1) hS hF hI13 ((6 : Int32)) (x532) (y1) (by have := congrArg Int32.toInt (show FIv9 121 67 = x21 from h22); omega) (by have := ((by decide : (6 : Int32).toInt = 6) : ((6 : Int32)).toInt = 6); have := (e533 : (x532).toInt = ((r523).toInt) - (48)); have := (e533 : (x532).toInt = ((r523).toInt) - (48)); omega) (by have := ((by decide : (6 : Int32).toInt = 6) : ((6 : Int32)).toInt = 6); have := (e533 : (x532).toInt = ((r523).toInt) - (48)); have := (e533 : (x532).toInt = ((r523).toInt) - (48)); omega) (by omega) (xi7_0) (show rl_t (FIv9 149) (FLv10 150) from rl14) (show rl_w (FIv9 121 67) (FIv9 149) (FLv10 150) (FIv9 151) from rl15)) (fun v534 sv535 p536 => ?_)
                      have := congrArg Int32.toInt (show FIv9 121 67 = x21 from h22)
                      obtain ⟨rfl, FI538, FL539, rfl, hI540, f541, f542, t543, u544, u545, rl546, rl547⟩ := p536
                      obtain ⟨x548, h549⟩ : ∃ y, FI538 121 67 = y := ⟨_, rfl⟩
                      have h549l := congrArg Int32.toInt h549
                      have b550 := gI_121_67 hI540; rw [h549] at b550
                      show hw sk base _ _ _ _ _ [] _ _
                      refine xw_iloadn (aX12_tokens 189 rfl) rfl ?_
                      refine xw_iload (aX12_tokens 190 rfl) rfl ?_
                      refine hw_ifeq (tgt := 348) (aX12_tokens 191 rfl) (by decide) (by decide : (0 : Int32).toInt = 0) (fun cd551 => ?_) (fun cd551 => ?_)
                      · refine hw_ic (v := (1 : Int32)) (aX12_tokens 194 rfl) (by decide) ?_
                        refine xw_iadd (aX12_tokens 195 rfl) ?_
                        refine hw_tie (A := ((y1).toInt) + (1)) (i_add rfl (by decide : (1 : Int32).toInt = 1) (by omega) (by omega)) (fun x552 e553 => ?_)
                        refine xw_istoren (L2 := [(1, .int (x552)), (5, .int ((0 : Int32))), (4, .int (r523)), (3, .int (y1)), (2, .int (r48)), (0, .ref (base + 121))]) (aX12_tokens 196 rfl) (by decide) rfl ?_
                        refine xw_goto (tgt := 363) (aX12_tokens 197 rfl) (by decide) ?_
                        exact hw_L (j471 (x552) (x548) FI538 FL539 (by have := (e553 : (x552).toInt = ((y1).toInt) + (1)); show 0 ≤ (x552).toInt ∧ (x552).toInt ≤ 1002; omega) (gf_tr ex_rf fr11 f541 rfl rfl rfl) hI540 (show FI538 121 13 = x24 from (gf_at f541 (c121 hS) (s121 hS) rfl (h25))) (show FI538 121 67 = x548 from h549) (by show 0 ≤ (x548).toInt ∧ (x548).toInt ≤ 1001; omega) (gf_tr ex_rf fr12 f542 rfl rfl rfl) (show rl_t (FI538 149) (FL539 150) from rl546) (show rl_w (FI538 121 67) (FI538 149) (FL539 150) (FI538 151) from rl547) (by have := (e553 : (x552).toInt = ((y1).toInt) + (1)); show (x548).toInt ≤ (x552).toInt; omega) (by show (x548).toInt ≤ (x24).toInt; omega) (by have := (e553 : (x552).toInt = ((y1).toInt) + (1)); show (y1).toInt < (x552).toInt; omega) (by have := (e553 : (x552).toInt = ((y1).toInt) + (1)); show (x552).toInt ≤ (x24).toInt; omega) (show rl_wx (FI538 121 67) (FI538 149) (FL539 150) (FI538 151) (x552).toInt from (u545 _ (by have hw := wl_le (k := ((6 : Int32)).toInt) (w := (x532).toInt) (n := 1) (by omega) (fun h => absurd h.1 (by decide)) (fun h => absurd h.1 (by decide)); have := (e553 : (x552).toInt = ((y1).toInt) + (1)); omega)))) ⟨rfl, rfl, rfl, trivial⟩
                      · omega
                    · omega
                  · refine xw_iload (aX12_tokens 170 rfl) rfl ?_
                    refine hw_bp (v := (56 : Int32)) (aX12_tokens 171 rfl) (by decide) ?_
                    refine hw_icgt (tgt := 313) (aX12_tokens 172 rfl) (by decide) rfl (by decide : (56 : Int32).toInt = 56) (fun cd554 => ?_) (fun cd554 => ?_)
                    · refine hw_ic (v := (0 : Int32)) (aX12_tokens 175 rfl) (by decide) ?_
                      refine xw_istore (L2 := [(5, .int ((0 : Int32))), (4, .int (r523)), (3, .int (y1)), (2, .int (r48)), (1, .int (y1)), (0, .ref (base + 121))]) (aX12_tokens 176 rfl) (by decide) rfl ?_
                      refine hw_aloadn (aX12_tokens 177 rfl) rfl ?_
                      refine xw_iload (aX12_tokens 178 rfl) rfl ?_
                      refine hw_ifeq (tgt := 326) (aX12_tokens 179 rfl) (by decide) (by decide : (0 : Int32).toInt = 0) (fun cd555 => ?_) (fun cd555 => ?_)
                      · refine hw_bp (v := (6 : Int32)) (aX12_tokens 182 rfl) (by decide) ?_
                        refine xw_iload (aX12_tokens 183 rfl) rfl ?_
                        refine hw_bp (v := (48 : Int32)) (aX12_tokens 184 rfl) (by decide) ?_
                        refine xw_isub (aX12_tokens 185 rfl) ?_
                        refine hw_tie (A := ((r523).toInt) - (48)) (i_sub rfl (by decide : (48 : Int32).toInt = 48) (by omega) (by omega)) (fun x556 e557 => ?_)
                        refine xw_i2l (aX12_tokens 186 rfl) ?_
                        refine hw_tle (A := ((r523).toInt) - (48)) (i_2l e557) (fun x558 e559 => ?_)
                        refine xw_iloadn (aX12_tokens 187 rfl) rfl ?_
                        refine hw_callV (Bs := [.int ((6 : Int32)), .long (x558), .int (y1)]) (rest := []) (aX12_tokens 188 rfl) wc_RX12_457 (by decide) rfl wi_yX12_token wv_yX12_token (c121 hS) (s121 hS) rfl rfl rfl (Nat.le_of_ble_eq_true rfl) (Nat.le_of_ble_eq_true rfl) (n_token (d := d + 1) hS hF hI13 ((6 : Int32)) (x558) (y1) (by have := congrArg Int32.toInt (show FIv9 121 67 = x21 from h22); omega) (by have := ((by decide : (6 : Int32).toInt = 6) : ((6 : Int32)).toInt = 6); have := (e559 : (x558).toInt = ((r523).toInt) - (48)); have := (e559 : (x558).toInt = ((r523).toInt) - (48)); omega) (by have := ((by decide : (6 : Int32).toInt = 6) : ((6 : Int32)).toInt = 6); have := (e559 : (x558).toInt = ((r523).toInt) - (48)); have := (e559 : (x558).toInt = ((r523).toInt) - (48)); omega) (by omega) (xi7_0) (show rl_t (FIv9 149) (FLv10 150) from rl14) (show rl_w (FIv9 121 67) (FIv9 149) (FLv10 150) (FIv9 151) from rl15)) (fun v560 sv561 p562 => ?_)
                        have := congrArg Int32.toInt (show FIv9 121 67 = x21 from h22)
                        obtain ⟨rfl, FI564, FL565, rfl, hI566, f567, f568, t569, u570, u571, rl572, rl573⟩ := p562
                        obtain ⟨x574, h575⟩ : ∃ y, FI564 121 67 = y := ⟨_, rfl⟩
                        have h575l := congrArg Int32.toInt h575
                        have b576 := gI_121_67 hI566; rw [h575] at b576
                        show hw sk base _ _ _ _ _ [] _ _
                        refine xw_iloadn (aX12_tokens 189 rfl) rfl ?_
                        refine xw_iload (aX12_tokens 190 rfl) rfl ?_
                        refine hw_ifeq (tgt := 348) (aX12_tokens 191 rfl) (by decide) (by decide : (0 : Int32).toInt = 0) (fun cd577 => ?_) (fun cd577 => ?_)
                        · refine hw_ic (v := (1 : Int32)) (aX12_tokens 194 rfl) (by decide) ?_
                          refine xw_iadd (aX12_tokens 195 rfl) ?_
                          refine hw_tie (A := ((y1).toInt) + (1)) (i_add rfl (by decide : (1 : Int32).toInt = 1) (by omega) (by omega)) (fun x578 e579 => ?_)
                          refine xw_istoren (L2 := [(1, .int (x578)), (5, .int ((0 : Int32))), (4, .int (r523)), (3, .int (y1)), (2, .int (r48)), (0, .ref (base + 121))]) (aX12_tokens 196 rfl) (by decide) rfl ?_
                          refine xw_goto (tgt := 363) (aX12_tokens 197 rfl) (by decide) ?_
                          exact hw_L (j471 (x578) (x574) FI564 FL565 (by have := (e579 : (x578).toInt = ((y1).toInt) + (1)); show 0 ≤ (x578).toInt ∧ (x578).toInt ≤ 1002; omega) (gf_tr ex_rf fr11 f567 rfl rfl rfl) hI566 (show FI564 121 13 = x24 from (gf_at f567 (c121 hS) (s121 hS) rfl (h25))) (show FI564 121 67 = x574 from h575) (by show 0 ≤ (x574).toInt ∧ (x574).toInt ≤ 1001; omega) (gf_tr ex_rf fr12 f568 rfl rfl rfl) (show rl_t (FI564 149) (FL565 150) from rl572) (show rl_w (FI564 121 67) (FI564 149) (FL565 150) (FI564 151) from rl573) (by have := (e579 : (x578).toInt = ((y1).toInt) + (1)); show (x574).toInt ≤ (x578).toInt; omega) (by show (x574).toInt ≤ (x24).toInt; omega) (by have := (e579 : (x578).toInt = ((y1).toInt) + (1)); show (y1).toInt < (x578).toInt; omega) (by have := (e579 : (x578).toInt = ((y1).toInt) + (1)); show (x578).toInt ≤ (x24).toInt; omega) (show rl_wx (FI564 121 67) (FI564 149) (FL565 150) (FI564 151) (x578).toInt from (u571 _ (by have hw := wl_le (k := ((6 : Int32)).toInt) (w := (x558).toInt) (n := 1) (by omega) (fun h => absurd h.1 (by decide)) (fun h => absurd h.1 (by decide)); have := (e579 : (x578).toInt = ((y1).toInt) + (1)); omega)))) ⟨rfl, rfl, rfl, trivial⟩
                        · omega
                      · omega
                    · refine hw_ic (v := (1 : Int32)) (aX12_tokens 173 rfl) (by decide) ?_
                      refine xw_goto (tgt := 314) (aX12_tokens 174 rfl) (by decide) ?_
                      refine xw_istore (L2 := [(5, .int ((1 : Int32))), (4, .int (r523)), (3, .int (y1)), (2, .int (r48)), (1, .int (y1)), (0, .ref (base + 121))]) (aX12_tokens 176 rfl) (by decide) rfl ?_
                      refine hw_aloadn (aX12_tokens 177 rfl) rfl ?_
                      refine xw_iload (aX12_tokens 178 rfl) rfl ?_
                      refine hw_ifeq (tgt := 326) (aX12_tokens 179 rfl) (by decide) (by decide : (1 : Int32).toInt = 1) (fun cd580 => ?_) (fun cd580 => ?_)
                      · omega
                      · refine hw_ic (v := (4 : Int32)) (aX12_tokens 180 rfl) (by decide) ?_
                        refine xw_goto (tgt := 328) (aX12_tokens 181 rfl) (by decide) ?_
                        refine xw_iload (aX12_tokens 183 rfl) rfl ?_
                        refine hw_bp (v := (48 : Int32)) (aX12_tokens 184 rfl) (by decide) ?_
                        refine xw_isub (aX12_tokens 185 rfl) ?_
                        refine hw_tie (A := ((r523).toInt) - (48)) (i_sub rfl (by decide : (48 : Int32).toInt = 48) (by omega) (by omega)) (fun x581 e582 => ?_)
                        refine xw_i2l (aX12_tokens 186 rfl) ?_
                        refine hw_tle (A := ((r523).toInt) - (48)) (i_2l e582) (fun x583 e584 => ?_)
                        refine xw_iloadn (aX12_tokens 187 rfl) rfl ?_
                        refine hw_callV (Bs := [.int ((4 : Int32)), .long (x583), .int (y1)]) (rest := []) (aX12_tokens 188 rfl) wc_RX12_457 (by decide) rfl wi_yX12_token wv_yX12_token (c121 hS) (s121 hS) rfl rfl rfl (Nat.le_of_ble_eq_true rfl) (Nat.le_of_ble_eq_true rfl) (n_token (d := d + 1) hS hF hI13 ((4 : Int32)) (x583) (y1) (by have := congrArg Int32.toInt (show FIv9 121 67 = x21 from h22); omega) (by have := ((by decide : (4 : Int32).toInt = 4) : ((4 : Int32)).toInt = 4); have := (e584 : (x583).toInt = ((r523).toInt) - (48)); have := (e584 : (x583).toInt = ((r523).toInt) - (48)); omega) (by have := ((by decide : (4 : Int32).toInt = 4) : ((4 : Int32)).toInt = 4); have := (e584 : (x583).toInt = ((r523).toInt) - (48)); have := (e584 : (x583).toInt = ((r523).toInt) - (48)); omega) (by omega) (xi7_0) (show rl_t (FIv9 149) (FLv10 150) from rl14) (show rl_w (FIv9 121 67) (FIv9 149) (FLv10 150) (FIv9 151) from rl15)) (fun v585 sv586 p587 => ?_)
                        have := congrArg Int32.toInt (show FIv9 121 67 = x21 from h22)
                        obtain ⟨rfl, FI589, FL590, rfl, hI591, f592, f593, t594, u595, u596, rl597, rl598⟩ := p587
                        obtain ⟨x599, h600⟩ : ∃ y, FI589 121 67 = y := ⟨_, rfl⟩
                        have h600l := congrArg Int32.toInt h600
                        have b601 := gI_121_67 hI591; rw [h600] at b601
                        show hw sk base _ _ _ _ _ [] _ _
                        refine xw_iloadn (aX12_tokens 189 rfl) rfl ?_
                        refine xw_iload (aX12_tokens 190 rfl) rfl ?_
                        refine hw_ifeq (tgt := 348) (aX12_tokens 191 rfl) (by decide) (by decide : (1 : Int32).toInt = 1) (fun cd602 => ?_) (fun cd602 => ?_)
                        · omega
                        · refine hw_ic (v := (2 : Int32)) (aX12_tokens 192 rfl) (by decide) ?_
                          refine xw_goto (tgt := 349) (aX12_tokens 193 rfl) (by decide) ?_
                          refine xw_iadd (aX12_tokens 195 rfl) ?_
                          refine hw_tie (A := ((y1).toInt) + (2)) (i_add rfl (by decide : (2 : Int32).toInt = 2) (by omega) (by omega)) (fun x603 e604 => ?_)
                          refine xw_istoren (L2 := [(1, .int (x603)), (5, .int ((1 : Int32))), (4, .int (r523)), (3, .int (y1)), (2, .int (r48)), (0, .ref (base + 121))]) (aX12_tokens 196 rfl) (by decide) rfl ?_
                          refine xw_goto (tgt := 363) (aX12_tokens 197 rfl) (by decide) ?_
                          exact hw_L (j471 (x603) (x599) FI589 FL590 (by have := (e604 : (x603).toInt = ((y1).toInt) + (2)); show 0 ≤ (x603).toInt ∧ (x603).toInt ≤ 1002; omega) (gf_tr ex_rf fr11 f592 rfl rfl rfl) hI591 (show FI589 121 13 = x24 from (gf_at f592 (c121 hS) (s121 hS) rfl (h25))) (show FI589 121 67 = x599 from h600) (by show 0 ≤ (x599).toInt ∧ (x599).toInt ≤ 1001; omega) (gf_tr ex_rf fr12 f593 rfl rfl rfl) (show rl_t (FI589 149) (FL590 150) from rl597) (show rl_w (FI589 121 67) (FI589 149) (FL590 150) (FI589 151) from rl598) (by have := (e604 : (x603).toInt = ((y1).toInt) + (2)); show (x599).toInt ≤ (x603).toInt; omega) (by show (x599).toInt ≤ (x24).toInt; omega) (by have := (e604 : (x603).toInt = ((y1).toInt) + (2)); show (y1).toInt < (x603).toInt; omega) (by have := (e604 : (x603).toInt = ((y1).toInt) + (2)); show (x603).toInt ≤ (x24).toInt; omega) (show rl_wx (FI589 121 67) (FI589 149) (FL590 150) (FI589 151) (x603).toInt from (u596 _ (by have hw := wl_le (k := ((4 : Int32)).toInt) (w := (x583).toInt) (n := 1) (by omega) (fun h => absurd h.1 (by decide)) (fun h => absurd h.1 (by decide)); have := (e604 : (x603).toInt = ((y1).toInt) + (2)); omega)))) ⟨rfl, rfl, rfl, trivial⟩
              · replace t493 := t493 (by omega)
                clear t494
                refine hw_lc (v := (0 : Int64)) (aX12_tokens 110 rfl) (by decide) ?_
                refine xw_lstore (L2 := [(4, .long ((0 : Int64))), (3, .int (y1)), (2, .int (r48)), (1, .int (y1)), (0, .ref (base + 121))]) (aX12_tokens 111 rfl) (by decide) rfl ?_
                have lp610 : ∀ (m : Nat) (y4 : Int64) (y1_605 : Int32), (0 ≤ (y1_605).toInt ∧ (y1_605).toInt ≤ 1000) → (0 ≤ (y4).toInt ∧ (y4).toInt ≤ 999999999999999999) → ((y1).toInt ≤ (y1_605).toInt) → ((y1_605).toInt ≤ (x24).toInt) → ((y4).toInt < t10 ((y1_605).toInt - (y1).toInt)) → 1003 - (y1_605).toInt < m → hw sk base (d + 2) none 212 198 [(4, .long (y4)), (3, .int (y1)), (1, .int (y1_605)), (0, .ref (base + 121))] [] (n, sl, SH, FIv9, FLv10, FR) (h_V (fun s => ∃ FI' FL', s = (n, sl, SH, FI', FL', FR) ∧ g_I FI' ∧ g_fr n SH [(121, 67)] [149, 151] [] FI FI' ∧ g_fr n SH [] [150] [] FL FL' ∧ (1 ≤ (FI' 121 67).toInt) ∧ (rl_e (FI' 149) (FI' 121 67)) ∧ (rl_w (FI' 121 67) (FI' 149) (FL' 150) (FI' 151)) ∧ (rl_t (FI' 149) (FL' 150)))) := by
                  intro m
                  induction m with
                  | zero => intro y4 y1_605 iv606 iv607 iv608 iv609 xi198_0 hm; omega
                  | succ m ih198 =>
                    intro y4 y1_605 iv606 iv607 iv608 iv609 xi198_0 hm
                    have rg_y4 := l_rng y4
                    have rg_y1_605 := i_rng y1_605
                    refine hw_aloadn (aX12_tokens 112 rfl) rfl ?_
                    refine hw_aloadn (aX12_tokens 113 rfl) rfl ?_
                    refine xw_iloadn (aX12_tokens 114 rfl) rfl ?_
                    refine hw_callV (Bs := [.int (y1_605)]) (rest := [.ref (base + 121)]) (aX12_tokens 115 rfl) wc_RX12_449 (by decide) rfl wi_yX12_sign wv_yX12_sign (c121 hS) (s121 hS) rfl rfl rfl (Nat.le_of_ble_eq_true rfl) (Nat.le_of_ble_eq_true rfl) (n_sign (d := d + 1) hS hF hI13 (y1_605) (by omega)) (fun v611 sv612 p613 => ?_)
                    have := congrArg Int32.toInt (show FIv9 121 13 = x24 from h25)
                    obtain ⟨r614, rfl, rfl, t616, t617, u618⟩ := p613
                    have rg_r614 := i_rng r614
                    show hw sk base _ _ _ _ _ [.int (r614), .ref (base + 121)] _ _
                    refine hw_callV (Bs := [.int (r614)]) (rest := []) (aX12_tokens 116 rfl) wc_RX12_452 (by decide) rfl wi_yX12_isDigit wv_yX12_isDigit (c121 hS) (s121 hS) rfl rfl rfl (Nat.le_of_ble_eq_true rfl) (Nat.le_of_ble_eq_true rfl) (n_isDigit (d := d + 1) hS hF hI13 (r614) ) (fun v619 sv620 p621 => ?_)
                    obtain ⟨r622, rfl, rfl, t624, t625, t626⟩ := p621
                    show hw sk base _ _ _ _ _ [.int (r622)] _ _
                    refine hw_ifeq (tgt := 244) (aX12_tokens 117 rfl) (by decide) rfl (fun cd627 => ?_) (fun cd627 => ?_)
                    · clear t624
                      replace t625 := t625 (by omega)
                      have hs : (y1_605).toInt = (y1).toInt → (r614).toInt = (r48).toInt := fun e => by rw [u618 (by omega), u52 (by omega), i_eqv e]
                      have hp : (y1).toInt + 1 ≤ (y1_605).toInt := by omega
                      refine hw_aloadn (aX12_tokens 139 rfl) rfl ?_
                      refine xw_iloadn (aX12_tokens 140 rfl) rfl ?_
                      refine xw_iloadn (aX12_tokens 141 rfl) rfl ?_
                      refine xw_isub (aX12_tokens 142 rfl) ?_
                      refine hw_tie (A := ((y1_605).toInt) - ((y1).toInt)) (i_sub rfl rfl (by omega) (by omega)) (fun x628 e629 => ?_)
                      refine hw_bp (v := (18 : Int32)) (aX12_tokens 143 rfl) (by decide) ?_
                      refine hw_icgt (tgt := 265) (aX12_tokens 144 rfl) (by decide) e629 (by decide : (18 : Int32).toInt = 18) (fun cd630 => ?_) (fun cd630 => ?_)
                      · refine hw_bp (v := (6 : Int32)) (aX12_tokens 151 rfl) (by decide) ?_
                        refine xw_goto (tgt := 271) (aX12_tokens 152 rfl) (by decide) ?_
                        refine xw_lload (aX12_tokens 154 rfl) rfl ?_
                        refine xw_iloadn (aX12_tokens 155 rfl) rfl ?_
                        refine hw_callV (Bs := [.int ((6 : Int32)), .long (y4), .int (y1)]) (rest := []) (aX12_tokens 156 rfl) wc_RX12_457 (by decide) rfl wi_yX12_token wv_yX12_token (c121 hS) (s121 hS) rfl rfl rfl (Nat.le_of_ble_eq_true rfl) (Nat.le_of_ble_eq_true rfl) (n_token (d := d + 1) hS hF hI13 ((6 : Int32)) (y4) (y1) (by have := congrArg Int32.toInt (show FIv9 121 67 = x21 from h22); omega) (by have := ((by decide : (6 : Int32).toInt = 6) : ((6 : Int32)).toInt = 6); omega) (by have := ((by decide : (6 : Int32).toInt = 6) : ((6 : Int32)).toInt = 6); omega) (by omega) (xi7_0) (show rl_t (FIv9 149) (FLv10 150) from rl14) (show rl_w (FIv9 121 67) (FIv9 149) (FLv10 150) (FIv9 151) from rl15)) (fun v631 sv632 p633 => ?_)
                        have := congrArg Int32.toInt (show FIv9 121 67 = x21 from h22)
                        obtain ⟨rfl, FI635, FL636, rfl, hI637, f638, f639, t640, u641, u642, rl643, rl644⟩ := p633
                        obtain ⟨x645, h646⟩ : ∃ y, FI635 121 67 = y := ⟨_, rfl⟩
                        have h646l := congrArg Int32.toInt h646
                        have b647 := gI_121_67 hI637; rw [h646] at b647
                        show hw sk base _ _ _ _ _ [] _ _
                        refine xw_goto (tgt := 363) (aX12_tokens 157 rfl) (by decide) ?_
                        exact hw_L (j471 (y1_605) (x645) FI635 FL636 (by show 0 ≤ (y1_605).toInt ∧ (y1_605).toInt ≤ 1002; omega) (gf_tr ex_rf fr11 f638 rfl rfl rfl) hI637 (show FI635 121 13 = x24 from (gf_at f638 (c121 hS) (s121 hS) rfl (h25))) (show FI635 121 67 = x645 from h646) (by show 0 ≤ (x645).toInt ∧ (x645).toInt ≤ 1001; omega) (gf_tr ex_rf fr12 f639 rfl rfl rfl) (show rl_t (FI635 149) (FL636 150) from rl643) (show rl_w (FI635 121 67) (FI635 149) (FL636 150) (FI635 151) from rl644) (by show (x645).toInt ≤ (y1_605).toInt; omega) (by show (x645).toInt ≤ (x24).toInt; omega) (by show (y1).toInt < (y1_605).toInt; omega) (by show (y1_605).toInt ≤ (x24).toInt; omega) (show rl_wx (FI635 121 67) (FI635 149) (FL636 150) (FI635 151) (y1_605).toInt from (u642 _ (by have hw := wl_le (k := ((6 : Int32)).toInt) (w := (y4).toInt) (n := 1) (by omega) (fun h => absurd h.1 (by decide)) (fun h => absurd h.1 (by decide)); omega)))) ⟨rfl, rfl, rfl, trivial⟩
                      · refine hw_aloadn (aX12_tokens 145 rfl) rfl ?_
                        refine hw_aloadn (aX12_tokens 146 rfl) rfl ?_
                        refine xw_iloadn (aX12_tokens 147 rfl) rfl ?_
                        refine hw_callV (Bs := [.int (y1_605)]) (rest := [.ref (base + 121), .ref (base + 121)]) (aX12_tokens 148 rfl) wc_RX12_449 (by decide) rfl wi_yX12_sign wv_yX12_sign (c121 hS) (s121 hS) rfl rfl rfl (Nat.le_of_ble_eq_true rfl) (Nat.le_of_ble_eq_true rfl) (n_sign (d := d + 1) hS hF hI13 (y1_605) (by omega)) (fun v648 sv649 p650 => ?_)
                        have := congrArg Int32.toInt (show FIv9 121 13 = x24 from h25)
                        obtain ⟨r651, rfl, rfl, t653, t654, u655⟩ := p650
                        have rg_r651 := i_rng r651
                        show hw sk base _ _ _ _ _ [.int (r651), .ref (base + 121), .ref (base + 121)] _ _
                        refine hw_callV (Bs := [.int (r651)]) (rest := [.ref (base + 121)]) (aX12_tokens 149 rfl) wc_RX12_469 (by decide) rfl wi_yX12_isLetter wv_yX12_isLetter (c121 hS) (s121 hS) rfl rfl rfl (Nat.le_of_ble_eq_true rfl) (Nat.le_of_ble_eq_true rfl) (m_isLetter (d := d) hS hF (r651) ) (fun v656 sv657 p658 => ?_)
                        obtain ⟨r659, rfl, FI660, FL661, rfl, rfl, rfl, t664⟩ := p658
                        show hw sk base _ _ _ _ _ [.int (r659), .ref (base + 121)] _ _
                        refine hw_ifeq (tgt := 270) (aX12_tokens 150 rfl) (by decide) rfl (fun cd665 => ?_) (fun cd665 => ?_)
                        · refine hw_ic (v := (3 : Int32)) (aX12_tokens 153 rfl) (by decide) ?_
                          refine xw_lload (aX12_tokens 154 rfl) rfl ?_
                          refine xw_iloadn (aX12_tokens 155 rfl) rfl ?_
                          refine hw_callV (Bs := [.int ((3 : Int32)), .long (y4), .int (y1)]) (rest := []) (aX12_tokens 156 rfl) wc_RX12_457 (by decide) rfl wi_yX12_token wv_yX12_token (c121 hS) (s121 hS) rfl rfl rfl (Nat.le_of_ble_eq_true rfl) (Nat.le_of_ble_eq_true rfl) (n_token (d := d + 1) hS hF hI13 ((3 : Int32)) (y4) (y1) (by have := congrArg Int32.toInt (show FIv9 121 67 = x21 from h22); omega) (by have := ((by decide : (3 : Int32).toInt = 3) : ((3 : Int32)).toInt = 3); omega) (by have := ((by decide : (3 : Int32).toInt = 3) : ((3 : Int32)).toInt = 3); omega) (by omega) (xi7_0) (show rl_t (FIv9 149) (FLv10 150) from rl14) (show rl_w (FIv9 121 67) (FIv9 149) (FLv10 150) (FIv9 151) from rl15)) (fun v666 sv667 p668 => ?_)
                          have := congrArg Int32.toInt (show FIv9 121 67 = x21 from h22)
                          obtain ⟨rfl, FI670, FL671, rfl, hI672, f673, f674, t675, u676, u677, rl678, rl679⟩ := p668
                          obtain ⟨x680, h681⟩ : ∃ y, FI670 121 67 = y := ⟨_, rfl⟩
                          have h681l := congrArg Int32.toInt h681
                          have b682 := gI_121_67 hI672; rw [h681] at b682
                          show hw sk base _ _ _ _ _ [] _ _
                          refine xw_goto (tgt := 363) (aX12_tokens 157 rfl) (by decide) ?_
                          exact hw_L (j471 (y1_605) (x680) FI670 FL671 (by show 0 ≤ (y1_605).toInt ∧ (y1_605).toInt ≤ 1002; omega) (gf_tr ex_rf fr11 f673 rfl rfl rfl) hI672 (show FI670 121 13 = x24 from (gf_at f673 (c121 hS) (s121 hS) rfl (h25))) (show FI670 121 67 = x680 from h681) (by show 0 ≤ (x680).toInt ∧ (x680).toInt ≤ 1001; omega) (gf_tr ex_rf fr12 f674 rfl rfl rfl) (show rl_t (FI670 149) (FL671 150) from rl678) (show rl_w (FI670 121 67) (FI670 149) (FL671 150) (FI670 151) from rl679) (by show (x680).toInt ≤ (y1_605).toInt; omega) (by show (x680).toInt ≤ (x24).toInt; omega) (by show (y1).toInt < (y1_605).toInt; omega) (by show (y1_605).toInt ≤ (x24).toInt; omega) (show rl_wx (FI670 121 67) (FI670 149) (FL671 150) (FI670 151) (y1_605).toInt from (u677 _ (by have hw := wl_le (k := ((3 : Int32)).toInt) (w := (y4).toInt) (n := (y1_605).toInt - (y1).toInt) (by omega) (fun h => absurd h.1 (by decide)) (fun h => t10_3 xi198_0 h.2); omega)))) ⟨rfl, rfl, rfl, trivial⟩
                        · refine hw_bp (v := (6 : Int32)) (aX12_tokens 151 rfl) (by decide) ?_
                          refine xw_goto (tgt := 271) (aX12_tokens 152 rfl) (by decide) ?_
                          refine xw_lload (aX12_tokens 154 rfl) rfl ?_
                          refine xw_iloadn (aX12_tokens 155 rfl) rfl ?_
                          refine hw_callV (Bs := [.int ((6 : Int32)), .long (y4), .int (y1)]) (rest := []) (aX12_tokens 156 rfl) wc_RX12_457 (by decide) rfl wi_yX12_token wv_yX12_token (c121 hS) (s121 hS) rfl rfl rfl (Nat.le_of_ble_eq_true rfl) (Nat.le_of_ble_eq_true rfl) (n_token (d := d + 1) hS hF hI13 ((6 : Int32)) (y4) (y1) (by have := congrArg Int32.toInt (show FIv9 121 67 = x21 from h22); omega) (by have := ((by decide : (6 : Int32).toInt = 6) : ((6 : Int32)).toInt = 6); omega) (by have := ((by decide : (6 : Int32).toInt = 6) : ((6 : Int32)).toInt = 6); omega) (by omega) (xi7_0) (show rl_t (FIv9 149) (FLv10 150) from rl14) (show rl_w (FIv9 121 67) (FIv9 149) (FLv10 150) (FIv9 151) from rl15)) (fun v683 sv684 p685 => ?_)
                          have := congrArg Int32.toInt (show FIv9 121 67 = x21 from h22)
                          obtain ⟨rfl, FI687, FL688, rfl, hI689, f690, f691, t692, u693, u694, rl695, rl696⟩ := p685
                          obtain ⟨x697, h698⟩ : ∃ y, FI687 121 67 = y := ⟨_, rfl⟩
                          have h698l := congrArg Int32.toInt h698
                          have b699 := gI_121_67 hI689; rw [h698] at b699
                          show hw sk base _ _ _ _ _ [] _ _
                          refine xw_goto (tgt := 363) (aX12_tokens 157 rfl) (by decide) ?_
                          exact hw_L (j471 (y1_605) (x697) FI687 FL688 (by show 0 ≤ (y1_605).toInt ∧ (y1_605).toInt ≤ 1002; omega) (gf_tr ex_rf fr11 f690 rfl rfl rfl) hI689 (show FI687 121 13 = x24 from (gf_at f690 (c121 hS) (s121 hS) rfl (h25))) (show FI687 121 67 = x697 from h698) (by show 0 ≤ (x697).toInt ∧ (x697).toInt ≤ 1001; omega) (gf_tr ex_rf fr12 f691 rfl rfl rfl) (show rl_t (FI687 149) (FL688 150) from rl695) (show rl_w (FI687 121 67) (FI687 149) (FL688 150) (FI687 151) from rl696) (by show (x697).toInt ≤ (y1_605).toInt; omega) (by show (x697).toInt ≤ (x24).toInt; omega) (by show (y1).toInt < (y1_605).toInt; omega) (by show (y1_605).toInt ≤ (x24).toInt; omega) (show rl_wx (FI687 121 67) (FI687 149) (FL688 150) (FI687 151) (y1_605).toInt from (u694 _ (by have hw := wl_le (k := ((6 : Int32)).toInt) (w := (y4).toInt) (n := 1) (by omega) (fun h => absurd h.1 (by decide)) (fun h => absurd h.1 (by decide)); omega)))) ⟨rfl, rfl, rfl, trivial⟩
                    · replace t624 := t624 (by omega)
                      clear t625
                      refine xw_iloadn (aX12_tokens 118 rfl) rfl ?_
                      refine xw_iloadn (aX12_tokens 119 rfl) rfl ?_
                      refine xw_isub (aX12_tokens 120 rfl) ?_
                      refine hw_tie (A := ((y1_605).toInt) - ((y1).toInt)) (i_sub rfl rfl (by omega) (by omega)) (fun x700 e701 => ?_)
                      refine hw_bp (v := (18 : Int32)) (aX12_tokens 121 rfl) (by decide) ?_
                      refine hw_icge (tgt := 237) (aX12_tokens 122 rfl) (by decide) e701 (by decide : (18 : Int32).toInt = 18) (fun cd702 => ?_) (fun cd702 => ?_)
                      · refine xw_iloadn (aX12_tokens 134 rfl) rfl ?_
                        refine hw_ic (v := (1 : Int32)) (aX12_tokens 135 rfl) (by decide) ?_
                        refine xw_iadd (aX12_tokens 136 rfl) ?_
                        refine hw_tie (A := ((y1_605).toInt) + (1)) (i_add rfl (by decide : (1 : Int32).toInt = 1) (by omega) (by omega)) (fun x703 e704 => ?_)
                        refine xw_istoren (L2 := [(1, .int (x703)), (4, .long (y4)), (3, .int (y1)), (0, .ref (base + 121))]) (aX12_tokens 137 rfl) (by decide) rfl ?_
                        refine xw_goto (tgt := 198) (aX12_tokens 138 rfl) (by decide) ?_
                        exact hw_L (ih198 (y4) (x703) (by have := (e704 : (x703).toInt = ((y1_605).toInt) + (1)); omega) (by have := (e704 : (x703).toInt = ((y1_605).toInt) + (1)); omega) (by have := (e704 : (x703).toInt = ((y1_605).toInt) + (1)); omega) (by have := (e704 : (x703).toInt = ((y1_605).toInt) + (1)); have := congrArg Int32.toInt (show FIv9 121 13 = x24 from h25); omega) (show (y4).toInt < t10 ((x703).toInt - (y1).toInt) from (by have := (e704 : (x703).toInt = ((y1_605).toInt) + (1)); exact (by have e2 := e704; rw [show ((x703).toInt - (y1).toInt : Int) = ((y1_605).toInt - (y1).toInt) + 1 by omega]; exact t10_k xi198_0 (by omega)))) (by have := (e704 : (x703).toInt = ((y1_605).toInt) + (1)); omega)) ⟨rfl, rfl, rfl, rfl, trivial⟩
                      · have e705 : 0 ≤ (y4).toInt ∧ (y4).toInt ≤ 99999999999999999 := by have := t10_17 xi198_0 (by omega) (by omega); omega
                        refine xw_ldc2 (aX12_tokens 123 rfl) wk_RX12_465 ?_
                        refine xw_lload (aX12_tokens 124 rfl) rfl ?_
                        refine xw_lmul (aX12_tokens 125 rfl) ?_
                        refine hw_tle (A := (10) * ((y4).toInt)) (l_mul (by decide : (10 : Int64).toInt = 10) rfl (by omega) (by omega)) (fun x706 e707 => ?_)
                        refine hw_aloadn (aX12_tokens 126 rfl) rfl ?_
                        refine xw_iloadn (aX12_tokens 127 rfl) rfl ?_
                        refine hw_callV (Bs := [.int (y1_605)]) (rest := [.long (x706)]) (aX12_tokens 128 rfl) wc_RX12_449 (by decide) rfl wi_yX12_sign wv_yX12_sign (c121 hS) (s121 hS) rfl rfl rfl (Nat.le_of_ble_eq_true rfl) (Nat.le_of_ble_eq_true rfl) (n_sign (d := d + 1) hS hF hI13 (y1_605) (by omega)) (fun v708 sv709 p710 => ?_)
                        have := congrArg Int32.toInt (show FIv9 121 13 = x24 from h25)
                        obtain ⟨r711, rfl, rfl, t713, t714, u715⟩ := p710
                        have rg_r711 := i_rng r711
                        show hw sk base _ _ _ _ _ [.int (r711), .long (x706)] _ _
                        have h226 : r711 = r614 := by rw [u715 (by omega), u618 (by omega)]
                        have h226i := congrArg Int32.toInt h226
                        refine xw_i2l (aX12_tokens 129 rfl) ?_
                        refine hw_tle (A := (r711).toInt) (i_2l rfl) (fun x716 e717 => ?_)
                        refine xw_ladd (aX12_tokens 130 rfl) ?_
                        refine hw_tle (A := ((10) * ((y4).toInt)) + ((r711).toInt)) (l_add e707 e717 (by omega) (by omega)) (fun x718 e719 => ?_)
                        refine xw_ldc2 (aX12_tokens 131 rfl) wk_RX12_467 ?_
                        refine xw_lsub (aX12_tokens 132 rfl) ?_
                        refine hw_tle (A := (((10) * ((y4).toInt)) + ((r711).toInt)) - (48)) (l_sub e719 (by decide : (48 : Int64).toInt = 48) (by omega) (by omega)) (fun x720 e721 => ?_)
                        refine xw_lstore (L2 := [(4, .long (x720)), (3, .int (y1)), (1, .int (y1_605)), (0, .ref (base + 121))]) (aX12_tokens 133 rfl) (by decide) rfl ?_
                        refine xw_iloadn (aX12_tokens 134 rfl) rfl ?_
                        refine hw_ic (v := (1 : Int32)) (aX12_tokens 135 rfl) (by decide) ?_
                        refine xw_iadd (aX12_tokens 136 rfl) ?_
                        refine hw_tie (A := ((y1_605).toInt) + (1)) (i_add rfl (by decide : (1 : Int32).toInt = 1) (by omega) (by omega)) (fun x722 e723 => ?_)
                        refine xw_istoren (L2 := [(1, .int (x722)), (4, .long (x720)), (3, .int (y1)), (0, .ref (base + 121))]) (aX12_tokens 137 rfl) (by decide) rfl ?_
                        refine xw_goto (tgt := 198) (aX12_tokens 138 rfl) (by decide) ?_
                        exact hw_L (ih198 (x720) (x722) (by have := (e721 : (x720).toInt = (((10) * ((y4).toInt)) + ((r711).toInt)) - (48)); have := (e723 : (x722).toInt = ((y1_605).toInt) + (1)); omega) (by have := (e721 : (x720).toInt = (((10) * ((y4).toInt)) + ((r711).toInt)) - (48)); have := (e723 : (x722).toInt = ((y1_605).toInt) + (1)); omega) (by have := (e721 : (x720).toInt = (((10) * ((y4).toInt)) + ((r711).toInt)) - (48)); have := (e723 : (x722).toInt = ((y1_605).toInt) + (1)); omega) (by have := (e721 : (x720).toInt = (((10) * ((y4).toInt)) + ((r711).toInt)) - (48)); have := (e723 : (x722).toInt = ((y1_605).toInt) + (1)); have := congrArg Int32.toInt (show FIv9 121 13 = x24 from h25); omega) (show (x720).toInt < t10 ((x722).toInt - (y1).toInt) from (by have := (e721 : (x720).toInt = (((10) * ((y4).toInt)) + ((r711).toInt)) - (48)); have := (e723 : (x722).toInt = ((y1_605).toInt) + (1)); exact (by have e1 := e721; have e2 := e723; have z := t10_s (d := (r711).toInt - 48) xi198_0 (by omega) (by omega) (by omega); rw [show ((x722).toInt - (y1).toInt : Int) = ((y1_605).toInt - (y1).toInt) + 1 by omega]; omega))) (by have := (e721 : (x720).toInt = (((10) * ((y4).toInt)) + ((r711).toInt)) - (48)); have := (e723 : (x722).toInt = ((y1_605).toInt) + (1)); omega)) ⟨rfl, rfl, rfl, rfl, trivial⟩
                exact hw_L (lp610 ((1003 - (y1).toInt : Int).toNat + 1) ((0 : Int64)) (y1) (by have := ((by decide : (0 : Int64).toInt = 0) : ((0 : Int64)).toInt = 0); omega) (by have := ((by decide : (0 : Int64).toInt = 0) : ((0 : Int64)).toInt = 0); omega) (by have := ((by decide : (0 : Int64).toInt = 0) : ((0 : Int64)).toInt = 0); omega) (by have := ((by decide : (0 : Int64).toInt = 0) : ((0 : Int64)).toInt = 0); have := congrArg Int32.toInt (show FIv9 121 13 = x24 from h25); omega) (show 0 < t10 ((y1).toInt - (y1).toInt) from (by have := ((by decide : (0 : Int64).toInt = 0) : ((0 : Int64)).toInt = 0); exact (by rw [show ((y1).toInt - (y1).toInt : Int) = (0 : Int) by omega]; decide))) (by have := ((by decide : (0 : Int64).toInt = 0) : ((0 : Int64)).toInt = 0); omega)) ⟨rfl, rfl, rfl, rfl, trivial⟩
            · replace t484 := t484 (by omega)
              clear t485
              refine hw_lc (v := (0 : Int64)) (aX12_tokens 30 rfl) (by decide) ?_
              refine xw_lstore (L2 := [(4, .long ((0 : Int64))), (3, .int (y1)), (2, .int (r48)), (1, .int (y1)), (0, .ref (base + 121))]) (aX12_tokens 31 rfl) (by decide) rfl ?_
              have lp728 : ∀ (m : Nat) (y4 : Int64) (y1_724 : Int32), (0 ≤ (y1_724).toInt ∧ (y1_724).toInt ≤ 1000) → ((y1).toInt ≤ (y1_724).toInt) → ((y1_724).toInt ≤ (x24).toInt) → 1003 - (y1_724).toInt < m → hw sk base (d + 2) none 212 53 [(4, .long (y4)), (3, .int (y1)), (1, .int (y1_724)), (0, .ref (base + 121))] [] (n, sl, SH, FIv9, FLv10, FR) (h_V (fun s => ∃ FI' FL', s = (n, sl, SH, FI', FL', FR) ∧ g_I FI' ∧ g_fr n SH [(121, 67)] [149, 151] [] FI FI' ∧ g_fr n SH [] [150] [] FL FL' ∧ (1 ≤ (FI' 121 67).toInt) ∧ (rl_e (FI' 149) (FI' 121 67)) ∧ (rl_w (FI' 121 67) (FI' 149) (FL' 150) (FI' 151)) ∧ (rl_t (FI' 149) (FL' 150)))) := by
                intro m
                induction m with
                | zero => intro y4 y1_724 iv725 iv726 iv727 hm; omega
                | succ m ih53 =>
                  intro y4 y1_724 iv725 iv726 iv727 hm
                  have rg_y4 := l_rng y4
                  have rg_y1_724 := i_rng y1_724
                  refine hw_aloadn (aX12_tokens 32 rfl) rfl ?_
                  refine hw_aloadn (aX12_tokens 33 rfl) rfl ?_
                  refine xw_iloadn (aX12_tokens 34 rfl) rfl ?_
                  refine hw_callV (Bs := [.int (y1_724)]) (rest := [.ref (base + 121)]) (aX12_tokens 35 rfl) wc_RX12_449 (by decide) rfl wi_yX12_sign wv_yX12_sign (c121 hS) (s121 hS) rfl rfl rfl (Nat.le_of_ble_eq_true rfl) (Nat.le_of_ble_eq_true rfl) (n_sign (d := d + 1) hS hF hI13 (y1_724) (by omega)) (fun v729 sv730 p731 => ?_)
                  have := congrArg Int32.toInt (show FIv9 121 13 = x24 from h25)
                  obtain ⟨r732, rfl, rfl, t734, t735, u736⟩ := p731
                  have rg_r732 := i_rng r732
                  show hw sk base _ _ _ _ _ [.int (r732), .ref (base + 121)] _ _
                  refine hw_callV (Bs := [.int (r732)]) (rest := []) (aX12_tokens 36 rfl) wc_RX12_423 (by decide) rfl wi_yX12_isSmall wv_yX12_isSmall (c121 hS) (s121 hS) rfl rfl rfl (Nat.le_of_ble_eq_true rfl) (Nat.le_of_ble_eq_true rfl) (n_isSmall (d := d + 1) hS hF hI13 (r732) ) (fun v737 sv738 p739 => ?_)
                  obtain ⟨r740, rfl, rfl, t742, t743, t744⟩ := p739
                  show hw sk base _ _ _ _ _ [.int (r740)] _ _
                  have j882 : ((y1_724).toInt < (x24).toInt) → hw sk base (d + 2) none 212 77 [(0, .ref (base + 121)), (1, .int (y1_724)), (3, .int (y1)), (4, .long (y4))] [] (n, sl, SH, FIv9, FLv10, FR) (h_V (fun s => ∃ FI' FL', s = (n, sl, SH, FI', FL', FR) ∧ g_I FI' ∧ g_fr n SH [(121, 67)] [149, 151] [] FI FI' ∧ g_fr n SH [] [150] [] FL FL' ∧ (1 ≤ (FI' 121 67).toInt) ∧ (rl_e (FI' 149) (FI' 121 67)) ∧ (rl_w (FI' 121 67) (FI' 149) (FL' 150) (FI' 151)) ∧ (rl_t (FI' 149) (FL' 150)))) := by
                    intro fc77_0
                    refine hw_aloadn (aX12_tokens 44 rfl) rfl ?_
                    refine xw_iloadn (aX12_tokens 45 rfl) rfl ?_
                    refine hw_callV (Bs := [.int (y1_724)]) (rest := []) (aX12_tokens 46 rfl) wc_RX12_449 (by decide) rfl wi_yX12_sign wv_yX12_sign (c121 hS) (s121 hS) rfl rfl rfl (Nat.le_of_ble_eq_true rfl) (Nat.le_of_ble_eq_true rfl) (n_sign (d := d + 1) hS hF hI13 (y1_724) (by omega)) (fun v883 sv884 p885 => ?_)
                    have := congrArg Int32.toInt (show FIv9 121 13 = x24 from h25)
                    obtain ⟨r886, rfl, rfl, t888, t889, u890⟩ := p885
                    have rg_r886 := i_rng r886
                    show hw sk base _ _ _ _ _ [.int (r886)] _ _
                    refine xw_istore (L2 := [(6, .int (r886)), (0, .ref (base + 121)), (1, .int (y1_724)), (3, .int (y1)), (4, .long (y4))]) (aX12_tokens 47 rfl) (by decide) rfl ?_
                    refine xw_iloadn (aX12_tokens 48 rfl) rfl ?_
                    refine xw_iloadn (aX12_tokens 49 rfl) rfl ?_
                    refine xw_isub (aX12_tokens 50 rfl) ?_
                    refine hw_tie (A := ((y1_724).toInt) - ((y1).toInt)) (i_sub rfl rfl (by omega) (by omega)) (fun x891 e892 => ?_)
                    refine hw_bp (v := (8 : Int32)) (aX12_tokens 51 rfl) (by decide) ?_
                    have j917 : ∀ (g914 : Int64), hw sk base (d + 2) none 212 124 [(0, .ref (base + 121)), (1, .int (y1_724)), (3, .int (y1)), (4, .long (g914))] [] (n, sl, SH, FIv9, FLv10, FR) (h_V (fun s => ∃ FI' FL', s = (n, sl, SH, FI', FL', FR) ∧ g_I FI' ∧ g_fr n SH [(121, 67)] [149, 151] [] FI FI' ∧ g_fr n SH [] [150] [] FL FL' ∧ (1 ≤ (FI' 121 67).toInt) ∧ (rl_e (FI' 149) (FI' 121 67)) ∧ (rl_w (FI' 121 67) (FI' 149) (FL' 150) (FI' 151)) ∧ (rl_t (FI' 149) (FL' 150)))) := by
                      intro g914
                      have rg_g914 := l_rng g914
                      refine xw_iloadn (aX12_tokens 70 rfl) rfl ?_
                      refine hw_ic (v := (1 : Int32)) (aX12_tokens 71 rfl) (by decide) ?_
                      refine xw_iadd (aX12_tokens 72 rfl) ?_
                      refine hw_tie (A := ((y1_724).toInt) + (1)) (i_add rfl (by decide : (1 : Int32).toInt = 1) (by omega) (by omega)) (fun x918 e919 => ?_)
                      refine xw_istoren (L2 := [(1, .int (x918)), (0, .ref (base + 121)), (3, .int (y1)), (4, .long (g914))]) (aX12_tokens 73 rfl) (by decide) rfl ?_
                      refine xw_goto (tgt := 53) (aX12_tokens 74 rfl) (by decide) ?_
                      exact hw_L (ih53 (g914) (x918) (by have := (e919 : (x918).toInt = ((y1_724).toInt) + (1)); omega) (by have := (e919 : (x918).toInt = ((y1_724).toInt) + (1)); omega) (by have := (e919 : (x918).toInt = ((y1_724).toInt) + (1)); have := congrArg Int32.toInt (show FIv9 121 13 = x24 from h25); omega) (by have := (e919 : (x918).toInt = ((y1_724).toInt) + (1)); omega)) ⟨rfl, rfl, rfl, rfl, trivial⟩
                    refine hw_icge (tgt := 124) (aX12_tokens 52 rfl) (by decide) e892 (by decide : (8 : Int32).toInt = 8) (fun cd920 => ?_) (fun cd920 => ?_)
                    · exact hw_L (j917 (y4)) ⟨rfl, rfl, rfl, rfl, trivial⟩
                    · refine xw_ldc2 (aX12_tokens 53 rfl) wk_RX12_455 ?_
                      refine xw_lload (aX12_tokens 54 rfl) rfl ?_
                      refine xw_lmul (aX12_tokens 55 rfl) ?_
                      refine hw_tl (fun x921 => ?_)
                      have b922 := l_rng x921
                      refine hw_aloadn (aX12_tokens 56 rfl) rfl ?_
                      refine xw_iload (aX12_tokens 57 rfl) rfl ?_
                      refine hw_callV (Bs := [.int (r886)]) (rest := [.long (x921)]) (aX12_tokens 58 rfl) wc_RX12_423 (by decide) rfl wi_yX12_isSmall wv_yX12_isSmall (c121 hS) (s121 hS) rfl rfl rfl (Nat.le_of_ble_eq_true rfl) (Nat.le_of_ble_eq_true rfl) (n_isSmall (d := d + 1) hS hF hI13 (r886) ) (fun v923 sv924 p925 => ?_)
                      obtain ⟨r926, rfl, rfl, t928, t929, t930⟩ := p925
                      show hw sk base _ _ _ _ _ [.int (r926), .long (x921)] _ _
                      have j941 : ∀ (g936 : Int32), (-97 ≤ (g936).toInt ∧ (g936).toInt ≤ 234) → hw sk base (d + 2) none 212 120 [(0, .ref (base + 121)), (1, .int (y1_724)), (3, .int (y1))] [.int (g936), .long (x921)] (n, sl, SH, FIv9, FLv10, FR) (h_V (fun s => ∃ FI' FL', s = (n, sl, SH, FI', FL', FR) ∧ g_I FI' ∧ g_fr n SH [(121, 67)] [149, 151] [] FI FI' ∧ g_fr n SH [] [150] [] FL FL' ∧ (1 ≤ (FI' 121 67).toInt) ∧ (rl_e (FI' 149) (FI' 121 67)) ∧ (rl_w (FI' 121 67) (FI' 149) (FL' 150) (FI' 151)) ∧ (rl_t (FI' 149) (FL' 150)))) := by
                        intro g936 q942
                        have rg_g936 := i_rng g936
                        refine xw_i2l (aX12_tokens 67 rfl) ?_
                        refine hw_tle (A := (g936).toInt) (i_2l rfl) (fun x943 e944 => ?_)
                        refine xw_ladd (aX12_tokens 68 rfl) ?_
                        refine hw_tl (fun x945 => ?_)
                        have b946 := l_rng x945
                        refine xw_lstore (L2 := [(4, .long (x945)), (0, .ref (base + 121)), (1, .int (y1_724)), (3, .int (y1))]) (aX12_tokens 69 rfl) (by decide) rfl ?_
                        exact hw_L (j917 (x945)) ⟨rfl, rfl, rfl, rfl, trivial⟩
                      refine hw_ifeq (tgt := 115) (aX12_tokens 59 rfl) (by decide) rfl (fun cd947 => ?_) (fun cd947 => ?_)
                      · clear t928
                        replace t929 := t929 (by omega)
                        refine xw_iload (aX12_tokens 64 rfl) rfl ?_
                        refine hw_bp (v := (21 : Int32)) (aX12_tokens 65 rfl) (by decide) ?_
                        refine xw_isub (aX12_tokens 66 rfl) ?_
                        refine hw_tie (A := ((r886).toInt) - (21)) (i_sub rfl (by decide : (21 : Int32).toInt = 21) (by omega) (by omega)) (fun x948 e949 => ?_)
                        exact hw_L (j941 (x948) (by have := (e949 : (x948).toInt = ((r886).toInt) - (21)); show -97 ≤ (x948).toInt ∧ (x948).toInt ≤ 234; omega)) ⟨rfl, rfl, rfl, trivial⟩
                      · replace t928 := t928 (by omega)
                        clear t929
                        refine xw_iload (aX12_tokens 60 rfl) rfl ?_
                        refine hw_bp (v := (96 : Int32)) (aX12_tokens 61 rfl) (by decide) ?_
                        refine xw_isub (aX12_tokens 62 rfl) ?_
                        refine hw_tie (A := ((r886).toInt) - (96)) (i_sub rfl (by decide : (96 : Int32).toInt = 96) (by omega) (by omega)) (fun x950 e951 => ?_)
                        refine xw_goto (tgt := 120) (aX12_tokens 63 rfl) (by decide) ?_
                        exact hw_L (j941 (x950) (by have := (e951 : (x950).toInt = ((r886).toInt) - (96)); show -97 ≤ (x950).toInt ∧ (x950).toInt ≤ 234; omega)) ⟨rfl, rfl, rfl, trivial⟩
                  refine hw_ifne (tgt := 77) (aX12_tokens 37 rfl) (by decide) rfl (fun cd952 => ?_) (fun cd952 => ?_)
                  · replace t742 := t742 (by omega)
                    clear t743
                    exact hw_L (j882 (by show (y1_724).toInt < (x24).toInt; omega)) ⟨rfl, rfl, rfl, rfl, trivial⟩
                  · clear t742
                    replace t743 := t743 (by omega)
                    refine hw_aloadn (aX12_tokens 38 rfl) rfl ?_
                    refine hw_aloadn (aX12_tokens 39 rfl) rfl ?_
                    refine xw_iloadn (aX12_tokens 40 rfl) rfl ?_
                    refine hw_callV (Bs := [.int (y1_724)]) (rest := [.ref (base + 121)]) (aX12_tokens 41 rfl) wc_RX12_449 (by decide) rfl wi_yX12_sign wv_yX12_sign (c121 hS) (s121 hS) rfl rfl rfl (Nat.le_of_ble_eq_true rfl) (Nat.le_of_ble_eq_true rfl) (n_sign (d := d + 1) hS hF hI13 (y1_724) (by omega)) (fun v953 sv954 p955 => ?_)
                    have := congrArg Int32.toInt (show FIv9 121 13 = x24 from h25)
                    obtain ⟨r956, rfl, rfl, t958, t959, u960⟩ := p955
                    have rg_r956 := i_rng r956
                    show hw sk base _ _ _ _ _ [.int (r956), .ref (base + 121)] _ _
                    refine hw_callV (Bs := [.int (r956)]) (rest := []) (aX12_tokens 42 rfl) wc_RX12_452 (by decide) rfl wi_yX12_isDigit wv_yX12_isDigit (c121 hS) (s121 hS) rfl rfl rfl (Nat.le_of_ble_eq_true rfl) (Nat.le_of_ble_eq_true rfl) (n_isDigit (d := d + 1) hS hF hI13 (r956) ) (fun v961 sv962 p963 => ?_)
                    obtain ⟨r964, rfl, rfl, t966, t967, t968⟩ := p963
                    show hw sk base _ _ _ _ _ [.int (r964)] _ _
                    refine hw_ifeq (tgt := 131) (aX12_tokens 43 rfl) (by decide) rfl (fun cd969 => ?_) (fun cd969 => ?_)
                    · clear t966
                      replace t967 := t967 (by omega)
                      have hs : (y1_724).toInt = (y1).toInt → (r732).toInt = (r48).toInt := fun e => by rw [u736 (by omega), u52 (by omega), i_eqv e]
                      have hp : (y1).toInt + 1 ≤ (y1_724).toInt := by omega
                      refine xw_iloadn (aX12_tokens 75 rfl) rfl ?_
                      refine xw_iloadn (aX12_tokens 76 rfl) rfl ?_
                      refine xw_isub (aX12_tokens 77 rfl) ?_
                      refine hw_tie (A := ((y1_724).toInt) - ((y1).toInt)) (i_sub rfl rfl (by omega) (by omega)) (fun x970 e971 => ?_)
                      refine hw_bp (v := (8 : Int32)) (aX12_tokens 78 rfl) (by decide) ?_
                      have j1055 : ∀ (g1049 : Int32) (FIj1045 : Nat → Nat → Int32) (FLj1051 : Nat → Nat → Int64), (g_fr n SH [(121, 67)] [149, 151] [] FI FIj1045) → (g_I FIj1045) → (FIj1045 121 13 = x24) → (FIj1045 121 67 = g1049) → (0 ≤ (g1049).toInt ∧ (g1049).toInt ≤ 1001) → (g_fr n SH [] [150] [] FL FLj1051) → (rl_t (FIj1045 149) (FLj1051 150)) → (rl_w (FIj1045 121 67) (FIj1045 149) (FLj1051 150) (FIj1045 151)) → ((g1049).toInt ≤ (y1).toInt + 1) → ((g1049).toInt ≤ (x24).toInt) → (rl_wx (FIj1045 121 67) (FIj1045 149) (FLj1051 150) (FIj1045 151) (y1_724).toInt) → hw sk base (d + 2) none 212 184 [(0, .ref (base + 121)), (1, .int (y1_724)), (3, .int (y1))] [] (n, sl, SH, FIj1045, FLj1051, FR) (h_V (fun s => ∃ FI' FL', s = (n, sl, SH, FI', FL', FR) ∧ g_I FI' ∧ g_fr n SH [(121, 67)] [149, 151] [] FI FI' ∧ g_fr n SH [] [150] [] FL FL' ∧ (1 ≤ (FI' 121 67).toInt) ∧ (rl_e (FI' 149) (FI' 121 67)) ∧ (rl_w (FI' 121 67) (FI' 149) (FL' 150) (FI' 151)) ∧ (rl_t (FI' 149) (FL' 150)))) := by
                        intro g1049 FIj1045 FLj1051 fr1046 hI1047 kp1048 kp1050 q1056 fr1052 rl1053 rl1054 fc184_0 fc184_1 fc184_2
                        have rg_g1049 := i_rng g1049
                        have := congrArg Int32.toInt kp1048
                        have := congrArg Int32.toInt kp1050
                        refine xw_goto (tgt := 363) (aX12_tokens 105 rfl) (by decide) ?_
                        exact hw_L (j471 (y1_724) (g1049) FIj1045 FLj1051 (by show 0 ≤ (y1_724).toInt ∧ (y1_724).toInt ≤ 1002; omega) fr1046 hI1047 (show FIj1045 121 13 = x24 from kp1048) (show FIj1045 121 67 = g1049 from kp1050) (by show 0 ≤ (g1049).toInt ∧ (g1049).toInt ≤ 1001; omega) fr1052 (show rl_t (FIj1045 149) (FLj1051 150) from rl1053) (show rl_w (FIj1045 121 67) (FIj1045 149) (FLj1051 150) (FIj1045 151) from rl1054) (by show (g1049).toInt ≤ (y1_724).toInt; omega) (by show (g1049).toInt ≤ (x24).toInt; omega) (by show (y1).toInt < (y1_724).toInt; omega) (by show (y1_724).toInt ≤ (x24).toInt; omega) (show rl_wx (FIj1045 121 67) (FIj1045 149) (FLj1051 150) (FIj1045 151) (y1_724).toInt from fc184_2)) ⟨rfl, rfl, rfl, trivial⟩
                      refine hw_icle (tgt := 150) (aX12_tokens 79 rfl) (by decide) e971 (by decide : (8 : Int32).toInt = 8) (fun cd1057 => ?_) (fun cd1057 => ?_)
                      · refine hw_aloadn (aX12_tokens 86 rfl) rfl ?_
                        refine xw_lload (aX12_tokens 87 rfl) rfl ?_
                        refine hw_callV (Bs := [.long (y4)]) (rest := []) (aX12_tokens 88 rfl) wc_RX12_461 (by decide) rfl wi_yX12_word wv_yX12_word (c121 hS) (s121 hS) rfl rfl rfl (Nat.le_of_ble_eq_true rfl) (Nat.le_of_ble_eq_true rfl) (m_word (d := d + 1) hS hF (y4) ) (fun v1058 sv1059 p1060 => ?_)
                        obtain ⟨r1061, rfl, FI1062, FL1063, rfl, rfl, rfl, t1066⟩ := p1060
                        have rg_r1061 := i_rng r1061
                        show hw sk base _ _ _ _ _ [.int (r1061)] _ _
                        refine hw_ic (v := ((-1) : Int32)) (aX12_tokens 89 rfl) (by decide) ?_
                        refine hw_iceq (tgt := 176) (aX12_tokens 90 rfl) (by decide) rfl (by decide : ((-1) : Int32).toInt = (-1)) (fun cd1067 => ?_) (fun cd1067 => ?_)
                        · refine hw_aloadn (aX12_tokens 100 rfl) rfl ?_
                          refine hw_ic (v := (1 : Int32)) (aX12_tokens 101 rfl) (by decide) ?_
                          refine xw_lload (aX12_tokens 102 rfl) rfl ?_
                          refine xw_iloadn (aX12_tokens 103 rfl) rfl ?_
                          refine hw_callV (Bs := [.int ((1 : Int32)), .long (y4), .int (y1)]) (rest := []) (aX12_tokens 104 rfl) wc_RX12_457 (by decide) rfl wi_yX12_token wv_yX12_token (c121 hS) (s121 hS) rfl rfl rfl (Nat.le_of_ble_eq_true rfl) (Nat.le_of_ble_eq_true rfl) (n_token (d := d + 1) hS hF hI13 ((1 : Int32)) (y4) (y1) (by have := congrArg Int32.toInt (show FIv9 121 67 = x21 from h22); omega) (by have := ((by decide : (1 : Int32).toInt = 1) : ((1 : Int32)).toInt = 1); omega) (by have := ((by decide : (1 : Int32).toInt = 1) : ((1 : Int32)).toInt = 1); omega) (by omega) (xi7_0) (show rl_t (FIv9 149) (FLv10 150) from rl14) (show rl_w (FIv9 121 67) (FIv9 149) (FLv10 150) (FIv9 151) from rl15)) (fun v1068 sv1069 p1070 => ?_)
                          have := congrArg Int32.toInt (show FIv9 121 67 = x21 from h22)
                          obtain ⟨rfl, FI1072, FL1073, rfl, hI1074, f1075, f1076, t1077, u1078, u1079, rl1080, rl1081⟩ := p1070
                          obtain ⟨x1082, h1083⟩ : ∃ y, FI1072 121 67 = y := ⟨_, rfl⟩
                          have h1083l := congrArg Int32.toInt h1083
                          have b1084 := gI_121_67 hI1074; rw [h1083] at b1084
                          show hw sk base _ _ _ _ _ [] _ _
                          exact hw_L (j1055 (x1082) FI1072 FL1073 (gf_tr ex_rf fr11 f1075 rfl rfl rfl) hI1074 (show FI1072 121 13 = x24 from (gf_at f1075 (c121 hS) (s121 hS) rfl (h25))) (show FI1072 121 67 = x1082 from h1083) (by show 0 ≤ (x1082).toInt ∧ (x1082).toInt ≤ 1001; omega) (gf_tr ex_rf fr12 f1076 rfl rfl rfl) (show rl_t (FI1072 149) (FL1073 150) from rl1080) (show rl_w (FI1072 121 67) (FI1072 149) (FL1073 150) (FI1072 151) from rl1081) (by show (x1082).toInt ≤ (y1).toInt + 1; omega) (by show (x1082).toInt ≤ (x24).toInt; omega) (show rl_wx (FI1072 121 67) (FI1072 149) (FL1073 150) (FI1072 151) (y1_724).toInt from (u1079 _ (by have hw := wl_le (k := ((1 : Int32)).toInt) (w := (y4).toInt) (n := 1) (by omega) (fun h => absurd h.1 (by decide)) (fun h => absurd h.1 (by decide)); omega)))) ⟨rfl, rfl, rfl, trivial⟩
                        · refine hw_aloadn (aX12_tokens 91 rfl) rfl ?_
                          refine hw_ic (v := (2 : Int32)) (aX12_tokens 92 rfl) (by decide) ?_
                          refine hw_aloadn (aX12_tokens 93 rfl) rfl ?_
                          refine xw_lload (aX12_tokens 94 rfl) rfl ?_
                          refine hw_callV (Bs := [.long (y4)]) (rest := [.int ((2 : Int32)), .ref (base + 121)]) (aX12_tokens 95 rfl) wc_RX12_461 (by decide) rfl wi_yX12_word wv_yX12_word (c121 hS) (s121 hS) rfl rfl rfl (Nat.le_of_ble_eq_true rfl) (Nat.le_of_ble_eq_true rfl) (m_word (d := d + 1) hS hF (y4) ) (fun v1085 sv1086 p1087 => ?_)
                          obtain ⟨r1088, rfl, FI1089, FL1090, rfl, rfl, rfl, t1093⟩ := p1087
                          have rg_r1088 := i_rng r1088
                          show hw sk base _ _ _ _ _ [.int (r1088), .int ((2 : Int32)), .ref (base + 121)] _ _
                          refine xw_i2l (aX12_tokens 96 rfl) ?_
                          refine hw_tle (A := (r1088).toInt) (i_2l rfl) (fun x1094 e1095 => ?_)
                          refine xw_iloadn (aX12_tokens 97 rfl) rfl ?_
                          refine hw_callV (Bs := [.int ((2 : Int32)), .long (x1094), .int (y1)]) (rest := []) (aX12_tokens 98 rfl) wc_RX12_457 (by decide) rfl wi_yX12_token wv_yX12_token (c121 hS) (s121 hS) rfl rfl rfl (Nat.le_of_ble_eq_true rfl) (Nat.le_of_ble_eq_true rfl) (n_token (d := d + 1) hS hF hI13 ((2 : Int32)) (x1094) (y1) (by have := congrArg Int32.toInt (show FIv9 121 67 = x21 from h22); omega) (by have := ((by decide : (2 : Int32).toInt = 2) : ((2 : Int32)).toInt = 2); have := (e1095 : (x1094).toInt = (r1088).toInt); have := (e1095 : (x1094).toInt = (r1088).toInt); omega) (by have := ((by decide : (2 : Int32).toInt = 2) : ((2 : Int32)).toInt = 2); have := (e1095 : (x1094).toInt = (r1088).toInt); have := (e1095 : (x1094).toInt = (r1088).toInt); omega) (by omega) (xi7_0) (show rl_t (FIv9 149) (FLv10 150) from rl14) (show rl_w (FIv9 121 67) (FIv9 149) (FLv10 150) (FIv9 151) from rl15)) (fun v1096 sv1097 p1098 => ?_)
                          have := congrArg Int32.toInt (show FIv9 121 67 = x21 from h22)
                          obtain ⟨rfl, FI1100, FL1101, rfl, hI1102, f1103, f1104, t1105, u1106, u1107, rl1108, rl1109⟩ := p1098
                          obtain ⟨x1110, h1111⟩ : ∃ y, FI1100 121 67 = y := ⟨_, rfl⟩
                          have h1111l := congrArg Int32.toInt h1111
                          have b1112 := gI_121_67 hI1102; rw [h1111] at b1112
                          show hw sk base _ _ _ _ _ [] _ _
                          refine xw_goto (tgt := 184) (aX12_tokens 99 rfl) (by decide) ?_
                          exact hw_L (j1055 (x1110) FI1100 FL1101 (gf_tr ex_rf fr11 f1103 rfl rfl rfl) hI1102 (show FI1100 121 13 = x24 from (gf_at f1103 (c121 hS) (s121 hS) rfl (h25))) (show FI1100 121 67 = x1110 from h1111) (by show 0 ≤ (x1110).toInt ∧ (x1110).toInt ≤ 1001; omega) (gf_tr ex_rf fr12 f1104 rfl rfl rfl) (show rl_t (FI1100 149) (FL1101 150) from rl1108) (show rl_w (FI1100 121 67) (FI1100 149) (FL1101 150) (FI1100 151) from rl1109) (by show (x1110).toInt ≤ (y1).toInt + 1; omega) (by show (x1110).toInt ≤ (x24).toInt; omega) (show rl_wx (FI1100 121 67) (FI1100 149) (FL1101 150) (FI1100 151) (y1_724).toInt from (u1107 _ (by have hw := wl_le (k := ((2 : Int32)).toInt) (w := (x1094).toInt) (n := 1) (by omega) (fun h => absurd h.1 (by decide)) (fun h => absurd h.1 (by decide)); omega)))) ⟨rfl, rfl, rfl, trivial⟩
                      · refine hw_aloadn (aX12_tokens 80 rfl) rfl ?_
                        refine hw_bp (v := (6 : Int32)) (aX12_tokens 81 rfl) (by decide) ?_
                        refine hw_lc (v := (0 : Int64)) (aX12_tokens 82 rfl) (by decide) ?_
                        refine xw_iloadn (aX12_tokens 83 rfl) rfl ?_
                        refine hw_callV (Bs := [.int ((6 : Int32)), .long ((0 : Int64)), .int (y1)]) (rest := []) (aX12_tokens 84 rfl) wc_RX12_457 (by decide) rfl wi_yX12_token wv_yX12_token (c121 hS) (s121 hS) rfl rfl rfl (Nat.le_of_ble_eq_true rfl) (Nat.le_of_ble_eq_true rfl) (n_token (d := d + 1) hS hF hI13 ((6 : Int32)) ((0 : Int64)) (y1) (by have := congrArg Int32.toInt (show FIv9 121 67 = x21 from h22); omega) (by have := ((by decide : (6 : Int32).toInt = 6) : ((6 : Int32)).toInt = 6); have := ((by decide : (0 : Int64).toInt = 0) : ((0 : Int64)).toInt = 0); have := ((by decide : (0 : Int64).toInt = 0) : ((0 : Int64)).toInt = 0); omega) (by have := ((by decide : (6 : Int32).toInt = 6) : ((6 : Int32)).toInt = 6); have := ((by decide : (0 : Int64).toInt = 0) : ((0 : Int64)).toInt = 0); have := ((by decide : (0 : Int64).toInt = 0) : ((0 : Int64)).toInt = 0); omega) (by omega) (xi7_0) (show rl_t (FIv9 149) (FLv10 150) from rl14) (show rl_w (FIv9 121 67) (FIv9 149) (FLv10 150) (FIv9 151) from rl15)) (fun v1113 sv1114 p1115 => ?_)
                        have := congrArg Int32.toInt (show FIv9 121 67 = x21 from h22)
                        obtain ⟨rfl, FI1117, FL1118, rfl, hI1119, f1120, f1121, t1122, u1123, u1124, rl1125, rl1126⟩ := p1115
                        obtain ⟨x1127, h1128⟩ : ∃ y, FI1117 121 67 = y := ⟨_, rfl⟩
                        have h1128l := congrArg Int32.toInt h1128
                        have b1129 := gI_121_67 hI1119; rw [h1128] at b1129
                        show hw sk base _ _ _ _ _ [] _ _
                        refine xw_goto (tgt := 184) (aX12_tokens 85 rfl) (by decide) ?_
                        exact hw_L (j1055 (x1127) FI1117 FL1118 (gf_tr ex_rf fr11 f1120 rfl rfl rfl) hI1119 (show FI1117 121 13 = x24 from (gf_at f1120 (c121 hS) (s121 hS) rfl (h25))) (show FI1117 121 67 = x1127 from h1128) (by show 0 ≤ (x1127).toInt ∧ (x1127).toInt ≤ 1001; omega) (gf_tr ex_rf fr12 f1121 rfl rfl rfl) (show rl_t (FI1117 149) (FL1118 150) from rl1125) (show rl_w (FI1117 121 67) (FI1117 149) (FL1118 150) (FI1117 151) from rl1126) (by show (x1127).toInt ≤ (y1).toInt + 1; omega) (by show (x1127).toInt ≤ (x24).toInt; omega) (show rl_wx (FI1117 121 67) (FI1117 149) (FL1118 150) (FI1117 151) (y1_724).toInt from (u1124 _ (by have hw := wl_le (k := ((6 : Int32)).toInt) (w := ((0 : Int64)).toInt) (n := 1) (by omega) (fun h => absurd h.1 (by decide)) (fun h => absurd h.1 (by decide)); omega)))) ⟨rfl, rfl, rfl, trivial⟩
                    · replace t966 := t966 (by omega)
                      clear t967
                      exact hw_L (j882 (by show (y1_724).toInt < (x24).toInt; omega)) ⟨rfl, rfl, rfl, rfl, trivial⟩
              exact hw_L (lp728 ((1003 - (y1).toInt : Int).toNat + 1) ((0 : Int64)) (y1) (by have := ((by decide : (0 : Int64).toInt = 0) : ((0 : Int64)).toInt = 0); omega) (by have := ((by decide : (0 : Int64).toInt = 0) : ((0 : Int64)).toInt = 0); omega) (by have := ((by decide : (0 : Int64).toInt = 0) : ((0 : Int64)).toInt = 0); have := congrArg Int32.toInt (show FIv9 121 13 = x24 from h25); omega) (by have := ((by decide : (0 : Int64).toInt = 0) : ((0 : Int64)).toInt = 0); omega)) ⟨rfl, rfl, rfl, rfl, trivial⟩
          · exact hw_L (j474) ⟨rfl, rfl, rfl, trivial⟩
  obtain ⟨x1130, h1131⟩ : ∃ y, FI4 121 13 = y := ⟨_, rfl⟩
  have h1131l := congrArg Int32.toInt h1131
  have b1132 := gI_121_13 hI7; rw [h1131] at b1132
  exact hw_L (lp20 ((1003 - 0 : Int).toNat + 1) ((0 : Int32)) FI4 FL (gf_f gf_rf u5 (by decide)) gf_rf hI7 (show rl_t (FI4 149) (FL 150) from rl6) (show rl_w (FI4 121 67) (FI4 149) (FL 150) (FI4 151) from rl8) (by have := ((by decide : (0 : Int32).toInt = 0) : ((0 : Int32)).toInt = 0); omega) (by have := ((by decide : (0 : Int32).toInt = 0) : ((0 : Int32)).toInt = 0); have := congrArg Int32.toInt (show FI4 121 67 = (0 : Int32) from up_eq u5); have := ((by decide : (0 : Int32).toInt = 0) : ((0 : Int32)).toInt = 0); omega) (by have := ((by decide : (0 : Int32).toInt = 0) : ((0 : Int32)).toInt = 0); have := congrArg Int32.toInt (show FI4 121 13 = x1130 from h1131); have := congrArg Int32.toInt (show FI4 121 67 = (0 : Int32) from up_eq u5); have := ((by decide : (0 : Int32).toInt = 0) : ((0 : Int32)).toInt = 0); omega) (by have := ((by decide : (0 : Int32).toInt = 0) : ((0 : Int32)).toInt = 0); have := congrArg Int32.toInt (show FI4 121 13 = x1130 from h1131); omega) (show rl_wx (FI4 121 67) (FI4 149) (FL 150) (FI4 151) 0 from (by have := ((by decide : (0 : Int32).toInt = 0) : ((0 : Int32)).toInt = 0); exact rl_wx_0 h670)) (by have := ((by decide : (0 : Int32).toInt = 0) : ((0 : Int32)).toInt = 0); omega)) ⟨rfl, rfl, trivial⟩
