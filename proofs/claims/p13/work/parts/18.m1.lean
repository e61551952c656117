def nX12_puts : Nat := 0xb1dfffa7f80284be00b56004be00b42a2a4f7eff00117a1c1bbe00b42a1e00b42a23009b1c3d1810
theorem bX12_puts : cX12_puts.data.toList.map UInt8.toNat = x_un nX12_puts 40 := by decide +kernel
def iX12_puts : List (Nat × Jvm.ClassFile.Instr × Nat) := [(0, .bipush 24, 2), (2, .istore_n 2, 1), (3, .iload_n 2, 1), (4, .ifCond .lt 35, 3), (7, .aload_n 0, 1), (8, .getfield 30, 3), (11, .aload_n 0, 1), (12, .getfield 190, 3), (15, .iload_n 1, 1), (16, .iload_n 2, 1), (17, .ishr, 1), (18, .sipush 255, 3), (21, .iand, 1), (22, .iastore, 1), (23, .aload_n 0, 1), (24, .aload_n 0, 1), (25, .getfield 190, 3), (28, .iconst 1, 1), (29, .iadd, 1), (30, .putfield 190, 3), (33, .iinc 2 (-8), 3), (36, .goto (-33), 3), (39, .return_, 1)]
theorem dX12_puts : x_il nX12_puts 40 iX12_puts = true := by decide +kernel
theorem aX12_puts (k : Nat) {pc : Nat} {i : Jvm.ClassFile.Instr} {len : Nat} (hk : iX12_puts[k]? = some (pc, i, len)) : x_at xMM 153 pc i len yX12_puts 3 none := ⟨cX12_puts, rfl, x_il_ok bX12_puts dX12_puts k hk⟩
set_option maxHeartbeats 4000000 in
set_option maxRecDepth 100000 in
theorem m_puts {sk : xK} {base d n sl : Nat} {SH : Nat → Nat × Nat} {FI : Nat → Nat → Int32} {FL : Nat → Nat → Int64} {FR : Nat → Nat → Option Nat} (hS : h_S n SH) (hF : h_FR FR) (a1 : Int32) (g0 : 0 ≤ (FI 121 13).toInt ∧ (FI 121 13).toInt ≤ 996) (ai126 : h_ai 126 1000 0 255 FI) : hw sk base d none 153 0 [(0, .ref (base + 121)), (1, .int (a1))] [] (n, sl, SH, FI, FL, FR) (h_V (fun s => ∃ FI' FL', s = (n, sl, SH, FI', FL', FR) ∧ h_fr FI FI' [13] [126] ∧ FL = FL' ∧ (((FI' 121 13)).toInt = (FI 121 13).toInt + 4) ∧ h_ai 126 1000 0 255 FI')) := by
  have rg_a1 := i_rng a1
  refine hw_bp (v := (24 : Int32)) (aX12_puts 0 rfl) (by decide) ?_
  refine xw_istoren (L2 := [(2, .int ((24 : Int32))), (0, .ref (base + 121)), (1, .int (a1))]) (aX12_puts 1 rfl) (by decide) rfl ?_
  refine xw_iloadn (aX12_puts 2 rfl) rfl ?_
  refine hw_iflt (tgt := 39) (aX12_puts 3 rfl) (by decide) (by decide : (24 : Int32).toInt = 24) (fun cd1 => ?_) (fun cd1 => ?_)
  · omega
  · refine hw_aloadn (aX12_puts 4 rfl) rfl ?_
    refine hw_get (v := .ref (base + 126)) (aX12_puts 5 rfl) wf_RX12_30 (c121 hS) (s121 hS) (by decide) (congrArg (fun r => va_rf (h_rf base r)) (r121_12 hF)) ?_
    refine hw_aloadn (aX12_puts 6 rfl) rfl ?_
    refine hw_get (v := .int (FI 121 13)) (aX12_puts 7 rfl) wf_RX12_190 (c121 hS) (s121 hS) (by decide) (congrArg Value.int (show FI 121 13 = FI 121 13 from rfl)) ?_
    refine xw_iloadn (aX12_puts 8 rfl) rfl ?_
    refine xw_iloadn (aX12_puts 9 rfl) rfl ?_
    refine xw_ishr (aX12_puts 10 rfl) ?_
    refine hw_ti (fun x2 => ?_)
    have b3 := i_rng x2
    refine hw_sp (v := (255 : Int32)) (aX12_puts 11 rfl) (by decide) ?_
    refine xw_iand (aX12_puts 12 rfl) ?_
    refine hw_tib (lo := 0) (hi := 255) (i_and (x := x2) (m := (255 : Int32)) (M := 255) (by decide) (by decide)) (fun x4 b5 => ?_)
    refine hw_iast (aX12_puts 13 rfl) (c126 hS) (s126 hS) (h_in rfl (by omega) (by omega)) ?_
    have e6 : h_ai 126 1000 0 255 (h_up FI 126 (FI 121 13).toNatClampNeg (x4)) := ai_up ai126 rfl (by omega) (by omega)
    refine hw_aloadn (aX12_puts 14 rfl) rfl ?_
    refine hw_aloadn (aX12_puts 15 rfl) rfl ?_
    refine hw_get (v := .int (FI 121 13)) (aX12_puts 16 rfl) wf_RX12_190 (c121 hS) (s121 hS) (by decide) (congrArg Value.int (show (h_up FI 126 (FI 121 13).toNatClampNeg (x4)) 121 13 = FI 121 13 from rfl)) ?_
    refine hw_ic (v := (1 : Int32)) (aX12_puts 17 rfl) (by decide) ?_
    refine xw_iadd (aX12_puts 18 rfl) ?_
    refine hw_tie (A := ((FI 121 13).toInt) + (1)) (i_add rfl (by decide : (1 : Int32).toInt = 1) (by omega) (by omega)) (fun x7 e8 => ?_)
    refine hw_puti (aX12_puts 19 rfl) wf_RX12_190 (c121 hS) (s121 hS) (by decide) rfl rfl ?_
    refine xw_iinc (L2 := [(2, .int ((16 : Int32))), (0, .ref (base + 121)), (1, .int (a1))]) (aX12_puts 20 rfl) rfl (by decide) rfl ?_
    refine xw_goto (tgt := 3) (aX12_puts 21 rfl) (by decide) ?_
    refine xw_iloadn (aX12_puts 2 rfl) rfl ?_
    refine hw_iflt (tgt := 39) (aX12_puts 3 rfl) (by decide) (by decide : (16 : Int32).toInt = 16) (fun cd9 => ?_) (fun cd9 => ?_)
    · omega
    · refine hw_aloadn (aX12_puts 4 rfl) rfl ?_
      refine hw_get (v := .ref (base + 126)) (aX12_puts 5 rfl) wf_RX12_30 (c121 hS) (s121 hS) (by decide) (congrArg (fun r => va_rf (h_rf base r)) (r121_12 hF)) ?_
      refine hw_aloadn (aX12_puts 6 rfl) rfl ?_
      refine hw_get (v := .int (x7)) (aX12_puts 7 rfl) wf_RX12_190 (c121 hS) (s121 hS) (by decide) (congrArg Value.int (show (h_up (h_up FI 126 (FI 121 13).toNatClampNeg (x4)) 121 13 (x7)) 121 13 = x7 from rfl)) ?_
      refine xw_iloadn (aX12_puts 8 rfl) rfl ?_
      refine xw_iloadn (aX12_puts 9 rfl) rfl ?_
      refine xw_ishr (aX12_puts 10 rfl) ?_
      refine hw_ti (fun x10 => ?_)
      have b11 := i_rng x10
      refine hw_sp (v := (255 : Int32)) (aX12_puts 11 rfl) (by decide) ?_
      refine xw_iand (aX12_puts 12 rfl) ?_
      refine hw_tib (lo := 0) (hi := 255) (i_and (x := x10) (m := (255 : Int32)) (M := 255) (by decide) (by decide)) (fun x12 b13 => ?_)
      refine hw_iast (aX12_puts 13 rfl) (c126 hS) (s126 hS) (h_in e8 (by omega) (by omega)) ?_
      have e14 : h_ai 126 1000 0 255 (h_up (h_up (h_up FI 126 (FI 121 13).toNatClampNeg (x4)) 121 13 (x7)) 126 (x7).toNatClampNeg (x12)) := ai_up (show h_ai 126 1000 0 255 (h_up (h_up FI 126 (FI 121 13).toNatClampNeg (x4)) 121 13 (x7)) from (ai_nc e6 (by decide))) rfl (by omega) (by omega)
      refine hw_aloadn (aX12_puts 14 rfl) rfl ?_
      refine hw_aloadn (aX12_puts 15 rfl) rfl ?_
      refine hw_get (v := .int (x7)) (aX12_puts 16 rfl) wf_RX12_190 (c121 hS) (s121 hS) (by decide) (congrArg Value.int (show (h_up (h_up (h_up FI 126 (FI 121 13).toNatClampNeg (x4)) 121 13 (x7)) 126 (x7).toNatClampNeg (x12)) 121 13 = x7 from rfl)) ?_
      refine hw_ic (v := (1 : Int32)) (aX12_puts 17 rfl) (by decide) ?_
      refine xw_iadd (aX12_puts 18 rfl) ?_
      refine hw_tie (A := (((FI 121 13).toInt) + (1)) + (1)) (i_add e8 (by decide : (1 : Int32).toInt = 1) (by omega) (by omega)) (fun x15 e16 => ?_)
      refine hw_puti (aX12_puts 19 rfl) wf_RX12_190 (c121 hS) (s121 hS) (by decide) rfl rfl ?_
      refine xw_iinc (L2 := [(2, .int ((8 : Int32))), (0, .ref (base + 121)), (1, .int (a1))]) (aX12_puts 20 rfl) rfl (by decide) rfl ?_
      refine xw_goto (tgt := 3) (aX12_puts 21 rfl) (by decide) ?_
      refine xw_iloadn (aX12_puts 2 rfl) rfl ?_
      refine hw_iflt (tgt := 39) (aX12_puts 3 rfl) (by decide) (by decide : (8 : Int32).toInt = 8) (fun cd17 => ?_) (fun cd17 => ?_)
      · omega
      · refine hw_aloadn (aX12_puts 4 rfl) rfl ?_
        refine hw_get (v := .ref (base + 126)) (aX12_puts 5 rfl) wf_RX12_30 (c121 hS) (s121 hS) (by decide) (congrArg (fun r => va_rf (h_rf base r)) (r121_12 hF)) ?_
        refine hw_aloadn (aX12_puts 6 rfl) rfl ?_
        refine hw_get (v := .int (x15)) (aX12_puts 7 rfl) wf_RX12_190 (c121 hS) (s121 hS) (by decide) (congrArg Value.int (show (h_up (h_up (h_up (h_up FI 126 (FI 121 13).toNatClampNeg (x4)) 121 13 (x7)) 126 (x7).toNatClampNeg (x12)) 121 13 (x15)) 121 13 = x15 from rfl)) ?_
        refine xw_iloadn (aX12_puts 8 rfl) rfl ?_
        refine xw_iloadn (aX12_puts 9 rfl) rfl ?_
        refine xw_ishr (aX12_puts 10 rfl) ?_
        refine hw_ti (fun x18 => ?_)
        have b19 := i_rng x18
        refine hw_sp (v := (255 : Int32)) (aX12_puts 11 rfl) (by decide) ?_
        refine xw_iand (aX12_puts 12 rfl) ?_
        refine hw_tib (lo := 0) (hi := 255) (i_and (x := x18) (m := (255 : Int32)) (M := 255) (by decide) (by decide)) (fun x20 b21 => ?_)
        refine hw_iast (aX12_puts 13 rfl) (c126 hS) (s126 hS) (h_in e16 (by omega) (by omega)) ?_
        have e22 : h_ai 126 1000 0 255 (h_up (h_up (h_up (h_up (h_up FI 126 (FI 121 13).toNatClampNeg (x4)) 121 13 (x7)) 126 (x7).toNatClampNeg (x12)) 121 13 (x15)) 126 (x15).toNatClampNeg (x20)) := ai_up (show h_ai 126 1000 0 255 (h_up (h_up (h_up (h_up FI 126 (FI 121 13).toNatClampNeg (x4)) 121 13 (x7)) 126 (x7).toNatClampNeg (x12)) 121 13 (x15)) from (ai_nc e14 (by decide))) rfl (by omega) (by omega)
        refine hw_aloadn (aX12_puts 14 rfl) rfl ?_
        refine hw_aloadn (aX12_puts 15 rfl) rfl ?_
        refine hw_get (v := .int (x15)) (aX12_puts 16 rfl) wf_RX12_190 (c121 hS) (s121 hS) (by decide) (congrArg Value.int (show (h_up (h_up (h_up (h_up (h_up FI 126 (FI 121 13).toNatClampNeg (x4)) 121 13 (x7)) 126 (x7).toNatClampNeg (x12)) 121 13 (x15)) 126 (x15).toNatClampNeg (x20)) 121 13 = x15 from rfl)) ?_
        refine hw_ic (v := (1 : Int32)) (aX12_puts 17 rfl) (by decide) ?_
        refine xw_iadd (aX12_puts 18 rfl) ?_
        refine hw_tie (A := ((((FI 121 13).toInt) + (1)) + (1)) + (1)) (i_add e16 (by decide : (1 : Int32).toInt = 1) (by omega) (by omega)) (fun x23 e24 => ?_)
        refine hw_puti (aX12_puts 19 rfl) wf_RX12_190 (c121 hS) (s121 hS) (by decide) rfl rfl ?_
        refine xw_iinc (L2 := [(2, .int ((0 : Int32))), (0, .ref (base + 121)), (1, .int (a1))]) (aX12_puts 20 rfl) rfl (by decide) rfl ?_
        refine xw_goto (tgt := 3) (aX12_puts 21 rfl) (by decide) ?_
        refine xw_iloadn (aX12_puts 2 rfl) rfl ?_
        refine hw_iflt (tgt := 39) (aX12_puts 3 rfl) (by decide) (by decide : (0 : Int32).toInt = 0) (fun cd25 => ?_) (fun cd25 => ?_)
        · omega
        · refine hw_aloadn (aX12_puts 4 rfl) rfl ?_
          refine hw_get (v := .ref (base + 126)) (aX12_puts 5 rfl) wf_RX12_30 (c121 hS) (s121 hS) (by decide) (congrArg (fun r => va_rf (h_rf base r)) (r121_12 hF)) ?_
          refine hw_aloadn (aX12_puts 6 rfl) rfl ?_
          refine hw_get (v := .int (x23)) (aX12_puts 7 rfl) wf_RX12_190 (c121 hS) (s121 hS) (by decide) (congrArg Value.int (show (h_up (h_up (h_up (h_up (h_up (h_up FI 126 (FI 121 13).toNatClampNeg (x4)) 121 13 (x7)) 126 (x7).toNatClampNeg (x12)) 121 13 (x15)) 126 (x15).toNatClampNeg (x20)) 121 13 (x23)) 121 13 = x23 from rfl)) ?_
          refine xw_iloadn (aX12_puts 8 rfl) rfl ?_
          refine xw_iloadn (aX12_puts 9 rfl) rfl ?_
          refine xw_ishr (aX12_puts 10 rfl) ?_
          refine hw_ti (fun x26 => ?_)
          have b27 := i_rng x26
          refine hw_sp (v := (255 : Int32)) (aX12_puts 11 rfl) (by decide) ?_
          refine xw_iand (aX12_puts 12 rfl) ?_
          refine hw_tib (lo := 0) (hi := 255) (i_and (x := x26) (m := (255 : Int32)) (M := 255) (by decide) (by decide)) (fun x28 b29 => ?_)
          refine hw_iast (aX12_puts 13 rfl) (c126 hS) (s126 hS) (h_in e24 (by omega) (by omega)) ?_
          have e30 : h_ai 126 1000 0 255 (h_up (h_up (h_up (h_up (h_up (h_up (h_up FI 126 (FI 121 13).toNatClampNeg (x4)) 121 13 (x7)) 126 (x7).toNatClampNeg (x12)) 121 13 (x15)) 126 (x15).toNatClampNeg (x20)) 121 13 (x23)) 126 (x23).toNatClampNeg (x28)) := ai_up (show h_ai 126 1000 0 255 (h_up (h_up (h_up (h_up (h_up (h_up FI 126 (FI 121 13).toNatClampNeg (x4)) 121 13 (x7)) 126 (x7).toNatClampNeg (x12)) 121 13 (x15)) 126 (x15).toNatClampNeg (x20)) 121 13 (x23)) from (ai_nc e22 (by decide))) rfl (by omega) (by omega)
          refine hw_aloadn (aX12_puts 14 rfl) rfl ?_
          refine hw_aloadn (aX12_puts 15 rfl) rfl ?_
          refine hw_get (v := .int (x23)) (aX12_puts 16 rfl) wf_RX12_190 (c121 hS) (s121 hS) (by decide) (congrArg Value.int (show (h_up (h_up (h_up (h_up (h_up (h_up (h_up FI 126 (FI 121 13).toNatClampNeg (x4)) 121 13 (x7)) 126 (x7).toNatClampNeg (x12)) 121 13 (x15)) 126 (x15).toNatClampNeg (x20)) 121 13 (x23)) 126 (x23).toNatClampNeg (x28)) 121 13 = x23 from rfl)) ?_
          refine hw_ic (v := (1 : Int32)) (aX12_puts 17 rfl) (by decide) ?_
          refine xw_iadd (aX12_puts 18 rfl) ?_
          refine hw_tie (A := (((((FI 121 13).toInt) + (1)) + (1)) + (1)) + (1)) (i_add e24 (by decide : (1 : Int32).toInt = 1) (by omega) (by omega)) (fun x31 e32 => ?_)
          refine hw_puti (aX12_puts 19 rfl) wf_RX12_190 (c121 hS) (s121 hS) (by decide) rfl rfl ?_
          refine xw_iinc (L2 := [(2, .int (((-8) : Int32))), (0, .ref (base + 121)), (1, .int (a1))]) (aX12_puts 20 rfl) rfl (by decide) rfl ?_
          refine xw_goto (tgt := 3) (aX12_puts 21 rfl) (by decide) ?_
          refine xw_iloadn (aX12_puts 2 rfl) rfl ?_
          refine hw_iflt (tgt := 39) (aX12_puts 3 rfl) (by decide) (by decide : ((-8) : Int32).toInt = (-8)) (fun cd33 => ?_) (fun cd33 => ?_)
          · refine xw_vret (aX12_puts 22 rfl) rfl ?_
            have e34 : (x31).toInt = (((((FI 121 13).toInt) + (1)) + (1)) + (1)) + (1) := e32
            exact ⟨rfl, _, _, rfl, (fr_up (fr_ua (fr_up (fr_ua (fr_up (fr_ua (fr_up (fr_ua fr_rf (by decide) (by decide)) (by decide)) (by decide) (by decide)) (by decide)) (by decide) (by decide)) (by decide)) (by decide) (by decide)) (by decide)), rfl, (by show ((x31)).toInt = (FI 121 13).toInt + 4; omega), (show h_ai 126 1000 0 255 (h_up (h_up (h_up (h_up (h_up (h_up (h_up (h_up FI 126 (FI 121 13).toNatClampNeg (x4)) 121 13 (x7)) 126 (x7).toNatClampNeg (x12)) 121 13 (x15)) 126 (x15).toNatClampNeg (x20)) 121 13 (x23)) 126 (x23).toNatClampNeg (x28)) 121 13 (x31)) from (ai_nc e30 (by decide)))⟩
          · omega
def nX12_end : Nat := 0xac1bbe00b51b2aac020500a4be00b42a1b0b009b1bbb00b5032a
theorem bX12_end : cX12_end.data.toList.map UInt8.toNat = x_un nX12_end 26 := by decide +kernel
def iX12_end : List (Nat × Jvm.ClassFile.Instr × Nat) := [(0, .aload_n 0, 1), (1, .iconst 0, 1), (2, .putfield 187, 3), (5, .iload_n 1, 1), (6, .ifCond .lt 11, 3), (9, .iload_n 1, 1), (10, .aload_n 0, 1), (11, .getfield 190, 3), (14, .if_icmp .le 5, 3), (17, .iconst (-1), 1), (18, .ireturn, 1), (19, .aload_n 0, 1), (20, .iload_n 1, 1), (21, .putfield 190, 3), (24, .iload_n 1, 1), (25, .ireturn, 1)]
theorem dX12_end : x_il nX12_end 26 iX12_end = true := by decide +kernel
theorem aX12_end (k : Nat) {pc : Nat} {i : Jvm.ClassFile.Instr} {len : Nat} (hk : iX12_end[k]? = some (pc, i, len)) : x_at xMM 155 pc i len yX12_end 2 (some .int) := ⟨cX12_end, rfl, x_il_ok bX12_end dX12_end k hk⟩
set_option maxHeartbeats 4000000 in
set_option maxRecDepth 100000 in
theorem m_end {sk : xK} {base d n sl : Nat} {SH : Nat → Nat × Nat} {FI : Nat → Nat → Int32} {FL : Nat → Nat → Int64} {FR : Nat → Nat → Option Nat} (hS : h_S n SH) (hF : h_FR FR) (a1 : Int32) (g0 : 0 ≤ (FI 121 13).toInt ∧ (FI 121 13).toInt ≤ 1000) : hw sk base d none 155 0 [(0, .ref (base + 121)), (1, .int (a1))] [] (n, sl, SH, FI, FL, FR) (h_I (fun r s => ∃ FI' FL', s = (n, sl, SH, FI', FL', FR) ∧ h_fr FI FI' [0, 13] [] ∧ FL = FL' ∧ (0 ≤ ((FI' 121 13)).toInt ∧ ((FI' 121 13)).toInt ≤ 1000))) := by
  have rg_a1 := i_rng a1
  refine hw_aloadn (aX12_end 0 rfl) rfl ?_
  refine hw_ic (v := (0 : Int32)) (aX12_end 1 rfl) (by decide) ?_
  refine hw_puti (aX12_end 2 rfl) wf_RX12_187 (c121 hS) (s121 hS) (by decide) rfl rfl ?_
  refine xw_iloadn (aX12_end 3 rfl) rfl ?_
  refine hw_iflt (tgt := 17) (aX12_end 4 rfl) (by decide) rfl (fun cd1 => ?_) (fun cd1 => ?_)
  · refine hw_ic (v := ((-1) : Int32)) (aX12_end 9 rfl) (by decide) ?_
    refine xw_iret (aX12_end 10 rfl) rfl rfl ?_
    have e2 : (((-1) : Int32)).toInt = (-1) := (by decide : ((-1) : Int32).toInt = (-1))
    exact ⟨((-1) : Int32), rfl, _, _, rfl, (fr_up fr_rf (by decide)), rfl, (by show 0 ≤ ((FI 121 13)).toInt ∧ ((FI 121 13)).toInt ≤ 1000; omega)⟩
  · refine xw_iloadn (aX12_end 5 rfl) rfl ?_
    refine hw_aloadn (aX12_end 6 rfl) rfl ?_
    refine hw_get (v := .int (FI 121 13)) (aX12_end 7 rfl) wf_RX12_190 (c121 hS) (s121 hS) (by decide) (congrArg Value.int (show (h_up FI 121 0 ((0 : Int32))) 121 13 = FI 121 13 from rfl)) ?_
    refine hw_icle (tgt := 19) (aX12_end 8 rfl) (by decide) rfl rfl (fun cd3 => ?_) (fun cd3 => ?_)
    · refine hw_aloadn (aX12_end 11 rfl) rfl ?_
      refine xw_iloadn (aX12_end 12 rfl) rfl ?_
      refine hw_puti (aX12_end 13 rfl) wf_RX12_190 (c121 hS) (s121 hS) (by decide) rfl rfl ?_
      refine xw_iloadn (aX12_end 14 rfl) rfl ?_
      refine xw_iret (aX12_end 15 rfl) rfl rfl ?_
      have e4 : (a1).toInt = (a1).toInt := rfl
      exact ⟨a1, rfl, _, _, rfl, (fr_up (fr_up fr_rf (by decide)) (by decide)), rfl, (by show 0 ≤ ((a1)).toInt ∧ ((a1)).toInt ≤ 1000; omega)⟩
    · refine hw_ic (v := ((-1) : Int32)) (aX12_end 9 rfl) (by decide) ?_
      refine xw_iret (aX12_end 10 rfl) rfl rfl ?_
      have e5 : (((-1) : Int32)).toInt = (-1) := (by decide : ((-1) : Int32).toInt = (-1))
      exact ⟨((-1) : Int32), rfl, _, _, rfl, (fr_up fr_rf (by decide)), rfl, (by show 0 ≤ ((FI 121 13)).toInt ∧ ((FI 121 13)).toInt ≤ 1000; omega)⟩
def nX12_load : Nat := 0xac0450201b0700b42aac030500a41f101b09009b1bbb00b5032a
theorem bX12_load : cX12_load.data.toList.map UInt8.toNat = x_un nX12_load 26 := by decide +kernel
def iX12_load : List (Nat × Jvm.ClassFile.Instr × Nat) := [(0, .aload_n 0, 1), (1, .iconst 0, 1), (2, .putfield 187, 3), (5, .iload_n 1, 1), (6, .ifCond .lt 9, 3), (9, .iload_n 1, 1), (10, .bipush 31, 2), (12, .if_icmp .le 5, 3), (15, .iconst 0, 1), (16, .ireturn, 1), (17, .aload_n 0, 1), (18, .getfield 7, 3), (21, .iload_n 1, 1), (22, .lload_n 2, 1), (23, .lastore, 1), (24, .iconst 1, 1), (25, .ireturn, 1)]
theorem dX12_load : x_il nX12_load 26 iX12_load = true := by decide +kernel
theorem aX12_load (k : Nat) {pc : Nat} {i : Jvm.ClassFile.Instr} {len : Nat} (hk : iX12_load[k]? = some (pc, i, len)) : x_at xMM 159 pc i len yX12_load 4 (some .boolean) := ⟨cX12_load, rfl, x_il_ok bX12_load dX12_load k hk⟩
set_option maxHeartbeats 4000000 in
set_option maxRecDepth 100000 in
theorem m_load {sk : xK} {base d n sl : Nat} {SH : Nat → Nat × Nat} {FI : Nat → Nat → Int32} {FL : Nat → Nat → Int64} {FR : Nat → Nat → Option Nat} (hS : h_S n SH) (hF : h_FR FR) (a1 : Int32) (a2 : Int64) : hw sk base d none 159 0 [(0, .ref (base + 121)), (1, .int (a1)), (2, .long (a2))] [] (n, sl, SH, FI, FL, FR) (h_I (fun r s => ∃ FI' FL', s = (n, sl, SH, FI', FL', FR) ∧ h_fr FI FI' [0] [] ∧ h_fr FL FL' [] [122] ∧ (0 ≤ r.toInt ∧ r.toInt ≤ 1))) := by
  have rg_a1 := i_rng a1
  have rg_a2 := l_rng a2
  refine hw_aloadn (aX12_load 0 rfl) rfl ?_
  refine hw_ic (v := (0 : Int32)) (aX12_load 1 rfl) (by decide) ?_
  refine hw_puti (aX12_load 2 rfl) wf_RX12_187 (c121 hS) (s121 hS) (by decide) rfl rfl ?_
  refine xw_iloadn (aX12_load 3 rfl) rfl ?_
  refine hw_iflt (tgt := 15) (aX12_load 4 rfl) (by decide) rfl (fun cd1 => ?_) (fun cd1 => ?_)
  · refine hw_ic (v := (0 : Int32)) (aX12_load 8 rfl) (by decide) ?_
    refine xw_iret (aX12_load 9 rfl) rfl (by decide) ?_
    have e2 : ((0 : Int32)).toInt = 0 := (by decide : (0 : Int32).toInt = 0)
    exact ⟨(0 : Int32), rfl, _, _, rfl, (fr_up fr_rf (by decide)), fr_rf, (by show 0 ≤ ((0 : Int32)).toInt ∧ ((0 : Int32)).toInt ≤ 1; omega)⟩
  · refine xw_iloadn (aX12_load 5 rfl) rfl ?_
    refine hw_bp (v := (31 : Int32)) (aX12_load 6 rfl) (by decide) ?_
    refine hw_icle (tgt := 17) (aX12_load 7 rfl) (by decide) rfl (by decide : (31 : Int32).toInt = 31) (fun cd3 => ?_) (fun cd3 => ?_)
    · refine hw_aloadn (aX12_load 10 rfl) rfl ?_
      refine hw_get (v := .ref (base + 122)) (aX12_load 11 rfl) wf_RX12_7 (c121 hS) (s121 hS) (by decide) (congrArg (fun r => va_rf (h_rf base r)) (r121_1 hF)) ?_
      refine xw_iloadn (aX12_load 12 rfl) rfl ?_
      refine xw_lloadn (aX12_load 13 rfl) rfl ?_
      refine hw_last (aX12_load 14 rfl) (c122 hS) (s122 hS) (h_in rfl (by omega) (by omega)) ?_
      refine hw_ic (v := (1 : Int32)) (aX12_load 15 rfl) (by decide) ?_
      refine xw_iret (aX12_load 16 rfl) rfl (by decide) ?_
      have e4 : ((1 : Int32)).toInt = 1 := (by decide : (1 : Int32).toInt = 1)
      exact ⟨(1 : Int32), rfl, _, _, rfl, (fr_up fr_rf (by decide)), (fr_ua fr_rf (by decide) (by decide)), (by show 0 ≤ ((1 : Int32)).toInt ∧ ((1 : Int32)).toInt ≤ 1; omega)⟩
    · refine hw_ic (v := (0 : Int32)) (aX12_load 8 rfl) (by decide) ?_
      refine xw_iret (aX12_load 9 rfl) rfl (by decide) ?_
      have e5 : ((0 : Int32)).toInt = 0 := (by decide : (0 : Int32).toInt = 0)
      exact ⟨(0 : Int32), rfl, _, _, rfl, (fr_up fr_rf (by decide)), fr_rf, (by show 0 ≤ ((0 : Int32)).toInt ∧ ((0 : Int32)).toInt ≤ 1; omega)⟩
def nX12_register : Nat := 0xad2f1b0700b42a0900a7090700a41f101b09009b1bbb00b5032a
theorem bX12_register : cX12_register.data.toList.map UInt8.toNat = x_un nX12_register 26 := by decide +kernel
def iX12_register : List (Nat × Jvm.ClassFile.Instr × Nat) := [(0, .aload_n 0, 1), (1, .iconst 0, 1), (2, .putfield 187, 3), (5, .iload_n 1, 1), (6, .ifCond .lt 9, 3), (9, .iload_n 1, 1), (10, .bipush 31, 2), (12, .if_icmp .le 7, 3), (15, .lconst 0, 1), (16, .goto 9, 3), (19, .aload_n 0, 1), (20, .getfield 7, 3), (23, .iload_n 1, 1), (24, .laload, 1), (25, .lreturn, 1)]
theorem dX12_register : x_il nX12_register 26 iX12_register = true := by decide +kernel
theorem aX12_register (k : Nat) {pc : Nat} {i : Jvm.ClassFile.Instr} {len : Nat} (hk : iX12_register[k]? = some (pc, i, len)) : x_at xMM 160 pc i len yX12_register 2 (some .long) := ⟨cX12_register, rfl, x_il_ok bX12_register dX12_register k hk⟩
set_option maxHeartbeats 4000000 in
set_option maxRecDepth 100000 in
theorem m_register {sk : xK} {base d n sl : Nat} {SH : Nat → Nat × Nat} {FI : Nat → Nat → Int32} {FL : Nat → Nat → Int64} {FR : Nat → Nat → Option Nat} (hS : h_S n SH) (hF : h_FR FR) (a1 : Int32) : hw sk base d none 160 0 [(0, .ref (base + 121)), (1, .int (a1))] [] (n, sl, SH, FI, FL, FR) (h_J (fun r s => ∃ FI' FL', s = (n, sl, SH, FI', FL', FR) ∧ h_fr FI FI' [0] [] ∧ FL = FL')) := by
  have rg_a1 := i_rng a1
  refine hw_aloadn (aX12_register 0 rfl) rfl ?_
  refine hw_ic (v := (0 : Int32)) (aX12_register 1 rfl) (by decide) ?_
  refine hw_puti (aX12_register 2 rfl) wf_RX12_187 (c121 hS) (s121 hS) (by decide) rfl rfl ?_
  refine xw_iloadn (aX12_register 3 rfl) rfl ?_
  refine hw_iflt (tgt := 15) (aX12_register 4 rfl) (by decide) rfl (fun cd1 => ?_) (fun cd1 => ?_)
  · refine hw_lc (v := (0 : Int64)) (aX12_register 8 rfl) (by decide) ?_
    refine xw_goto (tgt := 25) (aX12_register 9 rfl) (by decide) ?_
    refine xw_lret (aX12_register 14 rfl) rfl ?_
    have e2 : ((0 : Int64)).toInt = 0 := (by decide : (0 : Int64).toInt = 0)
    exact ⟨(0 : Int64), rfl, _, _, rfl, (fr_up fr_rf (by decide)), rfl⟩
  · refine xw_iloadn (aX12_register 5 rfl) rfl ?_
    refine hw_bp (v := (31 : Int32)) (aX12_register 6 rfl) (by decide) ?_
    refine hw_icle (tgt := 19) (aX12_register 7 rfl) (by decide) rfl (by decide : (31 : Int32).toInt = 31) (fun cd3 => ?_) (fun cd3 => ?_)
    · refine hw_aloadn (aX12_register 10 rfl) rfl ?_
      refine hw_get (v := .ref (base + 122)) (aX12_register 11 rfl) wf_RX12_7 (c121 hS) (s121 hS) (by decide) (congrArg (fun r => va_rf (h_rf base r)) (r121_1 hF)) ?_
      refine xw_iloadn (aX12_register 12 rfl) rfl ?_
      refine hw_lald (v := FL 122 (a1).toNatClampNeg) (aX12_register 13 rfl) (c122 hS) (s122 hS) (h_in rfl (by omega) (by omega)) rfl ?_
      refine hw_tl (fun x4 => ?_)
      have b5 := l_rng x4
      refine xw_lret (aX12_register 14 rfl) rfl ?_
      have e6 : (x4).toInt = (x4).toInt := rfl
      exact ⟨x4, rfl, _, _, rfl, (fr_up fr_rf (by decide)), rfl⟩
    · refine hw_lc (v := (0 : Int64)) (aX12_register 8 rfl) (by decide) ?_
      refine xw_goto (tgt := 25) (aX12_register 9 rfl) (by decide) ?_
      refine xw_lret (aX12_register 14 rfl) rfl ?_
      have e7 : ((0 : Int64)).toInt = 0 := (by decide : (0 : Int64).toInt = 0)
      exact ⟨(0 : Int64), rfl, _, _, rfl, (fr_up fr_rf (by decide)), rfl⟩
def nX12_poke : Nat := 0xac044f7eff00111c1b0d00b42aac030500a4ff0f111b0a009b1bbb00b5032a
theorem bX12_poke : cX12_poke.data.toList.map UInt8.toNat = x_un nX12_poke 31 := by decide +kernel
def iX12_poke : List (Nat × Jvm.ClassFile.Instr × Nat) := [(0, .aload_n 0, 1), (1, .iconst 0, 1), (2, .putfield 187, 3), (5, .iload_n 1, 1), (6, .ifCond .lt 10, 3), (9, .iload_n 1, 1), (10, .sipush 4095, 3), (13, .if_icmp .le 5, 3), (16, .iconst 0, 1), (17, .ireturn, 1), (18, .aload_n 0, 1), (19, .getfield 13, 3), (22, .iload_n 1, 1), (23, .iload_n 2, 1), (24, .sipush 255, 3), (27, .iand, 1), (28, .iastore, 1), (29, .iconst 1, 1), (30, .ireturn, 1)]
theorem dX12_poke : x_il nX12_poke 31 iX12_poke = true := by decide +kernel
theorem aX12_poke (k : Nat) {pc : Nat} {i : Jvm.ClassFile.Instr} {len : Nat} (hk : iX12_poke[k]? = some (pc, i, len)) : x_at xMM 161 pc i len yX12_poke 3 (some .boolean) := ⟨cX12_poke, rfl, x_il_ok bX12_poke dX12_poke k hk⟩
set_option maxHeartbeats 4000000 in
set_option maxRecDepth 100000 in
theorem m_poke {sk : xK} {base d n sl : Nat} {SH : Nat → Nat × Nat} {FI : Nat → Nat → Int32} {FL : Nat → Nat → Int64} {FR : Nat → Nat → Option Nat} (hS : h_S n SH) (hF : h_FR FR) (a1 : Int32) (a2 : Int32) : hw sk base d none 161 0 [(0, .ref (base + 121)), (1, .int (a1)), (2, .int (a2))] [] (n, sl, SH, FI, FL, FR) (h_I (fun r s => ∃ FI' FL', s = (n, sl, SH, FI', FL', FR) ∧ h_fr FI FI' [0] [123] ∧ FL = FL' ∧ (0 ≤ r.toInt ∧ r.toInt ≤ 1))) := by
  have rg_a1 := i_rng a1
  have rg_a2 := i_rng a2
  refine hw_aloadn (aX12_poke 0 rfl) rfl ?_
  refine hw_ic (v := (0 : Int32)) (aX12_poke 1 rfl) (by decide) ?_
  refine hw_puti (aX12_poke 2 rfl) wf_RX12_187 (c121 hS) (s121 hS) (by decide) rfl rfl ?_
  refine xw_iloadn (aX12_poke 3 rfl) rfl ?_
  refine hw_iflt (tgt := 16) (aX12_poke 4 rfl) (by decide) rfl (fun cd1 => ?_) (fun cd1 => ?_)
  · refine hw_ic (v := (0 : Int32)) (aX12_poke 8 rfl) (by decide) ?_
    refine xw_iret (aX12_poke 9 rfl) rfl (by decide) ?_
    have e2 : ((0 : Int32)).toInt = 0 := (by decide : (0 : Int32).toInt = 0)
    exact ⟨(0 : Int32), rfl, _, _, rfl, (fr_up fr_rf (by decide)), rfl, (by show 0 ≤ ((0 : Int32)).toInt ∧ ((0 : Int32)).toInt ≤ 1; omega)⟩
  · refine xw_iloadn (aX12_poke 5 rfl) rfl ?_
    refine hw_sp (v := (4095 : Int32)) (aX12_poke 6 rfl) (by decide) ?_
    refine hw_icle (tgt := 18) (aX12_poke 7 rfl) (by decide) rfl (by decide : (4095 : Int32).toInt = 4095) (fun cd3 => ?_) (fun cd3 => ?_)
    · refine hw_aloadn (aX12_poke 10 rfl) rfl ?_
      refine hw_get (v := .ref (base + 123)) (aX12_poke 11 rfl) wf_RX12_13 (c121 hS) (s121 hS) (by decide) (congrArg (fun r => va_rf (h_rf base r)) (r121_2 hF)) ?_
      refine xw_iloadn (aX12_poke 12 rfl) rfl ?_
      refine xw_iloadn (aX12_poke 13 rfl) rfl ?_
      refine hw_sp (v := (255 : Int32)) (aX12_poke 14 rfl) (by decide) ?_
      refine xw_iand (aX12_poke 15 rfl) ?_
      refine hw_tib (lo := 0) (hi := 255) (i_and (x := a2) (m := (255 : Int32)) (M := 255) (by decide) (by decide)) (fun x4 b5 => ?_)
      refine hw_iast (aX12_poke 16 rfl) (c123 hS) (s123 hS) (h_in rfl (by omega) (by omega)) ?_
      refine hw_ic (v := (1 : Int32)) (aX12_poke 17 rfl) (by decide) ?_
      refine xw_iret (aX12_poke 18 rfl) rfl (by decide) ?_
      have e6 : ((1 : Int32)).toInt = 1 := (by decide : (1 : Int32).toInt = 1)
      exact ⟨(1 : Int32), rfl, _, _, rfl, (fr_ua (fr_up fr_rf (by decide)) (by decide) (by decide)), rfl, (by show 0 ≤ ((1 : Int32)).toInt ∧ ((1 : Int32)).toInt ≤ 1; omega)⟩
    · refine hw_ic (v := (0 : Int32)) (aX12_poke 8 rfl) (by decide) ?_
      refine xw_iret (aX12_poke 9 rfl) rfl (by decide) ?_
      have e7 : ((0 : Int32)).toInt = 0 := (by decide : (0 : Int32).toInt = 0)
      exact ⟨(0 : Int32), rfl, _, _, rfl, (fr_up fr_rf (by decide)), rfl, (by show 0 ≤ ((0 : Int32)).toInt ∧ ((0 : Int32)).toInt ≤ 1; omega)⟩
def nX12_peek : Nat := 0xac2e1b0d00b42a0900a7020700a4ff0f111b0a009b1bbb00b5032a
theorem bX12_peek : cX12_peek.data.toList.map UInt8.toNat = x_un nX12_peek 27 := by decide +kernel
def iX12_peek : List (Nat × Jvm.ClassFile.Instr × Nat) := [(0, .aload_n 0, 1), (1, .iconst 0, 1), (2, .putfield 187, 3), (5, .iload_n 1, 1), (6, .ifCond .lt 10, 3), (9, .iload_n 1, 1), (10, .sipush 4095, 3), (13, .if_icmp .le 7, 3), (16, .iconst (-1), 1), (17, .goto 9, 3), (20, .aload_n 0, 1), (21, .getfield 13, 3), (24, .iload_n 1, 1), (25, .iaload, 1), (26, .ireturn, 1)]
theorem dX12_peek : x_il nX12_peek 27 iX12_peek = true := by decide +kernel
theorem aX12_peek (k : Nat) {pc : Nat} {i : Jvm.ClassFile.Instr} {len : Nat} (hk : iX12_peek[k]? = some (pc, i, len)) : x_at xMM 162 pc i len yX12_peek 2 (some .int) := ⟨cX12_peek, rfl, x_il_ok bX12_peek dX12_peek k hk⟩
set_option maxHeartbeats 4000000 in
set_option maxRecDepth 100000 in
theorem m_peek {sk : xK} {base d n sl : Nat} {SH : Nat → Nat × Nat} {FI : Nat → Nat → Int32} {FL : Nat → Nat → Int64} {FR : Nat → Nat → Option Nat} (hS : h_S n SH) (hF : h_FR FR) (a1 : Int32) : hw sk base d none 162 0 [(0, .ref (base + 121)), (1, .int (a1))] [] (n, sl, SH, FI, FL, FR) (h_I (fun r s => ∃ FI' FL', s = (n, sl, SH, FI', FL', FR) ∧ h_fr FI FI' [0] [] ∧ FL = FL')) := by
  have rg_a1 := i_rng a1
  refine hw_aloadn (aX12_peek 0 rfl) rfl ?_
  refine hw_ic (v := (0 : Int32)) (aX12_peek 1 rfl) (by decide) ?_
  refine hw_puti (aX12_peek 2 rfl) wf_RX12_187 (c121 hS) (s121 hS) (by decide) rfl rfl ?_
  refine xw_iloadn (aX12_peek 3 rfl) rfl ?_
  refine hw_iflt (tgt := 16) (aX12_peek 4 rfl) (by decide) rfl (fun cd1 => ?_) (fun cd1 => ?_)
  · refine hw_ic (v := ((-1) : Int32)) (aX12_peek 8 rfl) (by decide) ?_
    refine xw_goto (tgt := 26) (aX12_peek 9 rfl) (by decide) ?_
    refine xw_iret (aX12_peek 14 rfl) rfl rfl ?_
    have e2 : (((-1) : Int32)).toInt = (-1) := (by decide : ((-1) : Int32).toInt = (-1))
    exact ⟨((-1) : Int32), rfl, _, _, rfl, (fr_up fr_rf (by decide)), rfl⟩
  · refine xw_iloadn (aX12_peek 5 rfl) rfl ?_
    refine hw_sp (v := (4095 : Int32)) (aX12_peek 6 rfl) (by decide) ?_
    refine hw_icle (tgt := 20) (aX12_peek 7 rfl) (by decide) rfl (by decide : (4095 : Int32).toInt = 4095) (fun cd3 => ?_) (fun cd3 => ?_)
    · refine hw_aloadn (aX12_peek 10 rfl) rfl ?_
      refine hw_get (v := .ref (base + 123)) (aX12_peek 11 rfl) wf_RX12_13 (c121 hS) (s121 hS) (by decide) (congrArg (fun r => va_rf (h_rf base r)) (r121_2 hF)) ?_
      refine xw_iloadn (aX12_peek 12 rfl) rfl ?_
      refine hw_iald (v := FI 123 (a1).toNatClampNeg) (aX12_peek 13 rfl) (c123 hS) (s123 hS) (h_in rfl (by omega) (by omega)) rfl ?_
      refine hw_ti (fun x4 => ?_)
      have b5 := i_rng x4
      refine xw_iret (aX12_peek 14 rfl) rfl rfl ?_
      have e6 : (x4).toInt = (x4).toInt := rfl
      exact ⟨x4, rfl, _, _, rfl, (fr_up fr_rf (by decide)), rfl⟩
    · refine hw_ic (v := ((-1) : Int32)) (aX12_peek 8 rfl) (by decide) ?_
      refine xw_goto (tgt := 26) (aX12_peek 9 rfl) (by decide) ?_
      refine xw_iret (aX12_peek 14 rfl) rfl rfl ?_
      have e7 : (((-1) : Int32)).toInt = (-1) := (by decide : ((-1) : Int32).toInt = (-1))
      exact ⟨((-1) : Int32), rfl, _, _, rfl, (fr_up fr_rf (by decide)), rfl⟩
def nX12_frame : Nat := 0xac041700b51b2aac030500a40f101b0900a1021bbb00b5032a
theorem bX12_frame : cX12_frame.data.toList.map UInt8.toNat = x_un nX12_frame 25 := by decide +kernel
def iX12_frame : List (Nat × Jvm.ClassFile.Instr × Nat) := [(0, .aload_n 0, 1), (1, .iconst 0, 1), (2, .putfield 187, 3), (5, .iload_n 1, 1), (6, .iconst (-1), 1), (7, .if_icmp .lt 9, 3), (10, .iload_n 1, 1), (11, .bipush 15, 2), (13, .if_icmp .le 5, 3), (16, .iconst 0, 1), (17, .ireturn, 1), (18, .aload_n 0, 1), (19, .iload_n 1, 1), (20, .putfield 23, 3), (23, .iconst 1, 1), (24, .ireturn, 1)]
theorem dX12_frame : x_il nX12_frame 25 iX12_frame = true := by decide +kernel
theorem aX12_frame (k : Nat) {pc : Nat} {i : Jvm.ClassFile.Instr} {len : Nat} (hk : iX12_frame[k]? = some (pc, i, len)) : x_at xMM 163 pc i len yX12_frame 2 (some .boolean) := ⟨cX12_frame, rfl, x_il_ok bX12_frame dX12_frame k hk⟩
set_option maxHeartbeats 4000000 in
set_option maxRecDepth 100000 in
theorem m_frame {sk : xK} {base d n sl : Nat} {SH : Nat → Nat × Nat} {FI : Nat → Nat → Int32} {FL : Nat → Nat → Int64} {FR : Nat → Nat → Option Nat} (hS : h_S n SH) (hF : h_FR FR) (a1 : Int32) (g0 : -1 ≤ (FI 121 5).toInt ∧ (FI 121 5).toInt ≤ 15) : hw sk base d none 163 0 [(0, .ref (base + 121)), (1, .int (a1))] [] (n, sl, SH, FI, FL, FR) (h_I (fun r s => ∃ FI' FL', s = (n, sl, SH, FI', FL', FR) ∧ h_fr FI FI' [0, 5] [] ∧ FL = FL' ∧ (-1 ≤ ((FI' 121 5)).toInt ∧ ((FI' 121 5)).toInt ≤ 15) ∧ (0 ≤ r.toInt ∧ r.toInt ≤ 1))) := by
  have rg_a1 := i_rng a1
  refine hw_aloadn (aX12_frame 0 rfl) rfl ?_
  refine hw_ic (v := (0 : Int32)) (aX12_frame 1 rfl) (by decide) ?_
  refine hw_puti (aX12_frame 2 rfl) wf_RX12_187 (c121 hS) (s121 hS) (by decide) rfl rfl ?_
  refine xw_iloadn (aX12_frame 3 rfl) rfl ?_
  refine hw_ic (v := ((-1) : Int32)) (aX12_frame 4 rfl) (by decide) ?_
  refine hw_iclt (tgt := 16) (aX12_frame 5 rfl) (by decide) rfl (by decide : ((-1) : Int32).toInt = (-1)) (fun cd1 => ?_) (fun cd1 => ?_)
  · refine hw_ic (v := (0 : Int32)) (aX12_frame 9 rfl) (by decide) ?_
    refine xw_iret (aX12_frame 10 rfl) rfl (by decide) ?_
    have e2 : ((0 : Int32)).toInt = 0 := (by decide : (0 : Int32).toInt = 0)
    exact ⟨(0 : Int32), rfl, _, _, rfl, (fr_up fr_rf (by decide)), rfl, (by show -1 ≤ ((FI 121 5)).toInt ∧ ((FI 121 5)).toInt ≤ 15; omega), (by show 0 ≤ ((0 : Int32)).toInt ∧ ((0 : Int32)).toInt ≤ 1; omega)⟩
  · refine xw_iloadn (aX12_frame 6 rfl) rfl ?_
    refine hw_bp (v := (15 : Int32)) (aX12_frame 7 rfl) (by decide) ?_
    refine hw_icle (tgt := 18) (aX12_frame 8 rfl) (by decide) rfl (by decide : (15 : Int32).toInt = 15) (fun cd3 => ?_) (fun cd3 => ?_)
    · refine hw_aloadn (aX12_frame 11 rfl) rfl ?_
      refine xw_iloadn (aX12_frame 12 rfl) rfl ?_
      refine hw_puti (aX12_frame 13 rfl) wf_RX12_23 (c121 hS) (s121 hS) (by decide) rfl rfl ?_
      refine hw_ic (v := (1 : Int32)) (aX12_frame 14 rfl) (by decide) ?_
      refine xw_iret (aX12_frame 15 rfl) rfl (by decide) ?_
      have e4 : ((1 : Int32)).toInt = 1 := (by decide : (1 : Int32).toInt = 1)
      exact ⟨(1 : Int32), rfl, _, _, rfl, (fr_up (fr_up fr_rf (by decide)) (by decide)), rfl, (by show -1 ≤ ((a1)).toInt ∧ ((a1)).toInt ≤ 15; omega), (by show 0 ≤ ((1 : Int32)).toInt ∧ ((1 : Int32)).toInt ≤ 1; omega)⟩
    · refine hw_ic (v := (0 : Int32)) (aX12_frame 9 rfl) (by decide) ?_
      refine xw_iret (aX12_frame 10 rfl) rfl (by decide) ?_
      have e5 : ((0 : Int32)).toInt = 0 := (by decide : (0 : Int32).toInt = 0)
      exact ⟨(0 : Int32), rfl, _, _, rfl, (fr_up fr_rf (by decide)), rfl, (by show -1 ≤ ((FI 121 5)).toInt ∧ ((FI 121 5)).toInt ≤ 15; omega), (by show 0 ≤ ((0 : Int32)).toInt ∧ ((0 : Int32)).toInt ≤ 1; omega)⟩
def nX12_cfa : Nat := 0xac04c900b5202a1b00b51b2aac030500a41f101b0900a1021bbb00b5032a
theorem bX12_cfa : cX12_cfa.data.toList.map UInt8.toNat = x_un nX12_cfa 30 := by decide +kernel
def iX12_cfa : List (Nat × Jvm.ClassFile.Instr × Nat) := [(0, .aload_n 0, 1), (1, .iconst 0, 1), (2, .putfield 187, 3), (5, .iload_n 1, 1), (6, .iconst (-1), 1), (7, .if_icmp .lt 9, 3), (10, .iload_n 1, 1), (11, .bipush 31, 2), (13, .if_icmp .le 5, 3), (16, .iconst 0, 1), (17, .ireturn, 1), (18, .aload_n 0, 1), (19, .iload_n 1, 1), (20, .putfield 27, 3), (23, .aload_n 0, 1), (24, .lload_n 2, 1), (25, .putfield 201, 3), (28, .iconst 1, 1), (29, .ireturn, 1)]
theorem dX12_cfa : x_il nX12_cfa 30 iX12_cfa = true := by decide +kernel
theorem aX12_cfa (k : Nat) {pc : Nat} {i : Jvm.ClassFile.Instr} {len : Nat} (hk : iX12_cfa[k]? = some (pc, i, len)) : x_at xMM 164 pc i len yX12_cfa 4 (some .boolean) := ⟨cX12_cfa, rfl, x_il_ok bX12_cfa dX12_cfa k hk⟩
set_option maxHeartbeats 4000000 in
set_option maxRecDepth 100000 in
theorem m_cfa {sk : xK} {base d n sl : Nat} {SH : Nat → Nat × Nat} {FI : Nat → Nat → Int32} {FL : Nat → Nat → Int64} {FR : Nat → Nat → Option Nat} (hS : h_S n SH) (hF : h_FR FR) (a1 : Int32) (a2 : Int64) (g0 : -1 ≤ (FI 121 6).toInt ∧ (FI 121 6).toInt ≤ 31) : hw sk base d none 164 0 [(0, .ref (base + 121)), (1, .int (a1)), (2, .long (a2))] [] (n, sl, SH, FI, FL, FR) (h_I (fun r s => ∃ FI' FL', s = (n, sl, SH, FI', FL', FR) ∧ h_fr FI FI' [0, 6] [] ∧ h_fr FL FL' [7] [] ∧ (-1 ≤ ((FI' 121 6)).toInt ∧ ((FI' 121 6)).toInt ≤ 31) ∧ (0 ≤ r.toInt ∧ r.toInt ≤ 1))) := by
  have rg_a1 := i_rng a1
  have rg_a2 := l_rng a2
  refine hw_aloadn (aX12_cfa 0 rfl) rfl ?_
  refine hw_ic (v := (0 : Int32)) (aX12_cfa 1 rfl) (by decide) ?_
  refine hw_puti (aX12_cfa 2 rfl) wf_RX12_187 (c121 hS) (s121 hS) (by decide) rfl rfl ?_
  refine xw_iloadn (aX12_cfa 3 rfl) rfl ?_
  refine hw_ic (v := ((-1) : Int32)) (aX12_cfa 4 rfl) (by decide) ?_
  refine hw_iclt (tgt := 16) (aX12_cfa 5 rfl) (by decide) rfl (by decide : ((-1) : Int32).toInt = (-1)) (fun cd1 => ?_) (fun cd1 => ?_)
  · refine hw_ic (v := (0 : Int32)) (aX12_cfa 9 rfl) (by decide) ?_
    refine xw_iret (aX12_cfa 10 rfl) rfl (by decide) ?_
    have e2 : ((0 : Int32)).toInt = 0 := (by decide : (0 : Int32).toInt = 0)
    exact ⟨(0 : Int32), rfl, _, _, rfl, (fr_up fr_rf (by decide)), fr_rf, (by show -1 ≤ ((FI 121 6)).toInt ∧ ((FI 121 6)).toInt ≤ 31; omega), (by show 0 ≤ ((0 : Int32)).toInt ∧ ((0 : Int32)).toInt ≤ 1; omega)⟩
  · refine xw_iloadn (aX12_cfa 6 rfl) rfl ?_
    refine hw_bp (v := (31 : Int32)) (aX12_cfa 7 rfl) (by decide) ?_
    refine hw_icle (tgt := 18) (aX12_cfa 8 rfl) (by decide) rfl (by decide : (31 : Int32).toInt = 31) (fun cd3 => ?_) (fun cd3 => ?_)
    · refine hw_aloadn (aX12_cfa 11 rfl) rfl ?_
      refine xw_iloadn (aX12_cfa 12 rfl) rfl ?_
      refine hw_puti (aX12_cfa 13 rfl) wf_RX12_27 (c121 hS) (s121 hS) (by decide) rfl rfl ?_
      refine hw_aloadn (aX12_cfa 14 rfl) rfl ?_
      refine xw_lloadn (aX12_cfa 15 rfl) rfl ?_
      refine hw_putl (aX12_cfa 16 rfl) wf_RX12_201 (c121 hS) (s121 hS) (by decide) rfl rfl ?_
      refine hw_ic (v := (1 : Int32)) (aX12_cfa 17 rfl) (by decide) ?_
      refine xw_iret (aX12_cfa 18 rfl) rfl (by decide) ?_
      have e4 : ((1 : Int32)).toInt = 1 := (by decide : (1 : Int32).toInt = 1)
      exact ⟨(1 : Int32), rfl, _, _, rfl, (fr_up (fr_up fr_rf (by decide)) (by decide)), (fr_up fr_rf (by decide)), (by show -1 ≤ ((a1)).toInt ∧ ((a1)).toInt ≤ 31; omega), (by show 0 ≤ ((1 : Int32)).toInt ∧ ((1 : Int32)).toInt ≤ 1; omega)⟩
    · refine hw_ic (v := (0 : Int32)) (aX12_cfa 9 rfl) (by decide) ?_
      refine xw_iret (aX12_cfa 10 rfl) rfl (by decide) ?_
      have e5 : ((0 : Int32)).toInt = 0 := (by decide : (0 : Int32).toInt = 0)
      exact ⟨(0 : Int32), rfl, _, _, rfl, (fr_up fr_rf (by decide)), fr_rf, (by show -1 ≤ ((FI 121 6)).toInt ∧ ((FI 121 6)).toInt ≤ 31; omega), (by show 0 ≤ ((0 : Int32)).toInt ∧ ((0 : Int32)).toInt ≤ 1; omega)⟩
def nX12_set : Nat := 0xac04d700b504152ad400b5202a0e00a7d000b504152acd00b5202a11009a1bac030500a4041b08009b1bbb00b5032a
theorem bX12_set : cX12_set.data.toList.map UInt8.toNat = x_un nX12_set 47 := by decide +kernel
def iX12_set : List (Nat × Jvm.ClassFile.Instr × Nat) := [(0, .aload_n 0, 1), (1, .iconst 0, 1), (2, .putfield 187, 3), (5, .iload_n 1, 1), (6, .ifCond .lt 8, 3), (9, .iload_n 1, 1), (10, .iconst 1, 1), (11, .if_icmp .le 5, 3), (14, .iconst 0, 1), (15, .ireturn, 1), (16, .iload_n 1, 1), (17, .ifCond .ne 17, 3), (20, .aload_n 0, 1), (21, .lload_n 2, 1), (22, .putfield 205, 3), (25, .aload_n 0, 1), (26, .iload 4, 2), (28, .putfield 208, 3), (31, .goto 14, 3), (34, .aload_n 0, 1), (35, .lload_n 2, 1), (36, .putfield 212, 3), (39, .aload_n 0, 1), (40, .iload 4, 2), (42, .putfield 215, 3), (45, .iconst 1, 1), (46, .ireturn, 1)]
theorem dX12_set : x_il nX12_set 47 iX12_set = true := by decide +kernel
theorem aX12_set (k : Nat) {pc : Nat} {i : Jvm.ClassFile.Instr} {len : Nat} (hk : iX12_set[k]? = some (pc, i, len)) : x_at xMM 165 pc i len yX12_set 5 (some .boolean) := ⟨cX12_set, rfl, x_il_ok bX12_set dX12_set k hk⟩
set_option maxHeartbeats 4000000 in
set_option maxRecDepth 100000 in
theorem m_set {sk : xK} {base d n sl : Nat} {SH : Nat → Nat × Nat} {FI : Nat → Nat → Int32} {FL : Nat → Nat → Int64} {FR : Nat → Nat → Option Nat} (hS : h_S n SH) (hF : h_FR FR) (a1 : Int32) (a2 : Int64) (a3 : Int32) (g0 : 0 ≤ (a3).toInt ∧ (a3).toInt ≤ 1) : hw sk base d none 165 0 [(0, .ref (base + 121)), (1, .int (a1)), (2, .long (a2)), (4, .int (a3))] [] (n, sl, SH, FI, FL, FR) (h_I (fun r s => ∃ FI' FL', s = (n, sl, SH, FI', FL', FR) ∧ h_fr FI FI' [0, 10, 11] [] ∧ h_fr FL FL' [8, 9] [] ∧ (0 ≤ r.toInt ∧ r.toInt ≤ 1))) := by
  have rg_a1 := i_rng a1
  have rg_a2 := l_rng a2
  have rg_a3 := i_rng a3
  refine hw_aloadn (aX12_set 0 rfl) rfl ?_
  refine hw_ic (v := (0 : Int32)) (aX12_set 1 rfl) (by decide) ?_
  refine hw_puti (aX12_set 2 rfl) wf_RX12_187 (c121 hS) (s121 hS) (by decide) rfl rfl ?_
  refine xw_iloadn (aX12_set 3 rfl) rfl ?_
  refine hw_iflt (tgt := 14) (aX12_set 4 rfl) (by decide) rfl (fun cd1 => ?_) (fun cd1 => ?_)
  · refine hw_ic (v := (0 : Int32)) (aX12_set 8 rfl) (by decide) ?_
    refine xw_iret (aX12_set 9 rfl) rfl (by decide) ?_
    have e2 : ((0 : Int32)).toInt = 0 := (by decide : (0 : Int32).toInt = 0)
    exact ⟨(0 : Int32), rfl, _, _, rfl, (fr_up fr_rf (by decide)), fr_rf, (by show 0 ≤ ((0 : Int32)).toInt ∧ ((0 : Int32)).toInt ≤ 1; omega)⟩
  · refine xw_iloadn (aX12_set 5 rfl) rfl ?_
    refine hw_ic (v := (1 : Int32)) (aX12_set 6 rfl) (by decide) ?_
    refine hw_icle (tgt := 16) (aX12_set 7 rfl) (by decide) rfl (by decide : (1 : Int32).toInt = 1) (fun cd3 => ?_) (fun cd3 => ?_)
    · refine xw_iloadn (aX12_set 10 rfl) rfl ?_
      refine hw_ifne (tgt := 34) (aX12_set 11 rfl) (by decide) rfl (fun cd4 => ?_) (fun cd4 => ?_)
      · refine hw_aloadn (aX12_set 19 rfl) rfl ?_
        refine xw_lloadn (aX12_set 20 rfl) rfl ?_
        refine hw_putl (aX12_set 21 rfl) wf_RX12_212 (c121 hS) (s121 hS) (by decide) rfl rfl ?_
        refine hw_aloadn (aX12_set 22 rfl) rfl ?_
        refine xw_iload (aX12_set 23 rfl) rfl ?_
        refine hw_putz (aX12_set 24 rfl) wf_RX12_215 (c121 hS) (s121 hS) (by decide) rfl rfl (i_01 rfl (by omega) (by omega)) ?_
        refine hw_ic (v := (1 : Int32)) (aX12_set 25 rfl) (by decide) ?_
        refine xw_iret (aX12_set 26 rfl) rfl (by decide) ?_
        have e5 : ((1 : Int32)).toInt = 1 := (by decide : (1 : Int32).toInt = 1)
        exact ⟨(1 : Int32), rfl, _, _, rfl, (fr_up (fr_up fr_rf (by decide)) (by decide)), (fr_up fr_rf (by decide)), (by show 0 ≤ ((1 : Int32)).toInt ∧ ((1 : Int32)).toInt ≤ 1; omega)⟩
      · refine hw_aloadn (aX12_set 12 rfl) rfl ?_
        refine xw_lloadn (aX12_set 13 rfl) rfl ?_
        refine hw_putl (aX12_set 14 rfl) wf_RX12_205 (c121 hS) (s121 hS) (by decide) rfl rfl ?_
        refine hw_aloadn (aX12_set 15 rfl) rfl ?_
        refine xw_iload (aX12_set 16 rfl) rfl ?_
        refine hw_putz (aX12_set 17 rfl) wf_RX12_208 (c121 hS) (s121 hS) (by decide) rfl rfl (i_01 rfl (by omega) (by omega)) ?_
        refine xw_goto (tgt := 45) (aX12_set 18 rfl) (by decide) ?_
        refine hw_ic (v := (1 : Int32)) (aX12_set 25 rfl) (by decide) ?_
        refine xw_iret (aX12_set 26 rfl) rfl (by decide) ?_
        have e6 : ((1 : Int32)).toInt = 1 := (by decide : (1 : Int32).toInt = 1)
        exact ⟨(1 : Int32), rfl, _, _, rfl, (fr_up (fr_up fr_rf (by decide)) (by decide)), (fr_up fr_rf (by decide)), (by show 0 ≤ ((1 : Int32)).toInt ∧ ((1 : Int32)).toInt ≤ 1; omega)⟩
    · refine hw_ic (v := (0 : Int32)) (aX12_set 8 rfl) (by decide) ?_
      refine xw_iret (aX12_set 9 rfl) rfl (by decide) ?_
      have e7 : ((0 : Int32)).toInt = 0 := (by decide : (0 : Int32).toInt = 0)
      exact ⟨(0 : Int32), rfl, _, _, rfl, (fr_up fr_rf (by decide)), fr_rf, (by show 0 ≤ ((0 : Int32)).toInt ∧ ((0 : Int32)).toInt ≤ 1; omega)⟩
def nX12_feed : Nat := 0xacbe00b42ac100b605152ac100b604152ac100b61d2ac100b61c2ac100b61b2aac020500a4e80311601410be00b42abb00b5032a
theorem bX12_feed : cX12_feed.data.toList.map UInt8.toNat = x_un nX12_feed 52 := by decide +kernel
def iX12_feed : List (Nat × Jvm.ClassFile.Instr × Nat) := [(0, .aload_n 0, 1), (1, .iconst 0, 1), (2, .putfield 187, 3), (5, .aload_n 0, 1), (6, .getfield 190, 3), (9, .bipush 20, 2), (11, .iadd, 1), (12, .sipush 1000, 3), (15, .if_icmp .le 5, 3), (18, .iconst (-1), 1), (19, .ireturn, 1), (20, .aload_n 0, 1), (21, .iload_n 1, 1), (22, .invokevirtual 193, 3), (25, .aload_n 0, 1), (26, .iload_n 2, 1), (27, .invokevirtual 193, 3), (30, .aload_n 0, 1), (31, .iload_n 3, 1), (32, .invokevirtual 193, 3), (35, .aload_n 0, 1), (36, .iload 4, 2), (38, .invokevirtual 193, 3), (41, .aload_n 0, 1), (42, .iload 5, 2), (44, .invokevirtual 193, 3), (47, .aload_n 0, 1), (48, .getfield 190, 3), (51, .ireturn, 1)]
theorem dX12_feed : x_il nX12_feed 52 iX12_feed = true := by decide +kernel
theorem aX12_feed (k : Nat) {pc : Nat} {i : Jvm.ClassFile.Instr} {len : Nat} (hk : iX12_feed[k]? = some (pc, i, len)) : x_at xMM 154 pc i len yX12_feed 6 (some .int) := ⟨cX12_feed, rfl, x_il_ok bX12_feed dX12_feed k hk⟩
set_option maxHeartbeats 4000000 in
set_option maxRecDepth 100000 in
theorem m_feed {sk : xK} {base d n sl : Nat} {SH : Nat → Nat × Nat} {FI : Nat → Nat → Int32} {FL : Nat → Nat → Int64} {FR : Nat → Nat → Option Nat} (hS : h_S n SH) (hF : h_FR FR) (a1 : Int32) (a2 : Int32) (a3 : Int32) (a4 : Int32) (a5 : Int32) (g0 : 0 ≤ (FI 121 13).toInt ∧ (FI 121 13).toInt ≤ 1000) (ai126 : h_ai 126 1000 0 255 FI) : hw sk base (d + 1) none 154 0 [(0, .ref (base + 121)), (1, .int (a1)), (2, .int (a2)), (3, .int (a3)), (4, .int (a4)), (5, .int (a5))] [] (n, sl, SH, FI, FL, FR) (h_I (fun r s => ∃ FI' FL', s = (n, sl, SH, FI', FL', FR) ∧ h_fr FI FI' [0, 13] [126] ∧ FL = FL' ∧ (0 ≤ ((FI' 121 13)).toInt ∧ ((FI' 121 13)).toInt ≤ 1000) ∧ h_ai 126 1000 0 255 FI')) := by
  have rg_a1 := i_rng a1
  have rg_a2 := i_rng a2
  have rg_a3 := i_rng a3
  have rg_a4 := i_rng a4
  have rg_a5 := i_rng a5
  refine hw_aloadn (aX12_feed 0 rfl) rfl ?_
  refine hw_ic (v := (0 : Int32)) (aX12_feed 1 rfl) (by decide) ?_
  refine hw_puti (aX12_feed 2 rfl) wf_RX12_187 (c121 hS) (s121 hS) (by decide) rfl rfl ?_
  refine hw_aloadn (aX12_feed 3 rfl) rfl ?_
  refine hw_get (v := .int (FI 121 13)) (aX12_feed 4 rfl) wf_RX12_190 (c121 hS) (s121 hS) (by decide) (congrArg Value.int (show (h_up FI 121 0 ((0 : Int32))) 121 13 = FI 121 13 from rfl)) ?_
  refine hw_bp (v := (20 : Int32)) (aX12_feed 5 rfl) (by decide) ?_
  refine xw_iadd (aX12_feed 6 rfl) ?_
  refine hw_tie (A := ((FI 121 13).toInt) + (20)) (i_add rfl (by decide : (20 : Int32).toInt = 20) (by omega) (by omega)) (fun x1 e2 => ?_)
  refine hw_sp (v := (1000 : Int32)) (aX12_feed 7 rfl) (by decide) ?_
  refine hw_icle (tgt := 20) (aX12_feed 8 rfl) (by decide) e2 (by decide : (1000 : Int32).toInt = 1000) (fun cd3 => ?_) (fun cd3 => ?_)
  · refine hw_aloadn (aX12_feed 11 rfl) rfl ?_
    refine xw_iloadn (aX12_feed 12 rfl) rfl ?_
    refine hw_callV (Bs := [.int (a1)]) (rest := []) (aX12_feed 13 rfl) wc_RX12_193 (by decide) rfl wi_yX12_puts wv_yX12_puts (c121 hS) (s121 hS) rfl rfl rfl (Nat.le_of_ble_eq_true rfl) (Nat.le_of_ble_eq_true rfl) (m_puts (d := d) hS hF (a1) (by show 0 ≤ ((h_up FI 121 0 ((0 : Int32))) 121 13).toInt ∧ ((h_up FI 121 0 ((0 : Int32))) 121 13).toInt ≤ 996; rw [show (h_up FI 121 0 ((0 : Int32))) 121 13 = FI 121 13 from rfl]; show 0 ≤ (FI 121 13).toInt ∧ (FI 121 13).toInt ≤ 996; omega) (show h_ai 126 1000 0 255 (h_up FI 121 0 ((0 : Int32))) from (show h_ai 126 1000 0 255 (h_up FI 121 0 ((0 : Int32))) from (ai_nc ai126 (by decide))))) (fun v4 sv5 p6 => ?_)
    obtain ⟨rfl, FI8, FL9, rfl, f7I, rfl, t11, ai12⟩ := p6
    rw [show (h_up FI 121 0 ((0 : Int32))) 121 13 = FI 121 13 from rfl] at t11
    show hw sk base _ none _ _ _ [] _ _
    refine hw_aloadn (aX12_feed 14 rfl) rfl ?_
    refine xw_iloadn (aX12_feed 15 rfl) rfl ?_
    refine hw_callV (Bs := [.int (a2)]) (rest := []) (aX12_feed 16 rfl) wc_RX12_193 (by decide) rfl wi_yX12_puts wv_yX12_puts (c121 hS) (s121 hS) rfl rfl rfl (Nat.le_of_ble_eq_true rfl) (Nat.le_of_ble_eq_true rfl) (m_puts (d := d) hS hF (a2) (by show 0 ≤ ((FI8) 121 13).toInt ∧ ((FI8) 121 13).toInt ≤ 996; rw [show (FI8) 121 13 = FI8 121 13 from rfl]; show 0 ≤ (FI8 121 13).toInt ∧ (FI8 121 13).toInt ≤ 996; omega) (show h_ai 126 1000 0 255 (FI8) from ai12)) (fun v13 sv14 p15 => ?_)
    obtain ⟨rfl, FI17, FL18, rfl, f16I, rfl, t20, ai21⟩ := p15
    rw [show (FI8) 121 13 = FI8 121 13 from rfl] at t20
    show hw sk base _ none _ _ _ [] _ _
    refine hw_aloadn (aX12_feed 17 rfl) rfl ?_
    refine xw_iloadn (aX12_feed 18 rfl) rfl ?_
    refine hw_callV (Bs := [.int (a3)]) (rest := []) (aX12_feed 19 rfl) wc_RX12_193 (by decide) rfl wi_yX12_puts wv_yX12_puts (c121 hS) (s121 hS) rfl rfl rfl (Nat.le_of_ble_eq_true rfl) (Nat.le_of_ble_eq_true rfl) (m_puts (d := d) hS hF (a3) (by show 0 ≤ ((FI17) 121 13).toInt ∧ ((FI17) 121 13).toInt ≤ 996; rw [show (FI17) 121 13 = FI17 121 13 from rfl]; show 0 ≤ (FI17 121 13).toInt ∧ (FI17 121 13).toInt ≤ 996; omega) (show h_ai 126 1000 0 255 (FI17) from ai21)) (fun v22 sv23 p24 => ?_)
    obtain ⟨rfl, FI26, FL27, rfl, f25I, rfl, t29, ai30⟩ := p24
    rw [show (FI17) 121 13 = FI17 121 13 from rfl] at t29
    show hw sk base _ none _ _ _ [] _ _
    refine hw_aloadn (aX12_feed 20 rfl) rfl ?_
    refine xw_iload (aX12_feed 21 rfl) rfl ?_
    refine hw_callV (Bs := [.int (a4)]) (rest := []) (aX12_feed 22 rfl) wc_RX12_193 (by decide) rfl wi_yX12_puts wv_yX12_puts (c121 hS) (s121 hS) rfl rfl rfl (Nat.le_of_ble_eq_true rfl) (Nat.le_of_ble_eq_true rfl) (m_puts (d := d) hS hF (a4) (by show 0 ≤ ((FI26) 121 13).toInt ∧ ((FI26) 121 13).toInt ≤ 996; rw [show (FI26) 121 13 = FI26 121 13 from rfl]; show 0 ≤ (FI26 121 13).toInt ∧ (FI26 121 13).toInt ≤ 996; omega) (show h_ai 126 1000 0 255 (FI26) from ai30)) (fun v31 sv32 p33 => ?_)
    obtain ⟨rfl, FI35, FL36, rfl, f34I, rfl, t38, ai39⟩ := p33
    rw [show (FI26) 121 13 = FI26 121 13 from rfl] at t38
    show hw sk base _ none _ _ _ [] _ _
    refine hw_aloadn (aX12_feed 23 rfl) rfl ?_
    refine xw_iload (aX12_feed 24 rfl) rfl ?_
    refine hw_callV (Bs := [.int (a5)]) (rest := []) (aX12_feed 25 rfl) wc_RX12_193 (by decide) rfl wi_yX12_puts wv_yX12_puts (c121 hS) (s121 hS) rfl rfl rfl (Nat.le_of_ble_eq_true rfl) (Nat.le_of_ble_eq_true rfl) (m_puts (d := d) hS hF (a5) (by show 0 ≤ ((FI35) 121 13).toInt ∧ ((FI35) 121 13).toInt ≤ 996; rw [show (FI35) 121 13 = FI35 121 13 from rfl]; show 0 ≤ (FI35 121 13).toInt ∧ (FI35 121 13).toInt ≤ 996; omega) (show h_ai 126 1000 0 255 (FI35) from ai39)) (fun v40 sv41 p42 => ?_)
    obtain ⟨rfl, FI44, FL45, rfl, f43I, rfl, t47, ai48⟩ := p42
    rw [show (FI35) 121 13 = FI35 121 13 from rfl] at t47
    show hw sk base _ none _ _ _ [] _ _
    refine hw_aloadn (aX12_feed 26 rfl) rfl ?_
    refine hw_get (v := .int (FI44 121 13)) (aX12_feed 27 rfl) wf_RX12_190 (c121 hS) (s121 hS) (by decide) (congrArg Value.int (show FI44 121 13 = FI44 121 13 from rfl)) ?_
    refine xw_iret (aX12_feed 28 rfl) rfl rfl ?_
    have e49 : (FI44 121 13).toInt = (FI44 121 13).toInt := rfl
    exact ⟨FI44 121 13, rfl, _, _, rfl, (fr_tr (fr_tr (fr_tr (fr_tr (fr_tr (fr_up fr_rf (by decide)) f7I (by decide) (by decide)) f16I (by decide) (by decide)) f25I (by decide) (by decide)) f34I (by decide) (by decide)) f43I (by decide) (by decide)), rfl, (by show 0 ≤ ((FI44 121 13)).toInt ∧ ((FI44 121 13)).toInt ≤ 1000; omega), ai48⟩
  · refine hw_ic (v := ((-1) : Int32)) (aX12_feed 9 rfl) (by decide) ?_
    refine xw_iret (aX12_feed 10 rfl) rfl rfl ?_
    have e50 : (((-1) : Int32)).toInt = (-1) := (by decide : ((-1) : Int32).toInt = (-1))
    exact ⟨((-1) : Int32), rfl, _, _, rfl, (fr_up fr_rf (by decide)), rfl, (by show 0 ≤ ((FI 121 13)).toInt ∧ ((FI 121 13)).toInt ≤ 1000; omega), (show h_ai 126 1000 0 255 (h_up FI 121 0 ((0 : Int32))) from (ai_nc ai126 (by decide)))⟩
