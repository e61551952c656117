def nX12_keep : Nat := 0xac2e1b1400b42abe00b5032a4fbe00b42a1b1400b42ae7ffa70103844f2e1d1e00b42a601d1c1100b42a1700a2be00b42a1d3e03ac020500a4580211be00b42a
theorem bX12_keep : cX12_keep.data.toList.map UInt8.toNat = x_un nX12_keep 64 := by decide +kernel
def iX12_keep : List (Nat × Jvm.ClassFile.Instr × Nat) := [(0, .aload_n 0, 1), (1, .getfield 190, 3), (4, .sipush 600, 3), (7, .if_icmp .le 5, 3), (10, .iconst (-1), 1), (11, .ireturn, 1), (12, .iconst 0, 1), (13, .istore_n 3, 1), (14, .iload_n 3, 1), (15, .aload_n 0, 1), (16, .getfield 190, 3), (19, .if_icmp .ge 23, 3), (22, .aload_n 0, 1), (23, .getfield 17, 3), (26, .iload_n 2, 1), (27, .iload_n 3, 1), (28, .iadd, 1), (29, .aload_n 0, 1), (30, .getfield 30, 3), (33, .iload_n 3, 1), (34, .iaload, 1), (35, .iastore, 1), (36, .iinc 3 1, 3), (39, .goto (-25), 3), (42, .aload_n 0, 1), (43, .getfield 20, 3), (46, .iload_n 1, 1), (47, .aload_n 0, 1), (48, .getfield 190, 3), (51, .iastore, 1), (52, .aload_n 0, 1), (53, .iconst 0, 1), (54, .putfield 190, 3), (57, .aload_n 0, 1), (58, .getfield 20, 3), (61, .iload_n 1, 1), (62, .iaload, 1), (63, .ireturn, 1)]
theorem dX12_keep : x_il nX12_keep 64 iX12_keep = true := by decide +kernel
theorem aX12_keep (k : Nat) {pc : Nat} {i : Jvm.ClassFile.Instr} {len : Nat} (hk : iX12_keep[k]? = some (pc, i, len)) : x_at xMM 156 pc i len yX12_keep 4 (some .int) := ⟨cX12_keep, rfl, x_il_ok bX12_keep dX12_keep k hk⟩
set_option maxHeartbeats 4000000 in
set_option maxRecDepth 100000 in
theorem m_keep {base d n sl : Nat} {SH : Nat → Nat × Nat} {FI : Nat → Nat → Int32} {FL : Nat → Nat → Int64} {FR : Nat → Nat → Option Nat} (hS : h_S n SH) (hF : h_FR FR) (a1 : Int32) (a2 : Int32) (g0 : 0 ≤ (a1).toInt ∧ (a1).toInt ≤ 31) (g1 : 0 ≤ (a2).toInt ∧ (a2).toInt ≤ 18600) (g2 : 0 ≤ (FI 121 13).toInt ∧ (FI 121 13).toInt ≤ 1000) (ai125 : h_ai 125 32 0 600 FI) : hw base d none 156 0 [(0, .ref (base + 121)), (1, .int (a1)), (2, .int (a2))] [] (n, sl, SH, FI, FL, FR) (h_I (fun r s => ∃ FI' FL', s = (n, sl, SH, FI', FL', FR) ∧ h_fr FI FI' [13] [124, 125] ∧ h_fr FL FL' [] [] ∧ (0 ≤ ((FI' 121 13)).toInt ∧ ((FI' 121 13)).toInt ≤ 1000) ∧ h_ai 125 32 0 600 FI')) := by
  have rg_a1 := i_rng a1
  have rg_a2 := i_rng a2
  refine hw_aloadn (aX12_keep 0 rfl) rfl ?_
  refine hw_get (v := .int (FI 121 13)) (aX12_keep 1 rfl) wf_RX12_190 (c121 hS) (s121 hS) (by decide) (congrArg Value.int (show FI 121 13 = FI 121 13 from rfl)) ?_
  refine hw_sp (v := (600 : Int32)) (aX12_keep 2 rfl) (by decide) ?_
  refine hw_icle (tgt := 12) (aX12_keep 3 rfl) (by decide) rfl (by decide : (600 : Int32).toInt = 600) (fun c1 => ?_) (fun c1 => ?_)
  · refine hw_ic (v := (0 : Int32)) (aX12_keep 6 rfl) (by decide) ?_
    refine xw_istoren (L2 := [(3, .int ((0 : Int32))), (0, .ref (base + 121)), (1, .int (a1)), (2, .int (a2))]) (aX12_keep 7 rfl) (by decide) rfl ?_
    have lp2 : ∀ (m : Nat) (i : Int32) (FIv3 : Nat → Nat → Int32), (h_fr FI FIv3 [13] [124, 125]) → (FIv3 121 13 = FI 121 13) → (h_ai 125 32 0 600 FIv3) → (0 ≤ (i).toInt) → ((i).toInt ≤ (FI 121 13).toInt) → (FI 121 13).toInt - (i).toInt < m → hw base d none 156 14 [(3, .int (i)), (0, .ref (base + 121)), (1, .int (a1)), (2, .int (a2))] [] (n, sl, SH, FIv3, FL, FR) (h_I (fun r s => ∃ FI' FL', s = (n, sl, SH, FI', FL', FR) ∧ h_fr FI FI' [13] [124, 125] ∧ h_fr FL FL' [] [] ∧ (0 ≤ ((FI' 121 13)).toInt ∧ ((FI' 121 13)).toInt ≤ 1000) ∧ h_ai 125 32 0 600 FI')) := by
      intro m
      induction m with
      | zero => intro i FIv3 frI kp4 ai5 iv6 iv7 hm; omega
      | succ m ih =>
        intro i FIv3 frI kp4 ai5 iv6 iv7 hm
        have rg_i := i_rng i
        refine xw_iloadn (aX12_keep 8 rfl) rfl ?_
        refine hw_aloadn (aX12_keep 9 rfl) rfl ?_
        refine hw_get (v := .int (FI 121 13)) (aX12_keep 10 rfl) wf_RX12_190 (c121 hS) (s121 hS) (by decide) (congrArg Value.int (show FIv3 121 13 = FI 121 13 from kp4)) ?_
        refine hw_icge (tgt := 42) (aX12_keep 11 rfl) (by decide) rfl rfl (fun c8 => ?_) (fun c8 => ?_)
        · refine hw_aloadn (aX12_keep 24 rfl) rfl ?_
          refine hw_get (v := .ref (base + 125)) (aX12_keep 25 rfl) wf_RX12_20 (c121 hS) (s121 hS) (by decide) (congrArg (fun r => va_rf (h_rf base r)) (r121_4 hF)) ?_
          refine xw_iloadn (aX12_keep 26 rfl) rfl ?_
          refine hw_aloadn (aX12_keep 27 rfl) rfl ?_
          refine hw_get (v := .int (FI 121 13)) (aX12_keep 28 rfl) wf_RX12_190 (c121 hS) (s121 hS) (by decide) (congrArg Value.int (show FIv3 121 13 = FI 121 13 from kp4)) ?_
          refine hw_iast (aX12_keep 29 rfl) (c125 hS) (s125 hS) (h_in rfl (by omega) (by omega)) ?_
          have e9 : h_ai 125 32 0 600 (h_up FIv3 125 (a1).toNatClampNeg (FI 121 13)) := ai_up ai5 rfl (by omega) (by omega)
          refine hw_aloadn (aX12_keep 30 rfl) rfl ?_
          refine hw_ic (v := (0 : Int32)) (aX12_keep 31 rfl) (by decide) ?_
          refine hw_puti (aX12_keep 32 rfl) wf_RX12_190 (c121 hS) (s121 hS) (by decide) rfl rfl ?_
          refine hw_aloadn (aX12_keep 33 rfl) rfl ?_
          refine hw_get (v := .ref (base + 125)) (aX12_keep 34 rfl) wf_RX12_20 (c121 hS) (s121 hS) (by decide) (congrArg (fun r => va_rf (h_rf base r)) (r121_4 hF)) ?_
          refine xw_iloadn (aX12_keep 35 rfl) rfl ?_
          refine hw_iald (v := (h_up (h_up FIv3 125 (a1).toNatClampNeg (FI 121 13)) 121 13 ((0 : Int32))) 125 (a1).toNatClampNeg) (aX12_keep 36 rfl) (c125 hS) (s125 hS) (h_in rfl (by omega) (by omega)) rfl ?_
          have e10 : 0 ≤ ((h_up (h_up FIv3 125 (a1).toNatClampNeg (FI 121 13)) 121 13 ((0 : Int32))) 125 (a1).toNatClampNeg).toInt ∧ ((h_up (h_up FIv3 125 (a1).toNatClampNeg (FI 121 13)) 121 13 ((0 : Int32))) 125 (a1).toNatClampNeg).toInt ≤ 600 := ai_at e9 rfl (by omega) (by omega)
          refine xw_iret (aX12_keep 37 rfl) rfl rfl ?_
          have e11 : ((h_up (h_up FIv3 125 (a1).toNatClampNeg (FI 121 13)) 121 13 ((0 : Int32))) 125 (a1).toNatClampNeg).toInt = ((h_up (h_up FIv3 125 (a1).toNatClampNeg (FI 121 13)) 121 13 ((0 : Int32))) 125 (a1).toNatClampNeg).toInt := rfl
          have e12 : ((0 : Int32)).toInt = 0 := (by decide : (0 : Int32).toInt = 0)
          exact ⟨(h_up (h_up FIv3 125 (a1).toNatClampNeg (FI 121 13)) 121 13 ((0 : Int32))) 125 (a1).toNatClampNeg, rfl, _, _, rfl, (fr_up (fr_ua frI (by decide) (by decide)) (by decide)), fr_rf, (by show 0 ≤ (((0 : Int32))).toInt ∧ (((0 : Int32))).toInt ≤ 1000; omega), e9⟩
        · refine hw_aloadn (aX12_keep 12 rfl) rfl ?_
          refine hw_get (v := .ref (base + 124)) (aX12_keep 13 rfl) wf_RX12_17 (c121 hS) (s121 hS) (by decide) (congrArg (fun r => va_rf (h_rf base r)) (r121_3 hF)) ?_
          refine xw_iloadn (aX12_keep 14 rfl) rfl ?_
          refine xw_iloadn (aX12_keep 15 rfl) rfl ?_
          refine xw_iadd (aX12_keep 16 rfl) ?_
          have e13 : ((a2) + (i)).toInt = ((a2).toInt) + ((i).toInt) := i_add rfl rfl (by omega) (by omega)
          refine hw_aloadn (aX12_keep 17 rfl) rfl ?_
          refine hw_get (v := .ref (base + 126)) (aX12_keep 18 rfl) wf_RX12_30 (c121 hS) (s121 hS) (by decide) (congrArg (fun r => va_rf (h_rf base r)) (r121_12 hF)) ?_
          refine xw_iloadn (aX12_keep 19 rfl) rfl ?_
          refine hw_iald (v := FIv3 126 (i).toNatClampNeg) (aX12_keep 20 rfl) (c126 hS) (s126 hS) (h_in rfl (by omega) (by omega)) rfl ?_
          have e14 := i_rng (FIv3 126 (i).toNatClampNeg)
          refine hw_iast (aX12_keep 21 rfl) (c124 hS) (s124 hS) (h_in e13 (by omega) (by omega)) ?_
          have e15 : (i + Int32.ofInt (1)).toInt = (i).toInt + (1) := i_add rfl (by decide) (by omega) (by omega)
          refine xw_iinc (L2 := [(3, .int (i + Int32.ofInt (1))), (0, .ref (base + 121)), (1, .int (a1)), (2, .int (a2))]) (aX12_keep 22 rfl) rfl (by decide) rfl ?_
          refine xw_goto (tgt := 14) (aX12_keep 23 rfl) (by decide) ?_
          exact ih (i + Int32.ofInt (1)) (h_up FIv3 124 ((a2) + (i)).toNatClampNeg (FIv3 126 (i).toNatClampNeg)) (fr_ua frI (by decide) (by decide)) (show (h_up FIv3 124 ((a2) + (i)).toNatClampNeg (FIv3 126 (i).toNatClampNeg)) 121 13 = _ from kp4) ai5 (by have := (e15 : (i + Int32.ofInt (1)).toInt = (i).toInt + (1)); show 0 ≤ ((i + Int32.ofInt (1))).toInt; omega) (by have := (e15 : (i + Int32.ofInt (1)).toInt = (i).toInt + (1)); show ((i + Int32.ofInt (1))).toInt ≤ (FI 121 13).toInt; omega) (by have := (e15 : (i + Int32.ofInt (1)).toInt = (i).toInt + (1)); show (FI 121 13).toInt - ((i + Int32.ofInt (1))).toInt < _; omega)
    exact lp2 (((FI 121 13).toInt - (((0 : Int32))).toInt).toNat + 1) ((0 : Int32)) (FI) fr_rf (show (FI) 121 13 = _ from rfl) ai125 (by have := ((by decide : (0 : Int32).toInt = 0) : ((0 : Int32)).toInt = 0); show 0 ≤ (((0 : Int32))).toInt; omega) (by have := ((by decide : (0 : Int32).toInt = 0) : ((0 : Int32)).toInt = 0); show (((0 : Int32))).toInt ≤ (FI 121 13).toInt; omega) (by have := ((by decide : (0 : Int32).toInt = 0) : ((0 : Int32)).toInt = 0); show (FI 121 13).toInt - (((0 : Int32))).toInt < _; omega)
  · refine hw_ic (v := ((-1) : Int32)) (aX12_keep 4 rfl) (by decide) ?_
    refine xw_iret (aX12_keep 5 rfl) rfl rfl ?_
    have e16 : (((-1) : Int32)).toInt = (-1) := (by decide : ((-1) : Int32).toInt = (-1))
    exact ⟨((-1) : Int32), rfl, _, _, rfl, fr_rf, fr_rf, (by show 0 ≤ ((FI 121 13)).toInt ∧ ((FI 121 13)).toInt ≤ 1000; omega), ai125⟩
