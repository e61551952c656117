def nX12_keep : Nat := 0xac2e1b1400b42abe00b5032a4fbe00b42a1b1400b42ae7ffa70103844f2e1d1e00b42a601d1c1100b42a1700a2be00b42a1d3e03ac020500a4580211be00b42a
theorem bX12_keep : cX12_keep.data.toList.map UInt8.toNat = x_un nX12_keep 64 := by decide +kernel
def iX12_keep : List (Nat × Jvm.ClassFile.Instr × Nat) := [(0, .aload_n 0, 1), (1, .getfield 190, 3), (4, .sipush 600, 3), (7, .if_icmp .le 5, 3), (10, .iconst (-1), 1), (11, .ireturn, 1), (12, .iconst 0, 1), (13, .istore_n 3, 1), (14, .iload_n 3, 1), (15, .aload_n 0, 1), (16, .getfield 190, 3), (19, .if_icmp .ge 23, 3), (22, .aload_n 0, 1), (23, .getfield 17, 3), (26, .iload_n 2, 1), (27, .iload_n 3, 1), (28, .iadd, 1), (29, .aload_n 0, 1), (30, .getfield 30, 3), (33, .iload_n 3, 1), (34, .iaload, 1), (35, .iastore, 1), (36, .iinc 3 1, 3), (39, .goto (-25), 3), (42, .aload_n 0, 1), (43, .getfield 20, 3), (46, .iload_n 1, 1), (47, .aload_n 0, 1), (48, .getfield 190, 3), (51, .iastore, 1), (52, .aload_n 0, 1), (53, .iconst 0, 1), (54, .putfield 190, 3), (57, .aload_n 0, 1), (58, .getfield 20, 3), (61, .iload_n 1, 1), (62, .iaload, 1), (63, .ireturn, 1)]
theorem dX12_keep : x_il nX12_keep 64 iX12_keep = true := by decide +kernel
theorem aX12_keep (k : Nat) {pc : Nat} {i : Jvm.ClassFile.Instr} {len : Nat} (hk : iX12_keep[k]? = some (pc, i, len)) : x_at xMM 156 pc i len yX12_keep 4 (some .int) := ⟨cX12_keep, rfl, x_il_ok bX12_keep dX12_keep k hk⟩
set_option maxHeartbeats 4000000 in
set_option maxRecDepth 100000 in
theorem m_keep {sk : xK} {base d n sl : Nat} {SH : Nat → Nat × Nat} {FI : Nat → Nat → Int32} {FL : Nat → Nat → Int64} {FR : Nat → Nat → Option Nat} (hS : h_S n SH) (hF : h_FR FR) (a1 : Int32) (a2 : Int32) (g0 : 0 ≤ (a1).toInt ∧ (a1).toInt ≤ 31) (g1 : 0 ≤ (a2).toInt ∧ (a2).toInt ≤ 18600) (g2 : 0 ≤ (FI 121 13).toInt ∧ (FI 121 13).toInt ≤ 1000) (ai124 : h_ai 124 19200 0 255 FI) (ai125 : h_ai 125 32 0 600 FI) (ai126 : h_ai 126 1000 0 255 FI) : hw sk base d none 156 0 [(0, .ref (base + 121)), (1, .int (a1)), (2, .int (a2))] [] (n, sl, SH, FI, FL, FR) (h_I (fun r s => ∃ FI' FL', s = (n, sl, SH, FI', FL', FR) ∧ h_fr FI FI' [13] [124, 125] ∧ FL = FL' ∧ (0 ≤ ((FI' 121 13)).toInt ∧ ((FI' 121 13)).toInt ≤ 1000) ∧ h_ai 124 19200 0 255 FI' ∧ h_ai 125 32 0 600 FI')) := by
  have rg_a1 := i_rng a1
  have rg_a2 := i_rng a2
  refine hw_aloadn (aX12_keep 0 rfl) rfl ?_
  refine hw_get (v := .int (FI 121 13)) (aX12_keep 1 rfl) wf_RX12_190 (c121 hS) (s121 hS) (by decide) (congrArg Value.int (show FI 121 13 = FI 121 13 from rfl)) ?_
  refine hw_sp (v := (600 : Int32)) (aX12_keep 2 rfl) (by decide) ?_
  refine hw_icle (tgt := 12) (aX12_keep 3 rfl) (by decide) rfl (by decide : (600 : Int32).toInt = 600) (fun cd1 => ?_) (fun cd1 => ?_)
  · refine hw_ic (v := (0 : Int32)) (aX12_keep 6 rfl) (by decide) ?_
    refine xw_istoren (L2 := [(3, .int ((0 : Int32))), (0, .ref (base + 121)), (1, .int (a1)), (2, .int (a2))]) (aX12_keep 7 rfl) (by decide) rfl ?_
    have lp2 : ∀ (m : Nat) (i : Int32) (FIv3 : Nat → Nat → Int32), (h_fr FI FIv3 [13] [124, 125]) → (FIv3 121 13 = FI 121 13) → (h_ai 124 19200 0 255 FIv3) → (h_ai 125 32 0 600 FIv3) → (h_ai 126 1000 0 255 FIv3) → (0 ≤ (i).toInt) → ((i).toInt ≤ (FI 121 13).toInt) → (FI 121 13).toInt - (i).toInt < m → hw sk base d none 156 14 [(3, .int (i)), (0, .ref (base + 121)), (1, .int (a1)), (2, .int (a2))] [] (n, sl, SH, FIv3, FL, FR) (h_I (fun r s => ∃ FI' FL', s = (n, sl, SH, FI', FL', FR) ∧ h_fr FI FI' [13] [124, 125] ∧ FL = FL' ∧ (0 ≤ ((FI' 121 13)).toInt ∧ ((FI' 121 13)).toInt ≤ 1000) ∧ h_ai 124 19200 0 255 FI' ∧ h_ai 125 32 0 600 FI')) := by
      intro m
      induction m with
      | zero => intro i FIv3 frI kp4 ai5 ai6 ai7 iv8 iv9 hm; omega
      | succ m ih =>
        intro i FIv3 frI kp4 ai5 ai6 ai7 iv8 iv9 hm
        have rg_i := i_rng i
        refine xw_iloadn (aX12_keep 8 rfl) rfl ?_
        refine hw_aloadn (aX12_keep 9 rfl) rfl ?_
        refine hw_get (v := .int (FI 121 13)) (aX12_keep 10 rfl) wf_RX12_190 (c121 hS) (s121 hS) (by decide) (congrArg Value.int (show FIv3 121 13 = FI 121 13 from kp4)) ?_
        refine hw_icge (tgt := 42) (aX12_keep 11 rfl) (by decide) rfl rfl (fun cd10 => ?_) (fun cd10 => ?_)
        · refine hw_aloadn (aX12_keep 24 rfl) rfl ?_
          refine hw_get (v := .ref (base + 125)) (aX12_keep 25 rfl) wf_RX12_20 (c121 hS) (s121 hS) (by decide) (congrArg (fun r => va_rf (h_rf base r)) (r121_4 hF)) ?_
          refine xw_iloadn (aX12_keep 26 rfl) rfl ?_
          refine hw_aloadn (aX12_keep 27 rfl) rfl ?_
          refine hw_get (v := .int (FI 121 13)) (aX12_keep 28 rfl) wf_RX12_190 (c121 hS) (s121 hS) (by decide) (congrArg Value.int (show FIv3 121 13 = FI 121 13 from kp4)) ?_
          refine hw_iast (aX12_keep 29 rfl) (c125 hS) (s125 hS) (h_in rfl (by omega) (by omega)) ?_
          have e11 : h_ai 125 32 0 600 (h_up FIv3 125 (a1).toNatClampNeg (FI 121 13)) := ai_up ai6 rfl (by omega) (by omega)
          refine hw_aloadn (aX12_keep 30 rfl) rfl ?_
          refine hw_ic (v := (0 : Int32)) (aX12_keep 31 rfl) (by decide) ?_
          refine hw_puti (aX12_keep 32 rfl) wf_RX12_190 (c121 hS) (s121 hS) (by decide) rfl rfl ?_
          refine hw_aloadn (aX12_keep 33 rfl) rfl ?_
          refine hw_get (v := .ref (base + 125)) (aX12_keep 34 rfl) wf_RX12_20 (c121 hS) (s121 hS) (by decide) (congrArg (fun r => va_rf (h_rf base r)) (r121_4 hF)) ?_
          refine xw_iloadn (aX12_keep 35 rfl) rfl ?_
          refine hw_iald (v := (h_up (h_up FIv3 125 (a1).toNatClampNeg (FI 121 13)) 121 13 ((0 : Int32))) 125 (a1).toNatClampNeg) (aX12_keep 36 rfl) (c125 hS) (s125 hS) (h_in rfl (by omega) (by omega)) rfl ?_
          have e12 : 0 ≤ ((h_up (h_up FIv3 125 (a1).toNatClampNeg (FI 121 13)) 121 13 ((0 : Int32))) 125 (a1).toNatClampNeg).toInt ∧ ((h_up (h_up FIv3 125 (a1).toNatClampNeg (FI 121 13)) 121 13 ((0 : Int32))) 125 (a1).toNatClampNeg).toInt ≤ 600 := ai_at (show h_ai 125 32 0 600 (h_up (h_up FIv3 125 (a1).toNatClampNeg (FI 121 13)) 121 13 ((0 : Int32))) from (ai_nc e11 (by decide))) rfl (by omega) (by omega)
          refine xw_iret (aX12_keep 37 rfl) rfl rfl ?_
          have e13 : ((h_up (h_up FIv3 125 (a1).toNatClampNeg (FI 121 13)) 121 13 ((0 : Int32))) 125 (a1).toNatClampNeg).toInt = ((h_up (h_up FIv3 125 (a1).toNatClampNeg (FI 121 13)) 121 13 ((0 : Int32))) 125 (a1).toNatClampNeg).toInt := rfl
          have e14 : ((0 : Int32)).toInt = 0 := (by decide : (0 : Int32).toInt = 0)
          exact ⟨(h_up (h_up FIv3 125 (a1).toNatClampNeg (FI 121 13)) 121 13 ((0 : Int32))) 125 (a1).toNatClampNeg, rfl, _, _, rfl, (fr_up (fr_ua frI (by decide) (by decide)) (by decide)), rfl, (by show 0 ≤ (((0 : Int32))).toInt ∧ (((0 : Int32))).toInt ≤ 1000; omega), (show h_ai 124 19200 0 255 (h_up (h_up FIv3 125 (a1).toNatClampNeg (FI 121 13)) 121 13 ((0 : Int32))) from (ai_nc (ai_nc ai5 (by decide)) (by decide))), (show h_ai 125 32 0 600 (h_up (h_up FIv3 125 (a1).toNatClampNeg (FI 121 13)) 121 13 ((0 : Int32))) from (ai_nc e11 (by decide)))⟩
        · refine hw_aloadn (aX12_keep 12 rfl) rfl ?_
          refine hw_get (v := .ref (base + 124)) (aX12_keep 13 rfl) wf_RX12_17 (c121 hS) (s121 hS) (by decide) (congrArg (fun r => va_rf (h_rf base r)) (r121_3 hF)) ?_
          refine xw_iloadn (aX12_keep 14 rfl) rfl ?_
          refine xw_iloadn (aX12_keep 15 rfl) rfl ?_
          refine xw_iadd (aX12_keep 16 rfl) ?_
          refine hw_tie (A := ((a2).toInt) + ((i).toInt)) (i_add rfl rfl (by omega) (by omega)) (fun x15 e16 => ?_)
          refine hw_aloadn (aX12_keep 17 rfl) rfl ?_
          refine hw_get (v := .ref (base + 126)) (aX12_keep 18 rfl) wf_RX12_30 (c121 hS) (s121 hS) (by decide) (congrArg (fun r => va_rf (h_rf base r)) (r121_12 hF)) ?_
          refine xw_iloadn (aX12_keep 19 rfl) rfl ?_
          refine hw_iald (v := FIv3 126 (i).toNatClampNeg) (aX12_keep 20 rfl) (c126 hS) (s126 hS) (h_in rfl (by omega) (by omega)) rfl ?_
          have e17 : 0 ≤ (FIv3 126 (i).toNatClampNeg).toInt ∧ (FIv3 126 (i).toNatClampNeg).toInt ≤ 255 := ai_at ai7 rfl (by omega) (by omega)
          refine hw_iast (aX12_keep 21 rfl) (c124 hS) (s124 hS) (h_in e16 (by omega) (by omega)) ?_
          have e18 : h_ai 124 19200 0 255 (h_up FIv3 124 (x15).toNatClampNeg (FIv3 126 (i).toNatClampNeg)) := ai_up ai5 rfl (by omega) (by omega)
          obtain ⟨x19, q21⟩ : ∃ y : Int32, i + Int32.ofInt (1) = y := ⟨_, rfl⟩
          have e20 : (x19).toInt = (i).toInt + (1) := by rw [← q21]; exact i_add rfl (by decide) (by omega) (by omega)
          refine xw_iinc (L2 := [(3, .int (x19)), (0, .ref (base + 121)), (1, .int (a1)), (2, .int (a2))]) (aX12_keep 22 rfl) rfl (by decide) (by rw [q21]; rfl) ?_
          refine xw_goto (tgt := 14) (aX12_keep 23 rfl) (by decide) ?_
          exact hw_L (ih (x19) (h_up FIv3 124 (x15).toNatClampNeg (FIv3 126 (i).toNatClampNeg)) (fr_ua frI (by decide) (by decide)) (show (h_up FIv3 124 (x15).toNatClampNeg (FIv3 126 (i).toNatClampNeg)) 121 13 = _ from kp4) e18 (show h_ai 125 32 0 600 (h_up FIv3 124 (x15).toNatClampNeg (FIv3 126 (i).toNatClampNeg)) from (ai_nc ai6 (by decide))) (show h_ai 126 1000 0 255 (h_up FIv3 124 (x15).toNatClampNeg (FIv3 126 (i).toNatClampNeg)) from (ai_nc ai7 (by decide))) (by have := (e20 : (x19).toInt = (i).toInt + (1)); show 0 ≤ ((x19)).toInt; omega) (by have := (e20 : (x19).toInt = (i).toInt + (1)); show ((x19)).toInt ≤ (FI 121 13).toInt; omega) (by have := (e20 : (x19).toInt = (i).toInt + (1)); show (FI 121 13).toInt - ((x19)).toInt < _; omega)) ⟨rfl, rfl, rfl, rfl, trivial⟩
    exact hw_L (lp2 (((FI 121 13).toInt - (((0 : Int32))).toInt).toNat + 1) ((0 : Int32)) (FI) fr_rf (show (FI) 121 13 = _ from rfl) ai124 ai125 ai126 (by have := ((by decide : (0 : Int32).toInt = 0) : ((0 : Int32)).toInt = 0); show 0 ≤ (((0 : Int32))).toInt; omega) (by have := ((by decide : (0 : Int32).toInt = 0) : ((0 : Int32)).toInt = 0); show (((0 : Int32))).toInt ≤ (FI 121 13).toInt; omega) (by have := ((by decide : (0 : Int32).toInt = 0) : ((0 : Int32)).toInt = 0); show (FI 121 13).toInt - (((0 : Int32))).toInt < _; omega)) ⟨rfl, rfl, rfl, rfl, trivial⟩
  · refine hw_ic (v := ((-1) : Int32)) (aX12_keep 4 rfl) (by decide) ?_
    refine xw_iret (aX12_keep 5 rfl) rfl rfl ?_
    have e22 : (((-1) : Int32)).toInt = (-1) := (by decide : ((-1) : Int32).toInt = (-1))
    exact ⟨((-1) : Int32), rfl, _, _, rfl, fr_rf, rfl, (by show 0 ≤ ((FI 121 13)).toInt ∧ ((FI 121 13)).toInt ≤ 1000; omega), ai124, ai125⟩
def nX12_expression : Nat := 0xacc500b6681b5802111b2aac020500a40f101b09009b1bbb00b5032a
theorem bX12_expression : cX12_expression.data.toList.map UInt8.toNat = x_un nX12_expression 28 := by decide +kernel
def iX12_expression : List (Nat × Jvm.ClassFile.Instr × Nat) := [(0, .aload_n 0, 1), (1, .iconst 0, 1), (2, .putfield 187, 3), (5, .iload_n 1, 1), (6, .ifCond .lt 9, 3), (9, .iload_n 1, 1), (10, .bipush 15, 2), (12, .if_icmp .le 5, 3), (15, .iconst (-1), 1), (16, .ireturn, 1), (17, .aload_n 0, 1), (18, .iload_n 1, 1), (19, .sipush 600, 3), (22, .iload_n 1, 1), (23, .imul, 1), (24, .invokevirtual 197, 3), (27, .ireturn, 1)]
theorem dX12_expression : x_il nX12_expression 28 iX12_expression = true := by decide +kernel
theorem aX12_expression (k : Nat) {pc : Nat} {i : Jvm.ClassFile.Instr} {len : Nat} (hk : iX12_expression[k]? = some (pc, i, len)) : x_at xMM 157 pc i len yX12_expression 2 (some .int) := ⟨cX12_expression, rfl, x_il_ok bX12_expression dX12_expression k hk⟩
set_option maxHeartbeats 4000000 in
set_option maxRecDepth 100000 in
theorem m_expression {sk : xK} {base d n sl : Nat} {SH : Nat → Nat × Nat} {FI : Nat → Nat → Int32} {FL : Nat → Nat → Int64} {FR : Nat → Nat → Option Nat} (hS : h_S n SH) (hF : h_FR FR) (a1 : Int32) (g0 : 0 ≤ (FI 121 13).toInt ∧ (FI 121 13).toInt ≤ 1000) (ai124 : h_ai 124 19200 0 255 FI) (ai125 : h_ai 125 32 0 600 FI) (ai126 : h_ai 126 1000 0 255 FI) : hw sk base (d + 1) none 157 0 [(0, .ref (base + 121)), (1, .int (a1))] [] (n, sl, SH, FI, FL, FR) (h_I (fun r s => ∃ FI' FL', s = (n, sl, SH, FI', FL', FR) ∧ h_fr FI FI' [0, 13] [124, 125] ∧ FL = FL' ∧ (0 ≤ ((FI' 121 13)).toInt ∧ ((FI' 121 13)).toInt ≤ 1000) ∧ h_ai 124 19200 0 255 FI' ∧ h_ai 125 32 0 600 FI')) := by
  have rg_a1 := i_rng a1
  refine hw_aloadn (aX12_expression 0 rfl) rfl ?_
  refine hw_ic (v := (0 : Int32)) (aX12_expression 1 rfl) (by decide) ?_
  refine hw_puti (aX12_expression 2 rfl) wf_RX12_187 (c121 hS) (s121 hS) (by decide) rfl rfl ?_
  refine xw_iloadn (aX12_expression 3 rfl) rfl ?_
  refine hw_iflt (tgt := 15) (aX12_expression 4 rfl) (by decide) rfl (fun cd1 => ?_) (fun cd1 => ?_)
  · refine hw_ic (v := ((-1) : Int32)) (aX12_expression 8 rfl) (by decide) ?_
    refine xw_iret (aX12_expression 9 rfl) rfl rfl ?_
    have e2 : (((-1) : Int32)).toInt = (-1) := (by decide : ((-1) : Int32).toInt = (-1))
    exact ⟨((-1) : Int32), rfl, _, _, rfl, (fr_up fr_rf (by decide)), rfl, (by show 0 ≤ ((FI 121 13)).toInt ∧ ((FI 121 13)).toInt ≤ 1000; omega), (show h_ai 124 19200 0 255 (h_up FI 121 0 ((0 : Int32))) from (ai_nc ai124 (by decide))), (show h_ai 125 32 0 600 (h_up FI 121 0 ((0 : Int32))) from (ai_nc ai125 (by decide)))⟩
  · refine xw_iloadn (aX12_expression 5 rfl) rfl ?_
    refine hw_bp (v := (15 : Int32)) (aX12_expression 6 rfl) (by decide) ?_
    refine hw_icle (tgt := 17) (aX12_expression 7 rfl) (by decide) rfl (by decide : (15 : Int32).toInt = 15) (fun cd3 => ?_) (fun cd3 => ?_)
    · refine hw_aloadn (aX12_expression 10 rfl) rfl ?_
      refine xw_iloadn (aX12_expression 11 rfl) rfl ?_
      refine hw_sp (v := (600 : Int32)) (aX12_expression 12 rfl) (by decide) ?_
      refine xw_iloadn (aX12_expression 13 rfl) rfl ?_
      refine xw_imul (aX12_expression 14 rfl) ?_
      refine hw_tie (A := (600) * ((a1).toInt)) (i_mul (by decide : (600 : Int32).toInt = 600) rfl (by omega) (by omega)) (fun x4 e5 => ?_)
      refine hw_callV (Bs := [.int (a1), .int (x4)]) (rest := []) (aX12_expression 15 rfl) wc_RX12_197 (by decide) rfl wi_yX12_keep wv_yX12_keep (c121 hS) (s121 hS) rfl rfl rfl (Nat.le_of_ble_eq_true rfl) (Nat.le_of_ble_eq_true rfl) (m_keep (d := d) hS hF (a1) (x4) (by show 0 ≤ (a1).toInt ∧ (a1).toInt ≤ 31; omega) (by have := (e5 : (x4).toInt = (600) * ((a1).toInt)); show 0 ≤ (x4).toInt ∧ (x4).toInt ≤ 18600; omega) (by show 0 ≤ ((h_up FI 121 0 ((0 : Int32))) 121 13).toInt ∧ ((h_up FI 121 0 ((0 : Int32))) 121 13).toInt ≤ 1000; rw [show (h_up FI 121 0 ((0 : Int32))) 121 13 = FI 121 13 from rfl]; show 0 ≤ (FI 121 13).toInt ∧ (FI 121 13).toInt ≤ 1000; omega) (show h_ai 124 19200 0 255 (h_up FI 121 0 ((0 : Int32))) from (show h_ai 124 19200 0 255 (h_up FI 121 0 ((0 : Int32))) from (ai_nc ai124 (by decide)))) (show h_ai 125 32 0 600 (h_up FI 121 0 ((0 : Int32))) from (show h_ai 125 32 0 600 (h_up FI 121 0 ((0 : Int32))) from (ai_nc ai125 (by decide)))) (show h_ai 126 1000 0 255 (h_up FI 121 0 ((0 : Int32))) from (show h_ai 126 1000 0 255 (h_up FI 121 0 ((0 : Int32))) from (ai_nc ai126 (by decide))))) (fun v6 sv7 p8 => ?_)
      obtain ⟨r12, rfl, FI10, FL11, rfl, f9I, rfl, t13, ai14, ai15⟩ := p8
      have rg_r12 := i_rng r12
      show hw sk base _ none _ _ _ [.int (r12)] _ _
      refine xw_iret (aX12_expression 16 rfl) rfl rfl ?_
      have e16 : (r12).toInt = (r12).toInt := rfl
      exact ⟨r12, rfl, _, _, rfl, (fr_tr (fr_up fr_rf (by decide)) f9I (by decide) (by decide)), rfl, (by show 0 ≤ ((FI10 121 13)).toInt ∧ ((FI10 121 13)).toInt ≤ 1000; omega), ai14, ai15⟩
    · refine hw_ic (v := ((-1) : Int32)) (aX12_expression 8 rfl) (by decide) ?_
      refine xw_iret (aX12_expression 9 rfl) rfl rfl ?_
      have e17 : (((-1) : Int32)).toInt = (-1) := (by decide : ((-1) : Int32).toInt = (-1))
      exact ⟨((-1) : Int32), rfl, _, _, rfl, (fr_up fr_rf (by decide)), rfl, (by show 0 ≤ ((FI 121 13)).toInt ∧ ((FI 121 13)).toInt ≤ 1000; omega), (show h_ai 124 19200 0 255 (h_up FI 121 0 ((0 : Int32))) from (ai_nc ai124 (by decide))), (show h_ai 125 32 0 600 (h_up FI 121 0 ((0 : Int32))) from (ai_nc ai125 (by decide)))⟩
def nX12_list : Nat := 0xacc500b660681b580211802511601b10102aac020500a4061b08009b1bbb00b5032a
theorem bX12_list : cX12_list.data.toList.map UInt8.toNat = x_un nX12_list 34 := by decide +kernel
def iX12_list : List (Nat × Jvm.ClassFile.Instr × Nat) := [(0, .aload_n 0, 1), (1, .iconst 0, 1), (2, .putfield 187, 3), (5, .iload_n 1, 1), (6, .ifCond .lt 8, 3), (9, .iload_n 1, 1), (10, .iconst 3, 1), (11, .if_icmp .le 5, 3), (14, .iconst (-1), 1), (15, .ireturn, 1), (16, .aload_n 0, 1), (17, .bipush 16, 2), (19, .iload_n 1, 1), (20, .iadd, 1), (21, .sipush 9600, 3), (24, .sipush 600, 3), (27, .iload_n 1, 1), (28, .imul, 1), (29, .iadd, 1), (30, .invokevirtual 197, 3), (33, .ireturn, 1)]
theorem dX12_list : x_il nX12_list 34 iX12_list = true := by decide +kernel
theorem aX12_list (k : Nat) {pc : Nat} {i : Jvm.ClassFile.Instr} {len : Nat} (hk : iX12_list[k]? = some (pc, i, len)) : x_at xMM 158 pc i len yX12_list 2 (some .int) := ⟨cX12_list, rfl, x_il_ok bX12_list dX12_list k hk⟩
set_option maxHeartbeats 4000000 in
set_option maxRecDepth 100000 in
theorem m_list {sk : xK} {base d n sl : Nat} {SH : Nat → Nat × Nat} {FI : Nat → Nat → Int32} {FL : Nat → Nat → Int64} {FR : Nat → Nat → Option Nat} (hS : h_S n SH) (hF : h_FR FR) (a1 : Int32) (g0 : 0 ≤ (FI 121 13).toInt ∧ (FI 121 13).toInt ≤ 1000) (ai124 : h_ai 124 19200 0 255 FI) (ai125 : h_ai 125 32 0 600 FI) (ai126 : h_ai 126 1000 0 255 FI) : hw sk base (d + 1) none 158 0 [(0, .ref (base + 121)), (1, .int (a1))] [] (n, sl, SH, FI, FL, FR) (h_I (fun r s => ∃ FI' FL', s = (n, sl, SH, FI', FL', FR) ∧ h_fr FI FI' [0, 13] [124, 125] ∧ FL = FL' ∧ (0 ≤ ((FI' 121 13)).toInt ∧ ((FI' 121 13)).toInt ≤ 1000) ∧ h_ai 124 19200 0 255 FI' ∧ h_ai 125 32 0 600 FI')) := by
  have rg_a1 := i_rng a1
  refine hw_aloadn (aX12_list 0 rfl) rfl ?_
  refine hw_ic (v := (0 : Int32)) (aX12_list 1 rfl) (by decide) ?_
  refine hw_puti (aX12_list 2 rfl) wf_RX12_187 (c121 hS) (s121 hS) (by decide) rfl rfl ?_
  refine xw_iloadn (aX12_list 3 rfl) rfl ?_
  refine hw_iflt (tgt := 14) (aX12_list 4 rfl) (by decide) rfl (fun cd1 => ?_) (fun cd1 => ?_)
  · refine hw_ic (v := ((-1) : Int32)) (aX12_list 8 rfl) (by decide) ?_
    refine xw_iret (aX12_list 9 rfl) rfl rfl ?_
    have e2 : (((-1) : Int32)).toInt = (-1) := (by decide : ((-1) : Int32).toInt = (-1))
    exact ⟨((-1) : Int32), rfl, _, _, rfl, (fr_up fr_rf (by decide)), rfl, (by show 0 ≤ ((FI 121 13)).toInt ∧ ((FI 121 13)).toInt ≤ 1000; omega), (show h_ai 124 19200 0 255 (h_up FI 121 0 ((0 : Int32))) from (ai_nc ai124 (by decide))), (show h_ai 125 32 0 600 (h_up FI 121 0 ((0 : Int32))) from (ai_nc ai125 (by decide)))⟩
  · refine xw_iloadn (aX12_list 5 rfl) rfl ?_
    refine hw_ic (v := (3 : Int32)) (aX12_list 6 rfl) (by decide) ?_
    refine hw_icle (tgt := 16) (aX12_list 7 rfl) (by decide) rfl (by decide : (3 : Int32).toInt = 3) (fun cd3 => ?_) (fun cd3 => ?_)
    · refine hw_aloadn (aX12_list 10 rfl) rfl ?_
      refine hw_bp (v := (16 : Int32)) (aX12_list 11 rfl) (by decide) ?_
      refine xw_iloadn (aX12_list 12 rfl) rfl ?_
      refine xw_iadd (aX12_list 13 rfl) ?_
      refine hw_tie (A := (16) + ((a1).toInt)) (i_add (by decide : (16 : Int32).toInt = 16) rfl (by omega) (by omega)) (fun x4 e5 => ?_)
      refine hw_sp (v := (9600 : Int32)) (aX12_list 14 rfl) (by decide) ?_
      refine hw_sp (v := (600 : Int32)) (aX12_list 15 rfl) (by decide) ?_
      refine xw_iloadn (aX12_list 16 rfl) rfl ?_
      refine xw_imul (aX12_list 17 rfl) ?_
      refine hw_tie (A := (600) * ((a1).toInt)) (i_mul (by decide : (600 : Int32).toInt = 600) rfl (by omega) (by omega)) (fun x6 e7 => ?_)
      refine xw_iadd (aX12_list 18 rfl) ?_
      refine hw_tie (A := (9600) + ((600) * ((a1).toInt))) (i_add (by decide : (9600 : Int32).toInt = 9600) e7 (by omega) (by omega)) (fun x8 e9 => ?_)
      refine hw_callV (Bs := [.int (x4), .int (x8)]) (rest := []) (aX12_list 19 rfl) wc_RX12_197 (by decide) rfl wi_yX12_keep wv_yX12_keep (c121 hS) (s121 hS) rfl rfl rfl (Nat.le_of_ble_eq_true rfl) (Nat.le_of_ble_eq_true rfl) (m_keep (d := d) hS hF (x4) (x8) (by have := (e5 : (x4).toInt = (16) + ((a1).toInt)); show 0 ≤ (x4).toInt ∧ (x4).toInt ≤ 31; omega) (by have := (e9 : (x8).toInt = (9600) + ((600) * ((a1).toInt))); show 0 ≤ (x8).toInt ∧ (x8).toInt ≤ 18600; omega) (by show 0 ≤ ((h_up FI 121 0 ((0 : Int32))) 121 13).toInt ∧ ((h_up FI 121 0 ((0 : Int32))) 121 13).toInt ≤ 1000; rw [show (h_up FI 121 0 ((0 : Int32))) 121 13 = FI 121 13 from rfl]; show 0 ≤ (FI 121 13).toInt ∧ (FI 121 13).toInt ≤ 1000; omega) (show h_ai 124 19200 0 255 (h_up FI 121 0 ((0 : Int32))) from (show h_ai 124 19200 0 255 (h_up FI 121 0 ((0 : Int32))) from (ai_nc ai124 (by decide)))) (show h_ai 125 32 0 600 (h_up FI 121 0 ((0 : Int32))) from (show h_ai 125 32 0 600 (h_up FI 121 0 ((0 : Int32))) from (ai_nc ai125 (by decide)))) (show h_ai 126 1000 0 255 (h_up FI 121 0 ((0 : Int32))) from (show h_ai 126 1000 0 255 (h_up FI 121 0 ((0 : Int32))) from (ai_nc ai126 (by decide))))) (fun v10 sv11 p12 => ?_)
      obtain ⟨r16, rfl, FI14, FL15, rfl, f13I, rfl, t17, ai18, ai19⟩ := p12
      have rg_r16 := i_rng r16
      show hw sk base _ none _ _ _ [.int (r16)] _ _
      refine xw_iret (aX12_list 20 rfl) rfl rfl ?_
      have e20 : (r16).toInt = (r16).toInt := rfl
      exact ⟨r16, rfl, _, _, rfl, (fr_tr (fr_up fr_rf (by decide)) f13I (by decide) (by decide)), rfl, (by show 0 ≤ ((FI14 121 13)).toInt ∧ ((FI14 121 13)).toInt ≤ 1000; omega), ai18, ai19⟩
    · refine hw_ic (v := ((-1) : Int32)) (aX12_list 8 rfl) (by decide) ?_
      refine xw_iret (aX12_list 9 rfl) rfl rfl ?_
      have e21 : (((-1) : Int32)).toInt = (-1) := (by decide : ((-1) : Int32).toInt = (-1))
      exact ⟨((-1) : Int32), rfl, _, _, rfl, (fr_up fr_rf (by decide)), rfl, (by show 0 ≤ ((FI 121 13)).toInt ∧ ((FI 121 13)).toInt ≤ 1000; omega), (show h_ai 124 19200 0 255 (h_up FI 121 0 ((0 : Int32))) from (ai_nc ai124 (by decide))), (show h_ai 125 32 0 600 (h_up FI 121 0 ((0 : Int32))) from (ai_nc ai125 (by decide)))⟩
def nX12_isThere : Nat := 0xac030400a70407009d946521da00141f11009b94091f
theorem bX12_isThere : cX12_isThere.data.toList.map UInt8.toNat = x_un nX12_isThere 22 := by decide +kernel
def iX12_isThere : List (Nat × Jvm.ClassFile.Instr × Nat) := [(0, .lload_n 1, 1), (1, .lconst 0, 1), (2, .lcmp, 1), (3, .ifCond .lt 17, 3), (6, .lload_n 1, 1), (7, .ldc2_w 218, 3), (10, .lload_n 3, 1), (11, .lsub, 1), (12, .lcmp, 1), (13, .ifCond .gt 7, 3), (16, .iconst 1, 1), (17, .goto 4, 3), (20, .iconst 0, 1), (21, .ireturn, 1)]
theorem dX12_isThere : x_il nX12_isThere 22 iX12_isThere = true := by decide +kernel
theorem aX12_isThere (k : Nat) {pc : Nat} {i : Jvm.ClassFile.Instr} {len : Nat} (hk : iX12_isThere[k]? = some (pc, i, len)) : x_at xMM 166 pc i len yX12_isThere 5 (some .boolean) := ⟨cX12_isThere, rfl, x_il_ok bX12_isThere dX12_isThere k hk⟩
set_option maxHeartbeats 4000000 in
set_option maxRecDepth 100000 in
theorem m_isThere {sk : xK} {base d n sl : Nat} {SH : Nat → Nat × Nat} {FI : Nat → Nat → Int32} {FL : Nat → Nat → Int64} {FR : Nat → Nat → Option Nat} (hS : h_S n SH) (hF : h_FR FR) (a1 : Int64) (a2 : Int64) (g0 : 0 ≤ (a2).toInt ∧ (a2).toInt ≤ 8) : hw sk base d none 166 0 [(0, .ref (base + 121)), (1, .long (a1)), (3, .long (a2))] [] (n, sl, SH, FI, FL, FR) (h_I (fun r s => ∃ FI' FL', s = (n, sl, SH, FI', FL', FR) ∧ FI = FI' ∧ FL = FL' ∧ (r.toInt = 1 → (0 ≤ (a1).toInt ∧ (a1).toInt ≤ 4096 - (a2).toInt)) ∧ (0 ≤ r.toInt ∧ r.toInt ≤ 1))) := by
  have rg_a1 := l_rng a1
  have rg_a2 := l_rng a2
  refine xw_lloadn (aX12_isThere 0 rfl) rfl ?_
  refine hw_lc (v := (0 : Int64)) (aX12_isThere 1 rfl) (by decide) ?_
  refine hw_lclt (tgt := 20) (aX12_isThere 2 rfl) (aX12_isThere 3 rfl) (by decide) rfl (by decide : (0 : Int64).toInt = 0) (fun cd1 => ?_) (fun cd1 => ?_)
  · refine hw_ic (v := (0 : Int32)) (aX12_isThere 12 rfl) (by decide) ?_
    refine xw_iret (aX12_isThere 13 rfl) rfl (by decide) ?_
    have e2 : ((0 : Int32)).toInt = 0 := (by decide : (0 : Int32).toInt = 0)
    exact ⟨(0 : Int32), rfl, _, _, rfl, rfl, rfl, (by show ((0 : Int32)).toInt = 1 → (0 ≤ (a1).toInt ∧ (a1).toInt ≤ 4096 - (a2).toInt); omega), (by show 0 ≤ ((0 : Int32)).toInt ∧ ((0 : Int32)).toInt ≤ 1; omega)⟩
  · refine xw_lloadn (aX12_isThere 4 rfl) rfl ?_
    refine xw_ldc2 (aX12_isThere 5 rfl) wk_RX12_218 ?_
    refine xw_lloadn (aX12_isThere 6 rfl) rfl ?_
    refine xw_lsub (aX12_isThere 7 rfl) ?_
    refine hw_tle (A := (4096) - ((a2).toInt)) (l_sub (by decide : (4096 : Int64).toInt = 4096) rfl (by omega) (by omega)) (fun x3 e4 => ?_)
    refine hw_lcgt (tgt := 20) (aX12_isThere 8 rfl) (aX12_isThere 9 rfl) (by decide) rfl e4 (fun cd5 => ?_) (fun cd5 => ?_)
    · refine hw_ic (v := (0 : Int32)) (aX12_isThere 12 rfl) (by decide) ?_
      refine xw_iret (aX12_isThere 13 rfl) rfl (by decide) ?_
      have e6 : ((0 : Int32)).toInt = 0 := (by decide : (0 : Int32).toInt = 0)
      exact ⟨(0 : Int32), rfl, _, _, rfl, rfl, rfl, (by show ((0 : Int32)).toInt = 1 → (0 ≤ (a1).toInt ∧ (a1).toInt ≤ 4096 - (a2).toInt); omega), (by show 0 ≤ ((0 : Int32)).toInt ∧ ((0 : Int32)).toInt ≤ 1; omega)⟩
    · refine hw_ic (v := (1 : Int32)) (aX12_isThere 10 rfl) (by decide) ?_
      refine xw_goto (tgt := 21) (aX12_isThere 11 rfl) (by decide) ?_
      refine xw_iret (aX12_isThere 13 rfl) rfl (by decide) ?_
      have e7 : ((1 : Int32)).toInt = 1 := (by decide : (1 : Int32).toInt = 1)
      exact ⟨(1 : Int32), rfl, _, _, rfl, rfl, rfl, (by show ((1 : Int32)).toInt = 1 → (0 ≤ (a1).toInt ∧ (a1).toInt ≤ 4096 - (a2).toInt); omega), (by show 0 ≤ ((1 : Int32)).toInt ∧ ((1 : Int32)).toInt ≤ 1; omega)⟩
def nX12_isAbove : Nat := 0xac030400a70407009e94211f09009b94091f
theorem bX12_isAbove : cX12_isAbove.data.toList.map UInt8.toNat = x_un nX12_isAbove 18 := by decide +kernel
def iX12_isAbove : List (Nat × Jvm.ClassFile.Instr × Nat) := [(0, .lload_n 1, 1), (1, .lconst 0, 1), (2, .lcmp, 1), (3, .ifCond .lt 9, 3), (6, .lload_n 1, 1), (7, .lload_n 3, 1), (8, .lcmp, 1), (9, .ifCond .le 7, 3), (12, .iconst 1, 1), (13, .goto 4, 3), (16, .iconst 0, 1), (17, .ireturn, 1)]
theorem dX12_isAbove : x_il nX12_isAbove 18 iX12_isAbove = true := by decide +kernel
theorem aX12_isAbove (k : Nat) {pc : Nat} {i : Jvm.ClassFile.Instr} {len : Nat} (hk : iX12_isAbove[k]? = some (pc, i, len)) : x_at xMM 172 pc i len yX12_isAbove 5 (some .boolean) := ⟨cX12_isAbove, rfl, x_il_ok bX12_isAbove dX12_isAbove k hk⟩
set_option maxHeartbeats 4000000 in
set_option maxRecDepth 100000 in
theorem m_isAbove {sk : xK} {base d n sl : Nat} {SH : Nat → Nat × Nat} {FI : Nat → Nat → Int32} {FL : Nat → Nat → Int64} {FR : Nat → Nat → Option Nat} (hS : h_S n SH) (hF : h_FR FR) (a1 : Int64) (a2 : Int64) : hw sk base d none 172 0 [(0, .ref (base + 121)), (1, .long (a1)), (3, .long (a2))] [] (n, sl, SH, FI, FL, FR) (h_I (fun r s => ∃ FI' FL', s = (n, sl, SH, FI', FL', FR) ∧ FI = FI' ∧ FL = FL' ∧ (r.toInt = 0 → (0 ≤ (a1).toInt ∧ (a1).toInt ≤ (a2).toInt)) ∧ (0 ≤ r.toInt ∧ r.toInt ≤ 1))) := by
  have rg_a1 := l_rng a1
  have rg_a2 := l_rng a2
  refine xw_lloadn (aX12_isAbove 0 rfl) rfl ?_
  refine hw_lc (v := (0 : Int64)) (aX12_isAbove 1 rfl) (by decide) ?_
  refine hw_lclt (tgt := 12) (aX12_isAbove 2 rfl) (aX12_isAbove 3 rfl) (by decide) rfl (by decide : (0 : Int64).toInt = 0) (fun cd1 => ?_) (fun cd1 => ?_)
  · refine hw_ic (v := (1 : Int32)) (aX12_isAbove 8 rfl) (by decide) ?_
    refine xw_goto (tgt := 17) (aX12_isAbove 9 rfl) (by decide) ?_
    refine xw_iret (aX12_isAbove 11 rfl) rfl (by decide) ?_
    have e2 : ((1 : Int32)).toInt = 1 := (by decide : (1 : Int32).toInt = 1)
    exact ⟨(1 : Int32), rfl, _, _, rfl, rfl, rfl, (by show ((1 : Int32)).toInt = 0 → (0 ≤ (a1).toInt ∧ (a1).toInt ≤ (a2).toInt); omega), (by show 0 ≤ ((1 : Int32)).toInt ∧ ((1 : Int32)).toInt ≤ 1; omega)⟩
  · refine xw_lloadn (aX12_isAbove 4 rfl) rfl ?_
    refine xw_lloadn (aX12_isAbove 5 rfl) rfl ?_
    refine hw_lcle (tgt := 16) (aX12_isAbove 6 rfl) (aX12_isAbove 7 rfl) (by decide) rfl rfl (fun cd3 => ?_) (fun cd3 => ?_)
    · refine hw_ic (v := (0 : Int32)) (aX12_isAbove 10 rfl) (by decide) ?_
      refine xw_iret (aX12_isAbove 11 rfl) rfl (by decide) ?_
      have e4 : ((0 : Int32)).toInt = 0 := (by decide : (0 : Int32).toInt = 0)
      exact ⟨(0 : Int32), rfl, _, _, rfl, rfl, rfl, (by show ((0 : Int32)).toInt = 0 → (0 ≤ (a1).toInt ∧ (a1).toInt ≤ (a2).toInt); omega), (by show 0 ≤ ((0 : Int32)).toInt ∧ ((0 : Int32)).toInt ≤ 1; omega)⟩
    · refine hw_ic (v := (1 : Int32)) (aX12_isAbove 8 rfl) (by decide) ?_
      refine xw_goto (tgt := 17) (aX12_isAbove 9 rfl) (by decide) ?_
      refine xw_iret (aX12_isAbove 11 rfl) rfl (by decide) ?_
      have e5 : ((1 : Int32)).toInt = 1 := (by decide : (1 : Int32).toInt = 1)
      exact ⟨(1 : Int32), rfl, _, _, rfl, rfl, rfl, (by show ((1 : Int32)).toInt = 0 → (0 ≤ (a1).toInt ∧ (a1).toInt ≤ (a2).toInt); omega), (by show 0 ≤ ((1 : Int32)).toInt ∧ ((1 : Int32)).toInt ≤ 1; omega)⟩
def nX12_isBelow : Nat := 0xac030400a70407009c946188011421618801141f
theorem bX12_isBelow : cX12_isBelow.data.toList.map UInt8.toNat = x_un nX12_isBelow 20 := by decide +kernel
def iX12_isBelow : List (Nat × Jvm.ClassFile.Instr × Nat) := [(0, .lload_n 1, 1), (1, .ldc2_w 392, 3), (4, .ladd, 1), (5, .lload_n 3, 1), (6, .ldc2_w 392, 3), (9, .ladd, 1), (10, .lcmp, 1), (11, .ifCond .ge 7, 3), (14, .iconst 1, 1), (15, .goto 4, 3), (18, .iconst 0, 1), (19, .ireturn, 1)]
theorem dX12_isBelow : x_il nX12_isBelow 20 iX12_isBelow = true := by decide +kernel
theorem aX12_isBelow (k : Nat) {pc : Nat} {i : Jvm.ClassFile.Instr} {len : Nat} (hk : iX12_isBelow[k]? = some (pc, i, len)) : x_at xMM 194 pc i len yX12_isBelow 5 (some .boolean) := ⟨cX12_isBelow, rfl, x_il_ok bX12_isBelow dX12_isBelow k hk⟩
set_option maxHeartbeats 4000000 in
set_option maxRecDepth 100000 in
theorem m_isBelow {sk : xK} {base d n sl : Nat} {SH : Nat → Nat × Nat} {FI : Nat → Nat → Int32} {FL : Nat → Nat → Int64} {FR : Nat → Nat → Option Nat} (hS : h_S n SH) (hF : h_FR FR) (a1 : Int64) (a2 : Int64) : hw sk base d none 194 0 [(0, .ref (base + 121)), (1, .long (a1)), (3, .long (a2))] [] (n, sl, SH, FI, FL, FR) (h_I (fun r s => ∃ FI' FL', s = (n, sl, SH, FI', FL', FR) ∧ FI = FI' ∧ FL = FL' ∧ (0 ≤ r.toInt ∧ r.toInt ≤ 1))) := by
  have rg_a1 := l_rng a1
  have rg_a2 := l_rng a2
  refine xw_lloadn (aX12_isBelow 0 rfl) rfl ?_
  refine xw_ldc2 (aX12_isBelow 1 rfl) wk_RX12_392 ?_
  refine xw_ladd (aX12_isBelow 2 rfl) ?_
  refine hw_tl (fun x1 => ?_)
  have b2 := l_rng x1
  refine xw_lloadn (aX12_isBelow 3 rfl) rfl ?_
  refine xw_ldc2 (aX12_isBelow 4 rfl) wk_RX12_392 ?_
  refine xw_ladd (aX12_isBelow 5 rfl) ?_
  refine hw_tl (fun x3 => ?_)
  have b4 := l_rng x3
  refine hw_lcge (tgt := 18) (aX12_isBelow 6 rfl) (aX12_isBelow 7 rfl) (by decide) rfl rfl (fun cd5 => ?_) (fun cd5 => ?_)
  · refine hw_ic (v := (0 : Int32)) (aX12_isBelow 10 rfl) (by decide) ?_
    refine xw_iret (aX12_isBelow 11 rfl) rfl (by decide) ?_
    have e6 : ((0 : Int32)).toInt = 0 := (by decide : (0 : Int32).toInt = 0)
    exact ⟨(0 : Int32), rfl, _, _, rfl, rfl, rfl, (by show 0 ≤ ((0 : Int32)).toInt ∧ ((0 : Int32)).toInt ≤ 1; omega)⟩
  · refine hw_ic (v := (1 : Int32)) (aX12_isBelow 8 rfl) (by decide) ?_
    refine xw_goto (tgt := 19) (aX12_isBelow 9 rfl) (by decide) ?_
    refine xw_iret (aX12_isBelow 11 rfl) rfl (by decide) ?_
    have e7 : ((1 : Int32)).toInt = 1 := (by decide : (1 : Int32).toInt = 1)
    exact ⟨(1 : Int32), rfl, _, _, rfl, rfl, rfl, (by show 0 ≤ ((1 : Int32)).toInt ∧ ((1 : Int32)).toInt ≤ 1; omega)⟩
def nX12_isFuel : Nat := 0xac030400a7040700a3e803111b0e00a1041b
theorem bX12_isFuel : cX12_isFuel.data.toList.map UInt8.toNat = x_un nX12_isFuel 18 := by decide +kernel
def iX12_isFuel : List (Nat × Jvm.ClassFile.Instr × Nat) := [(0, .iload_n 1, 1), (1, .iconst 1, 1), (2, .if_icmp .lt 14, 3), (5, .iload_n 1, 1), (6, .sipush 1000, 3), (9, .if_icmp .gt 7, 3), (12, .iconst 1, 1), (13, .goto 4, 3), (16, .iconst 0, 1), (17, .ireturn, 1)]
theorem dX12_isFuel : x_il nX12_isFuel 18 iX12_isFuel = true := by decide +kernel
theorem aX12_isFuel (k : Nat) {pc : Nat} {i : Jvm.ClassFile.Instr} {len : Nat} (hk : iX12_isFuel[k]? = some (pc, i, len)) : x_at xMM 191 pc i len yX12_isFuel 2 (some .boolean) := ⟨cX12_isFuel, rfl, x_il_ok bX12_isFuel dX12_isFuel k hk⟩
set_option maxHeartbeats 4000000 in
set_option maxRecDepth 100000 in
theorem m_isFuel {sk : xK} {base d n sl : Nat} {SH : Nat → Nat × Nat} {FI : Nat → Nat → Int32} {FL : Nat → Nat → Int64} {FR : Nat → Nat → Option Nat} (hS : h_S n SH) (hF : h_FR FR) (a1 : Int32) : hw sk base d none 191 0 [(0, .ref (base + 121)), (1, .int (a1))] [] (n, sl, SH, FI, FL, FR) (h_I (fun r s => ∃ FI' FL', s = (n, sl, SH, FI', FL', FR) ∧ FI = FI' ∧ FL = FL' ∧ (r.toInt = 1 → (1 ≤ (a1).toInt ∧ (a1).toInt ≤ 1000)) ∧ (0 ≤ r.toInt ∧ r.toInt ≤ 1))) := by
  have rg_a1 := i_rng a1
  refine xw_iloadn (aX12_isFuel 0 rfl) rfl ?_
  refine hw_ic (v := (1 : Int32)) (aX12_isFuel 1 rfl) (by decide) ?_
  refine hw_iclt (tgt := 16) (aX12_isFuel 2 rfl) (by decide) rfl (by decide : (1 : Int32).toInt = 1) (fun cd1 => ?_) (fun cd1 => ?_)
  · refine hw_ic (v := (0 : Int32)) (aX12_isFuel 8 rfl) (by decide) ?_
    refine xw_iret (aX12_isFuel 9 rfl) rfl (by decide) ?_
    have e2 : ((0 : Int32)).toInt = 0 := (by decide : (0 : Int32).toInt = 0)
    exact ⟨(0 : Int32), rfl, _, _, rfl, rfl, rfl, (by show ((0 : Int32)).toInt = 1 → (1 ≤ (a1).toInt ∧ (a1).toInt ≤ 1000); omega), (by show 0 ≤ ((0 : Int32)).toInt ∧ ((0 : Int32)).toInt ≤ 1; omega)⟩
  · refine xw_iloadn (aX12_isFuel 3 rfl) rfl ?_
    refine hw_sp (v := (1000 : Int32)) (aX12_isFuel 4 rfl) (by decide) ?_
    refine hw_icgt (tgt := 16) (aX12_isFuel 5 rfl) (by decide) rfl (by decide : (1000 : Int32).toInt = 1000) (fun cd3 => ?_) (fun cd3 => ?_)
    · refine hw_ic (v := (0 : Int32)) (aX12_isFuel 8 rfl) (by decide) ?_
      refine xw_iret (aX12_isFuel 9 rfl) rfl (by decide) ?_
      have e4 : ((0 : Int32)).toInt = 0 := (by decide : (0 : Int32).toInt = 0)
      exact ⟨(0 : Int32), rfl, _, _, rfl, rfl, rfl, (by show ((0 : Int32)).toInt = 1 → (1 ≤ (a1).toInt ∧ (a1).toInt ≤ 1000); omega), (by show 0 ≤ ((0 : Int32)).toInt ∧ ((0 : Int32)).toInt ≤ 1; omega)⟩
    · refine hw_ic (v := (1 : Int32)) (aX12_isFuel 6 rfl) (by decide) ?_
      refine xw_goto (tgt := 17) (aX12_isFuel 7 rfl) (by decide) ?_
      refine xw_iret (aX12_isFuel 9 rfl) rfl (by decide) ?_
      have e5 : ((1 : Int32)).toInt = 1 := (by decide : (1 : Int32).toInt = 1)
      exact ⟨(1 : Int32), rfl, _, _, rfl, rfl, rfl, (by show ((1 : Int32)).toInt = 1 → (1 ≤ (a1).toInt ∧ (a1).toInt ≤ 1000); omega), (by show 0 ≤ ((1 : Int32)).toInt ∧ ((1 : Int32)).toInt ≤ 1; omega)⟩
def nX12_isKnown : Nat := 0xac030400a7040700a39f00111b0e00a19b00111b1100a49900111b0a00a19600111bac040500a39400111b0c00a119101bac040500a317101b0b00a108101bac040500a006101b09009f061b
theorem bX12_isKnown : cX12_isKnown.data.toList.map UInt8.toNat = x_un nX12_isKnown 76 := by decide +kernel
def iX12_isKnown : List (Nat × Jvm.ClassFile.Instr × Nat) := [(0, .iload_n 1, 1), (1, .iconst 3, 1), (2, .if_icmp .eq 9, 3), (5, .iload_n 1, 1), (6, .bipush 6, 2), (8, .if_icmp .ne 5, 3), (11, .iconst 1, 1), (12, .ireturn, 1), (13, .iload_n 1, 1), (14, .bipush 8, 2), (16, .if_icmp .lt 11, 3), (19, .iload_n 1, 1), (20, .bipush 23, 2), (22, .if_icmp .gt 5, 3), (25, .iconst 1, 1), (26, .ireturn, 1), (27, .iload_n 1, 1), (28, .bipush 25, 2), (30, .if_icmp .lt 12, 3), (33, .iload_n 1, 1), (34, .sipush 148, 3), (37, .if_icmp .gt 5, 3), (40, .iconst 1, 1), (41, .ireturn, 1), (42, .iload_n 1, 1), (43, .sipush 150, 3), (46, .if_icmp .lt 10, 3), (49, .iload_n 1, 1), (50, .sipush 153, 3), (53, .if_icmp .le 17, 3), (56, .iload_n 1, 1), (57, .sipush 155, 3), (60, .if_icmp .lt 14, 3), (63, .iload_n 1, 1), (64, .sipush 159, 3), (67, .if_icmp .gt 7, 3), (70, .iconst 1, 1), (71, .goto 4, 3), (74, .iconst 0, 1), (75, .ireturn, 1)]
theorem dX12_isKnown : x_il nX12_isKnown 76 iX12_isKnown = true := by decide +kernel
theorem aX12_isKnown (k : Nat) {pc : Nat} {i : Jvm.ClassFile.Instr} {len : Nat} (hk : iX12_isKnown[k]? = some (pc, i, len)) : x_at xMM 170 pc i len yX12_isKnown 2 (some .boolean) := ⟨cX12_isKnown, rfl, x_il_ok bX12_isKnown dX12_isKnown k hk⟩
set_option maxHeartbeats 4000000 in
set_option maxRecDepth 100000 in
theorem m_isKnown {sk : xK} {base d n sl : Nat} {SH : Nat → Nat × Nat} {FI : Nat → Nat → Int32} {FL : Nat → Nat → Int64} {FR : Nat → Nat → Option Nat} (hS : h_S n SH) (hF : h_FR FR) (a1 : Int32) : hw sk base d none 170 0 [(0, .ref (base + 121)), (1, .int (a1))] [] (n, sl, SH, FI, FL, FR) (h_I (fun r s => ∃ FI' FL', s = (n, sl, SH, FI', FL', FR) ∧ FI = FI' ∧ FL = FL' ∧ (r.toInt = 1 → (3 ≤ (a1).toInt ∧ (a1).toInt ≤ 159)) ∧ (0 ≤ r.toInt ∧ r.toInt ≤ 1))) := by
  have rg_a1 := i_rng a1
  refine xw_iloadn (aX12_isKnown 0 rfl) rfl ?_
  refine hw_ic (v := (3 : Int32)) (aX12_isKnown 1 rfl) (by decide) ?_
  refine hw_iceq (tgt := 11) (aX12_isKnown 2 rfl) (by decide) rfl (by decide : (3 : Int32).toInt = 3) (fun cd1 => ?_) (fun cd1 => ?_)
  · refine hw_ic (v := (1 : Int32)) (aX12_isKnown 6 rfl) (by decide) ?_
    refine xw_iret (aX12_isKnown 7 rfl) rfl (by decide) ?_
    have e2 : ((1 : Int32)).toInt = 1 := (by decide : (1 : Int32).toInt = 1)
    exact ⟨(1 : Int32), rfl, _, _, rfl, rfl, rfl, (by show ((1 : Int32)).toInt = 1 → (3 ≤ (a1).toInt ∧ (a1).toInt ≤ 159); omega), (by show 0 ≤ ((1 : Int32)).toInt ∧ ((1 : Int32)).toInt ≤ 1; omega)⟩
  · refine xw_iloadn (aX12_isKnown 3 rfl) rfl ?_
    refine hw_bp (v := (6 : Int32)) (aX12_isKnown 4 rfl) (by decide) ?_
    refine hw_icne (tgt := 13) (aX12_isKnown 5 rfl) (by decide) rfl (by decide : (6 : Int32).toInt = 6) (fun cd3 => ?_) (fun cd3 => ?_)
    · refine xw_iloadn (aX12_isKnown 8 rfl) rfl ?_
      refine hw_bp (v := (8 : Int32)) (aX12_isKnown 9 rfl) (by decide) ?_
      refine hw_iclt (tgt := 27) (aX12_isKnown 10 rfl) (by decide) rfl (by decide : (8 : Int32).toInt = 8) (fun cd4 => ?_) (fun cd4 => ?_)
      · refine xw_iloadn (aX12_isKnown 16 rfl) rfl ?_
        refine hw_bp (v := (25 : Int32)) (aX12_isKnown 17 rfl) (by decide) ?_
        refine hw_iclt (tgt := 42) (aX12_isKnown 18 rfl) (by decide) rfl (by decide : (25 : Int32).toInt = 25) (fun cd5 => ?_) (fun cd5 => ?_)
        · refine xw_iloadn (aX12_isKnown 24 rfl) rfl ?_
          refine hw_sp (v := (150 : Int32)) (aX12_isKnown 25 rfl) (by decide) ?_
          refine hw_iclt (tgt := 56) (aX12_isKnown 26 rfl) (by decide) rfl (by decide : (150 : Int32).toInt = 150) (fun cd6 => ?_) (fun cd6 => ?_)
          · refine xw_iloadn (aX12_isKnown 30 rfl) rfl ?_
            refine hw_sp (v := (155 : Int32)) (aX12_isKnown 31 rfl) (by decide) ?_
            refine hw_iclt (tgt := 74) (aX12_isKnown 32 rfl) (by decide) rfl (by decide : (155 : Int32).toInt = 155) (fun cd7 => ?_) (fun cd7 => ?_)
            · refine hw_ic (v := (0 : Int32)) (aX12_isKnown 38 rfl) (by decide) ?_
              refine xw_iret (aX12_isKnown 39 rfl) rfl (by decide) ?_
              have e8 : ((0 : Int32)).toInt = 0 := (by decide : (0 : Int32).toInt = 0)
              exact ⟨(0 : Int32), rfl, _, _, rfl, rfl, rfl, (by show ((0 : Int32)).toInt = 1 → (3 ≤ (a1).toInt ∧ (a1).toInt ≤ 159); omega), (by show 0 ≤ ((0 : Int32)).toInt ∧ ((0 : Int32)).toInt ≤ 1; omega)⟩
            · omega
          · omega
        · omega
      · refine xw_iloadn (aX12_isKnown 11 rfl) rfl ?_
        refine hw_bp (v := (23 : Int32)) (aX12_isKnown 12 rfl) (by decide) ?_
        refine hw_icgt (tgt := 27) (aX12_isKnown 13 rfl) (by decide) rfl (by decide : (23 : Int32).toInt = 23) (fun cd9 => ?_) (fun cd9 => ?_)
        · refine xw_iloadn (aX12_isKnown 16 rfl) rfl ?_
          refine hw_bp (v := (25 : Int32)) (aX12_isKnown 17 rfl) (by decide) ?_
          refine hw_iclt (tgt := 42) (aX12_isKnown 18 rfl) (by decide) rfl (by decide : (25 : Int32).toInt = 25) (fun cd10 => ?_) (fun cd10 => ?_)
          · refine xw_iloadn (aX12_isKnown 24 rfl) rfl ?_
            refine hw_sp (v := (150 : Int32)) (aX12_isKnown 25 rfl) (by decide) ?_
            refine hw_iclt (tgt := 56) (aX12_isKnown 26 rfl) (by decide) rfl (by decide : (150 : Int32).toInt = 150) (fun cd11 => ?_) (fun cd11 => ?_)
            · refine xw_iloadn (aX12_isKnown 30 rfl) rfl ?_
              refine hw_sp (v := (155 : Int32)) (aX12_isKnown 31 rfl) (by decide) ?_
              refine hw_iclt (tgt := 74) (aX12_isKnown 32 rfl) (by decide) rfl (by decide : (155 : Int32).toInt = 155) (fun cd12 => ?_) (fun cd12 => ?_)
              · refine hw_ic (v := (0 : Int32)) (aX12_isKnown 38 rfl) (by decide) ?_
                refine xw_iret (aX12_isKnown 39 rfl) rfl (by decide) ?_
                have e13 : ((0 : Int32)).toInt = 0 := (by decide : (0 : Int32).toInt = 0)
                exact ⟨(0 : Int32), rfl, _, _, rfl, rfl, rfl, (by show ((0 : Int32)).toInt = 1 → (3 ≤ (a1).toInt ∧ (a1).toInt ≤ 159); omega), (by show 0 ≤ ((0 : Int32)).toInt ∧ ((0 : Int32)).toInt ≤ 1; omega)⟩
              · omega
            · omega
          · refine xw_iloadn (aX12_isKnown 19 rfl) rfl ?_
            refine hw_sp (v := (148 : Int32)) (aX12_isKnown 20 rfl) (by decide) ?_
            refine hw_icgt (tgt := 42) (aX12_isKnown 21 rfl) (by decide) rfl (by decide : (148 : Int32).toInt = 148) (fun cd14 => ?_) (fun cd14 => ?_)
            · refine xw_iloadn (aX12_isKnown 24 rfl) rfl ?_
              refine hw_sp (v := (150 : Int32)) (aX12_isKnown 25 rfl) (by decide) ?_
              refine hw_iclt (tgt := 56) (aX12_isKnown 26 rfl) (by decide) rfl (by decide : (150 : Int32).toInt = 150) (fun cd15 => ?_) (fun cd15 => ?_)
              · refine xw_iloadn (aX12_isKnown 30 rfl) rfl ?_
                refine hw_sp (v := (155 : Int32)) (aX12_isKnown 31 rfl) (by decide) ?_
                refine hw_iclt (tgt := 74) (aX12_isKnown 32 rfl) (by decide) rfl (by decide : (155 : Int32).toInt = 155) (fun cd16 => ?_) (fun cd16 => ?_)
                · refine hw_ic (v := (0 : Int32)) (aX12_isKnown 38 rfl) (by decide) ?_
                  refine xw_iret (aX12_isKnown 39 rfl) rfl (by decide) ?_
                  have e17 : ((0 : Int32)).toInt = 0 := (by decide : (0 : Int32).toInt = 0)
                  exact ⟨(0 : Int32), rfl, _, _, rfl, rfl, rfl, (by show ((0 : Int32)).toInt = 1 → (3 ≤ (a1).toInt ∧ (a1).toInt ≤ 159); omega), (by show 0 ≤ ((0 : Int32)).toInt ∧ ((0 : Int32)).toInt ≤ 1; omega)⟩
                · omega
              · refine xw_iloadn (aX12_isKnown 27 rfl) rfl ?_
                refine hw_sp (v := (153 : Int32)) (aX12_isKnown 28 rfl) (by decide) ?_
                refine hw_icle (tgt := 70) (aX12_isKnown 29 rfl) (by decide) rfl (by decide : (153 : Int32).toInt = 153) (fun cd18 => ?_) (fun cd18 => ?_)
                · refine hw_ic (v := (1 : Int32)) (aX12_isKnown 36 rfl) (by decide) ?_
                  refine xw_goto (tgt := 75) (aX12_isKnown 37 rfl) (by decide) ?_
                  refine xw_iret (aX12_isKnown 39 rfl) rfl (by decide) ?_
                  have e19 : ((1 : Int32)).toInt = 1 := (by decide : (1 : Int32).toInt = 1)
                  exact ⟨(1 : Int32), rfl, _, _, rfl, rfl, rfl, (by show ((1 : Int32)).toInt = 1 → (3 ≤ (a1).toInt ∧ (a1).toInt ≤ 159); omega), (by show 0 ≤ ((1 : Int32)).toInt ∧ ((1 : Int32)).toInt ≤ 1; omega)⟩
                · refine xw_iloadn (aX12_isKnown 30 rfl) rfl ?_
                  refine hw_sp (v := (155 : Int32)) (aX12_isKnown 31 rfl) (by decide) ?_
                  refine hw_iclt (tgt := 74) (aX12_isKnown 32 rfl) (by decide) rfl (by decide : (155 : Int32).toInt = 155) (fun cd20 => ?_) (fun cd20 => ?_)
                  · refine hw_ic (v := (0 : Int32)) (aX12_isKnown 38 rfl) (by decide) ?_
                    refine xw_iret (aX12_isKnown 39 rfl) rfl (by decide) ?_
                    have e21 : ((0 : Int32)).toInt = 0 := (by decide : (0 : Int32).toInt = 0)
                    exact ⟨(0 : Int32), rfl, _, _, rfl, rfl, rfl, (by show ((0 : Int32)).toInt = 1 → (3 ≤ (a1).toInt ∧ (a1).toInt ≤ 159); omega), (by show 0 ≤ ((0 : Int32)).toInt ∧ ((0 : Int32)).toInt ≤ 1; omega)⟩
                  · refine xw_iloadn (aX12_isKnown 33 rfl) rfl ?_
                    refine hw_sp (v := (159 : Int32)) (aX12_isKnown 34 rfl) (by decide) ?_
                    refine hw_icgt (tgt := 74) (aX12_isKnown 35 rfl) (by decide) rfl (by decide : (159 : Int32).toInt = 159) (fun cd22 => ?_) (fun cd22 => ?_)
                    · refine hw_ic (v := (0 : Int32)) (aX12_isKnown 38 rfl) (by decide) ?_
                      refine xw_iret (aX12_isKnown 39 rfl) rfl (by decide) ?_
                      have e23 : ((0 : Int32)).toInt = 0 := (by decide : (0 : Int32).toInt = 0)
                      exact ⟨(0 : Int32), rfl, _, _, rfl, rfl, rfl, (by show ((0 : Int32)).toInt = 1 → (3 ≤ (a1).toInt ∧ (a1).toInt ≤ 159); omega), (by show 0 ≤ ((0 : Int32)).toInt ∧ ((0 : Int32)).toInt ≤ 1; omega)⟩
                    · refine hw_ic (v := (1 : Int32)) (aX12_isKnown 36 rfl) (by decide) ?_
                      refine xw_goto (tgt := 75) (aX12_isKnown 37 rfl) (by decide) ?_
                      refine xw_iret (aX12_isKnown 39 rfl) rfl (by decide) ?_
                      have e24 : ((1 : Int32)).toInt = 1 := (by decide : (1 : Int32).toInt = 1)
                      exact ⟨(1 : Int32), rfl, _, _, rfl, rfl, rfl, (by show ((1 : Int32)).toInt = 1 → (3 ≤ (a1).toInt ∧ (a1).toInt ≤ 159); omega), (by show 0 ≤ ((1 : Int32)).toInt ∧ ((1 : Int32)).toInt ≤ 1; omega)⟩
            · refine hw_ic (v := (1 : Int32)) (aX12_isKnown 22 rfl) (by decide) ?_
              refine xw_iret (aX12_isKnown 23 rfl) rfl (by decide) ?_
              have e25 : ((1 : Int32)).toInt = 1 := (by decide : (1 : Int32).toInt = 1)
              exact ⟨(1 : Int32), rfl, _, _, rfl, rfl, rfl, (by show ((1 : Int32)).toInt = 1 → (3 ≤ (a1).toInt ∧ (a1).toInt ≤ 159); omega), (by show 0 ≤ ((1 : Int32)).toInt ∧ ((1 : Int32)).toInt ≤ 1; omega)⟩
        · refine hw_ic (v := (1 : Int32)) (aX12_isKnown 14 rfl) (by decide) ?_
          refine xw_iret (aX12_isKnown 15 rfl) rfl (by decide) ?_
          have e26 : ((1 : Int32)).toInt = 1 := (by decide : (1 : Int32).toInt = 1)
          exact ⟨(1 : Int32), rfl, _, _, rfl, rfl, rfl, (by show ((1 : Int32)).toInt = 1 → (3 ≤ (a1).toInt ∧ (a1).toInt ≤ 159); omega), (by show 0 ≤ ((1 : Int32)).toInt ∧ ((1 : Int32)).toInt ≤ 1; omega)⟩
    · refine hw_ic (v := (1 : Int32)) (aX12_isKnown 6 rfl) (by decide) ?_
      refine xw_iret (aX12_isKnown 7 rfl) rfl (by decide) ?_
      have e27 : ((1 : Int32)).toInt = 1 := (by decide : (1 : Int32).toInt = 1)
      exact ⟨(1 : Int32), rfl, _, _, rfl, rfl, rfl, (by show ((1 : Int32)).toInt = 1 → (3 ≤ (a1).toInt ∧ (a1).toInt ≤ 159); omega), (by show 0 ≤ ((1 : Int32)).toInt ∧ ((1 : Int32)).toInt ≤ 1; omega)⟩
def nX12_fails : Nat := 0xac1bff00b51c2a
theorem bX12_fails : cX12_fails.data.toList.map UInt8.toNat = x_un nX12_fails 7 := by decide +kernel
def iX12_fails : List (Nat × Jvm.ClassFile.Instr × Nat) := [(0, .aload_n 0, 1), (1, .iload_n 2, 1), (2, .putfield 255, 3), (5, .iload_n 1, 1), (6, .ireturn, 1)]
theorem dX12_fails : x_il nX12_fails 7 iX12_fails = true := by decide +kernel
theorem aX12_fails (k : Nat) {pc : Nat} {i : Jvm.ClassFile.Instr} {len : Nat} (hk : iX12_fails[k]? = some (pc, i, len)) : x_at xMM 178 pc i len yX12_fails 3 (some .int) := ⟨cX12_fails, rfl, x_il_ok bX12_fails dX12_fails k hk⟩
set_option maxHeartbeats 4000000 in
set_option maxRecDepth 100000 in
theorem m_fails {sk : xK} {base d n sl : Nat} {SH : Nat → Nat × Nat} {FI : Nat → Nat → Int32} {FL : Nat → Nat → Int64} {FR : Nat → Nat → Option Nat} (hS : h_S n SH) (hF : h_FR FR) (a1 : Int32) (a2 : Int32) : hw sk base d none 178 0 [(0, .ref (base + 121)), (1, .int (a1)), (2, .int (a2))] [] (n, sl, SH, FI, FL, FR) (h_I (fun r s => ∃ FI' FL', s = (n, sl, SH, FI', FL', FR) ∧ h_fr FI FI' [34] [] ∧ FL = FL' ∧ (r.toInt = (a1).toInt))) := by
  have rg_a1 := i_rng a1
  have rg_a2 := i_rng a2
  refine hw_aloadn (aX12_fails 0 rfl) rfl ?_
  refine xw_iloadn (aX12_fails 1 rfl) rfl ?_
  refine hw_puti (aX12_fails 2 rfl) wf_RX12_255 (c121 hS) (s121 hS) (by decide) rfl rfl ?_
  refine xw_iloadn (aX12_fails 3 rfl) rfl ?_
  refine xw_iret (aX12_fails 4 rfl) rfl rfl ?_
  have e1 : (a1).toInt = (a1).toInt := rfl
  exact ⟨a1, rfl, _, _, rfl, (fr_up fr_rf (by decide)), rfl, (by show (a1).toInt = (a1).toInt; omega)⟩
def nX12_begins : Nat := 0xb10b01b5022a0801b5032a0201b5032a2b01b5032a2801b51b2a
theorem bX12_begins : cX12_begins.data.toList.map UInt8.toNat = x_un nX12_begins 26 := by decide +kernel
def iX12_begins : List (Nat × Jvm.ClassFile.Instr × Nat) := [(0, .aload_n 0, 1), (1, .iload_n 1, 1), (2, .putfield 296, 3), (5, .aload_n 0, 1), (6, .iconst 0, 1), (7, .putfield 299, 3), (10, .aload_n 0, 1), (11, .iconst 0, 1), (12, .putfield 258, 3), (15, .aload_n 0, 1), (16, .iconst 0, 1), (17, .putfield 264, 3), (20, .aload_n 0, 1), (21, .iconst (-1), 1), (22, .putfield 267, 3), (25, .return_, 1)]
theorem dX12_begins : x_il nX12_begins 26 iX12_begins = true := by decide +kernel
theorem aX12_begins (k : Nat) {pc : Nat} {i : Jvm.ClassFile.Instr} {len : Nat} (hk : iX12_begins[k]? = some (pc, i, len)) : x_at xMM 189 pc i len yX12_begins 2 none := ⟨cX12_begins, rfl, x_il_ok bX12_begins dX12_begins k hk⟩
set_option maxHeartbeats 4000000 in
set_option maxRecDepth 100000 in
theorem m_begins {sk : xK} {base d n sl : Nat} {SH : Nat → Nat × Nat} {FI : Nat → Nat → Int32} {FL : Nat → Nat → Int64} {FR : Nat → Nat → Option Nat} (hS : h_S n SH) (hF : h_FR FR) (a1 : Int32) : hw sk base d none 189 0 [(0, .ref (base + 121)), (1, .int (a1))] [] (n, sl, SH, FI, FL, FR) (h_V (fun s => ∃ FI' FL', s = (n, sl, SH, FI', FL', FR) ∧ h_fr FI FI' [29, 30, 31, 32, 33] [] ∧ FL = FL' ∧ (((FI' 121 30)).toInt = (a1).toInt) ∧ (((FI' 121 29)).toInt = 0))) := by
  have rg_a1 := i_rng a1
  refine hw_aloadn (aX12_begins 0 rfl) rfl ?_
  refine xw_iloadn (aX12_begins 1 rfl) rfl ?_
  refine hw_puti (aX12_begins 2 rfl) wf_RX12_296 (c121 hS) (s121 hS) (by decide) rfl rfl ?_
  refine hw_aloadn (aX12_begins 3 rfl) rfl ?_
  refine hw_ic (v := (0 : Int32)) (aX12_begins 4 rfl) (by decide) ?_
  refine hw_puti (aX12_begins 5 rfl) wf_RX12_299 (c121 hS) (s121 hS) (by decide) rfl rfl ?_
  refine hw_aloadn (aX12_begins 6 rfl) rfl ?_
  refine hw_ic (v := (0 : Int32)) (aX12_begins 7 rfl) (by decide) ?_
  refine hw_puti (aX12_begins 8 rfl) wf_RX12_258 (c121 hS) (s121 hS) (by decide) rfl rfl ?_
  refine hw_aloadn (aX12_begins 9 rfl) rfl ?_
  refine hw_ic (v := (0 : Int32)) (aX12_begins 10 rfl) (by decide) ?_
  refine hw_puti (aX12_begins 11 rfl) wf_RX12_264 (c121 hS) (s121 hS) (by decide) rfl rfl ?_
  refine hw_aloadn (aX12_begins 12 rfl) rfl ?_
  refine hw_ic (v := ((-1) : Int32)) (aX12_begins 13 rfl) (by decide) ?_
  refine hw_puti (aX12_begins 14 rfl) wf_RX12_267 (c121 hS) (s121 hS) (by decide) rfl rfl ?_
  refine xw_vret (aX12_begins 15 rfl) rfl ?_
  have e1 : ((0 : Int32)).toInt = 0 := (by decide : (0 : Int32).toInt = 0)
  exact ⟨rfl, _, _, rfl, (fr_up (fr_up (fr_up (fr_up (fr_up fr_rf (by decide)) (by decide)) (by decide)) (by decide)) (by decide)), rfl, (by show ((a1)).toInt = (a1).toInt; omega), (by show (((0 : Int32))).toInt = 0; omega)⟩
def nX12_tells : Nat := 0xac1b7201b50201b42a2a6f01b52b01b42a2a6300b51c0400a70207009a1b2a6c01b51b2a6901b5042a
theorem bX12_tells : cX12_tells.data.toList.map UInt8.toNat = x_un nX12_tells 41 := by decide +kernel
def iX12_tells : List (Nat × Jvm.ClassFile.Instr × Nat) := [(0, .aload_n 0, 1), (1, .iconst 1, 1), (2, .putfield 361, 3), (5, .aload_n 0, 1), (6, .iload_n 1, 1), (7, .putfield 364, 3), (10, .aload_n 0, 1), (11, .iload_n 1, 1), (12, .ifCond .ne 7, 3), (15, .iconst (-1), 1), (16, .goto 4, 3), (19, .iload_n 2, 1), (20, .putfield 99, 3), (23, .aload_n 0, 1), (24, .aload_n 0, 1), (25, .getfield 299, 3), (28, .putfield 367, 3), (31, .aload_n 0, 1), (32, .aload_n 0, 1), (33, .getfield 258, 3), (36, .putfield 370, 3), (39, .iload_n 1, 1), (40, .ireturn, 1)]
theorem dX12_tells : x_il nX12_tells 41 iX12_tells = true := by decide +kernel
theorem aX12_tells (k : Nat) {pc : Nat} {i : Jvm.ClassFile.Instr} {len : Nat} (hk : iX12_tells[k]? = some (pc, i, len)) : x_at xMM 188 pc i len yX12_tells 3 (some .int) := ⟨cX12_tells, rfl, x_il_ok bX12_tells dX12_tells k hk⟩
set_option maxHeartbeats 4000000 in
set_option maxRecDepth 100000 in
theorem m_tells {sk : xK} {base d n sl : Nat} {SH : Nat → Nat × Nat} {FI : Nat → Nat → Int32} {FL : Nat → Nat → Int64} {FR : Nat → Nat → Option Nat} (hS : h_S n SH) (hF : h_FR FR) (a1 : Int32) (a2 : Int32) : hw sk base d none 188 0 [(0, .ref (base + 121)), (1, .int (a1)), (2, .int (a2))] [] (n, sl, SH, FI, FL, FR) (h_I (fun r s => ∃ FI' FL', s = (n, sl, SH, FI', FL', FR) ∧ h_fr FI FI' [53, 54, 55, 56, 57] [] ∧ FL = FL' ∧ (r.toInt = (a1).toInt))) := by
  have rg_a1 := i_rng a1
  have rg_a2 := i_rng a2
  refine hw_aloadn (aX12_tells 0 rfl) rfl ?_
  refine hw_ic (v := (1 : Int32)) (aX12_tells 1 rfl) (by decide) ?_
  refine hw_putz (aX12_tells 2 rfl) wf_RX12_361 (c121 hS) (s121 hS) (by decide) rfl rfl (by decide) ?_
  refine hw_aloadn (aX12_tells 3 rfl) rfl ?_
  refine xw_iloadn (aX12_tells 4 rfl) rfl ?_
  refine hw_puti (aX12_tells 5 rfl) wf_RX12_364 (c121 hS) (s121 hS) (by decide) rfl rfl ?_
  refine hw_aloadn (aX12_tells 6 rfl) rfl ?_
  refine xw_iloadn (aX12_tells 7 rfl) rfl ?_
  refine hw_ifne (tgt := 19) (aX12_tells 8 rfl) (by decide) rfl (fun cd1 => ?_) (fun cd1 => ?_)
  · refine xw_iloadn (aX12_tells 11 rfl) rfl ?_
    refine hw_puti (aX12_tells 12 rfl) wf_RX12_99 (c121 hS) (s121 hS) (by decide) rfl rfl ?_
    refine hw_aloadn (aX12_tells 13 rfl) rfl ?_
    refine hw_aloadn (aX12_tells 14 rfl) rfl ?_
    refine hw_get (v := .int (FI 121 31)) (aX12_tells 15 rfl) wf_RX12_299 (c121 hS) (s121 hS) (by decide) (congrArg Value.int (show (h_up (h_up (h_up FI 121 53 ((1 : Int32))) 121 54 (a1)) 121 55 (a2)) 121 31 = FI 121 31 from rfl)) ?_
    have e2 := i_rng (FI 121 31)
    refine hw_puti (aX12_tells 16 rfl) wf_RX12_367 (c121 hS) (s121 hS) (by decide) rfl rfl ?_
    refine hw_aloadn (aX12_tells 17 rfl) rfl ?_
    refine hw_aloadn (aX12_tells 18 rfl) rfl ?_
    refine hw_get (v := .int (FI 121 32)) (aX12_tells 19 rfl) wf_RX12_258 (c121 hS) (s121 hS) (by decide) (congrArg Value.int (show (h_up (h_up (h_up (h_up FI 121 53 ((1 : Int32))) 121 54 (a1)) 121 55 (a2)) 121 56 (FI 121 31)) 121 32 = FI 121 32 from rfl)) ?_
    have e3 := i_rng (FI 121 32)
    refine hw_puti (aX12_tells 20 rfl) wf_RX12_370 (c121 hS) (s121 hS) (by decide) rfl rfl ?_
    refine xw_iloadn (aX12_tells 21 rfl) rfl ?_
    refine xw_iret (aX12_tells 22 rfl) rfl rfl ?_
    have e4 : (a1).toInt = (a1).toInt := rfl
    exact ⟨a1, rfl, _, _, rfl, (fr_up (fr_up (fr_up (fr_up (fr_up fr_rf (by decide)) (by decide)) (by decide)) (by decide)) (by decide)), rfl, (by show (a1).toInt = (a1).toInt; omega)⟩
  · refine hw_ic (v := ((-1) : Int32)) (aX12_tells 9 rfl) (by decide) ?_
    refine xw_goto (tgt := 20) (aX12_tells 10 rfl) (by decide) ?_
    refine hw_puti (aX12_tells 12 rfl) wf_RX12_99 (c121 hS) (s121 hS) (by decide) rfl rfl ?_
    refine hw_aloadn (aX12_tells 13 rfl) rfl ?_
    refine hw_aloadn (aX12_tells 14 rfl) rfl ?_
    refine hw_get (v := .int (FI 121 31)) (aX12_tells 15 rfl) wf_RX12_299 (c121 hS) (s121 hS) (by decide) (congrArg Value.int (show (h_up (h_up (h_up FI 121 53 ((1 : Int32))) 121 54 (a1)) 121 55 (((-1) : Int32))) 121 31 = FI 121 31 from rfl)) ?_
    have e5 := i_rng (FI 121 31)
    refine hw_puti (aX12_tells 16 rfl) wf_RX12_367 (c121 hS) (s121 hS) (by decide) rfl rfl ?_
    refine hw_aloadn (aX12_tells 17 rfl) rfl ?_
    refine hw_aloadn (aX12_tells 18 rfl) rfl ?_
    refine hw_get (v := .int (FI 121 32)) (aX12_tells 19 rfl) wf_RX12_258 (c121 hS) (s121 hS) (by decide) (congrArg Value.int (show (h_up (h_up (h_up (h_up FI 121 53 ((1 : Int32))) 121 54 (a1)) 121 55 (((-1) : Int32))) 121 56 (FI 121 31)) 121 32 = FI 121 32 from rfl)) ?_
    have e6 := i_rng (FI 121 32)
    refine hw_puti (aX12_tells 20 rfl) wf_RX12_370 (c121 hS) (s121 hS) (by decide) rfl rfl ?_
    refine xw_iloadn (aX12_tells 21 rfl) rfl ?_
    refine xw_iret (aX12_tells 22 rfl) rfl rfl ?_
    have e7 : (a1).toInt = (a1).toInt := rfl
    exact ⟨a1, rfl, _, _, rfl, (fr_up (fr_up (fr_up (fr_up (fr_up fr_rf (by decide)) (by decide)) (by decide)) (by decide)) (by decide)), rfl, (by show (a1).toInt = (a1).toInt; omega)⟩
def nX12_told : Nat := 0xac020400a77201b42a0a00a0061bac6f01b42a0800a0051bac6300b42a0800a0041bac6c01b42a08009a1bac0205009a6901b42abb00b5032a
theorem bX12_told : cX12_told.data.toList.map UInt8.toNat = x_un nX12_told 57 := by decide +kernel
def iX12_told : List (Nat × Jvm.ClassFile.Instr × Nat) := [(0, .aload_n 0, 1), (1, .iconst 0, 1), (2, .putfield 187, 3), (5, .aload_n 0, 1), (6, .getfield 361, 3), (9, .ifCond .ne 5, 3), (12, .iconst (-1), 1), (13, .ireturn, 1), (14, .iload_n 1, 1), (15, .ifCond .ne 8, 3), (18, .aload_n 0, 1), (19, .getfield 364, 3), (22, .ireturn, 1), (23, .iload_n 1, 1), (24, .iconst 1, 1), (25, .if_icmp .ne 8, 3), (28, .aload_n 0, 1), (29, .getfield 99, 3), (32, .ireturn, 1), (33, .iload_n 1, 1), (34, .iconst 2, 1), (35, .if_icmp .ne 8, 3), (38, .aload_n 0, 1), (39, .getfield 367, 3), (42, .ireturn, 1), (43, .iload_n 1, 1), (44, .iconst 3, 1), (45, .if_icmp .ne 10, 3), (48, .aload_n 0, 1), (49, .getfield 370, 3), (52, .goto 4, 3), (55, .iconst (-1), 1), (56, .ireturn, 1)]
theorem dX12_told : x_il nX12_told 57 iX12_told = true := by decide +kernel
theorem aX12_told (k : Nat) {pc : Nat} {i : Jvm.ClassFile.Instr} {len : Nat} (hk : iX12_told[k]? = some (pc, i, len)) : x_at xMM 197 pc i len yX12_told 2 (some .int) := ⟨cX12_told, rfl, x_il_ok bX12_told dX12_told k hk⟩
set_option maxHeartbeats 4000000 in
set_option maxRecDepth 100000 in
theorem m_told {sk : xK} {base d n sl : Nat} {SH : Nat → Nat × Nat} {FI : Nat → Nat → Int32} {FL : Nat → Nat → Int64} {FR : Nat → Nat → Option Nat} (hS : h_S n SH) (hF : h_FR FR) (a1 : Int32) : hw sk base d none 197 0 [(0, .ref (base + 121)), (1, .int (a1))] [] (n, sl, SH, FI, FL, FR) (h_I (fun r s => ∃ FI' FL', s = (n, sl, SH, FI', FL', FR) ∧ h_fr FI FI' [0] [] ∧ FL = FL')) := by
  have rg_a1 := i_rng a1
  refine hw_aloadn (aX12_told 0 rfl) rfl ?_
  refine hw_ic (v := (0 : Int32)) (aX12_told 1 rfl) (by decide) ?_
  refine hw_puti (aX12_told 2 rfl) wf_RX12_187 (c121 hS) (s121 hS) (by decide) rfl rfl ?_
  refine hw_aloadn (aX12_told 3 rfl) rfl ?_
  refine hw_get (v := .int (FI 121 53)) (aX12_told 4 rfl) wf_RX12_361 (c121 hS) (s121 hS) (by decide) (congrArg Value.int (show (h_up FI 121 0 ((0 : Int32))) 121 53 = FI 121 53 from rfl)) ?_
  have e1 := i_rng (FI 121 53)
  refine hw_ifne (tgt := 14) (aX12_told 5 rfl) (by decide) rfl (fun cd2 => ?_) (fun cd2 => ?_)
  · refine xw_iloadn (aX12_told 8 rfl) rfl ?_
    refine hw_ifne (tgt := 23) (aX12_told 9 rfl) (by decide) rfl (fun cd3 => ?_) (fun cd3 => ?_)
    · refine xw_iloadn (aX12_told 13 rfl) rfl ?_
      refine hw_ic (v := (1 : Int32)) (aX12_told 14 rfl) (by decide) ?_
      refine hw_icne (tgt := 33) (aX12_told 15 rfl) (by decide) rfl (by decide : (1 : Int32).toInt = 1) (fun cd4 => ?_) (fun cd4 => ?_)
      · refine xw_iloadn (aX12_told 19 rfl) rfl ?_
        refine hw_ic (v := (2 : Int32)) (aX12_told 20 rfl) (by decide) ?_
        refine hw_icne (tgt := 43) (aX12_told 21 rfl) (by decide) rfl (by decide : (2 : Int32).toInt = 2) (fun cd5 => ?_) (fun cd5 => ?_)
        · refine xw_iloadn (aX12_told 25 rfl) rfl ?_
          refine hw_ic (v := (3 : Int32)) (aX12_told 26 rfl) (by decide) ?_
          refine hw_icne (tgt := 55) (aX12_told 27 rfl) (by decide) rfl (by decide : (3 : Int32).toInt = 3) (fun cd6 => ?_) (fun cd6 => ?_)
          · refine hw_ic (v := ((-1) : Int32)) (aX12_told 31 rfl) (by decide) ?_
            refine xw_iret (aX12_told 32 rfl) rfl rfl ?_
            have e7 : (((-1) : Int32)).toInt = (-1) := (by decide : ((-1) : Int32).toInt = (-1))
            exact ⟨((-1) : Int32), rfl, _, _, rfl, (fr_up fr_rf (by decide)), rfl⟩
          · refine hw_aloadn (aX12_told 28 rfl) rfl ?_
            refine hw_get (v := .int (FI 121 57)) (aX12_told 29 rfl) wf_RX12_370 (c121 hS) (s121 hS) (by decide) (congrArg Value.int (show (h_up FI 121 0 ((0 : Int32))) 121 57 = FI 121 57 from rfl)) ?_
            have e8 := i_rng (FI 121 57)
            refine xw_goto (tgt := 56) (aX12_told 30 rfl) (by decide) ?_
            refine xw_iret (aX12_told 32 rfl) rfl rfl ?_
            have e9 : (FI 121 57).toInt = (FI 121 57).toInt := rfl
            exact ⟨FI 121 57, rfl, _, _, rfl, (fr_up fr_rf (by decide)), rfl⟩
        · refine hw_aloadn (aX12_told 22 rfl) rfl ?_
          refine hw_get (v := .int (FI 121 56)) (aX12_told 23 rfl) wf_RX12_367 (c121 hS) (s121 hS) (by decide) (congrArg Value.int (show (h_up FI 121 0 ((0 : Int32))) 121 56 = FI 121 56 from rfl)) ?_
          have e10 := i_rng (FI 121 56)
          refine xw_iret (aX12_told 24 rfl) rfl rfl ?_
          have e11 : (FI 121 56).toInt = (FI 121 56).toInt := rfl
          exact ⟨FI 121 56, rfl, _, _, rfl, (fr_up fr_rf (by decide)), rfl⟩
      · refine hw_aloadn (aX12_told 16 rfl) rfl ?_
        refine hw_get (v := .int (FI 121 55)) (aX12_told 17 rfl) wf_RX12_99 (c121 hS) (s121 hS) (by decide) (congrArg Value.int (show (h_up FI 121 0 ((0 : Int32))) 121 55 = FI 121 55 from rfl)) ?_
        have e12 := i_rng (FI 121 55)
        refine xw_iret (aX12_told 18 rfl) rfl rfl ?_
        have e13 : (FI 121 55).toInt = (FI 121 55).toInt := rfl
        exact ⟨FI 121 55, rfl, _, _, rfl, (fr_up fr_rf (by decide)), rfl⟩
    · refine hw_aloadn (aX12_told 10 rfl) rfl ?_
      refine hw_get (v := .int (FI 121 54)) (aX12_told 11 rfl) wf_RX12_364 (c121 hS) (s121 hS) (by decide) (congrArg Value.int (show (h_up FI 121 0 ((0 : Int32))) 121 54 = FI 121 54 from rfl)) ?_
      have e14 := i_rng (FI 121 54)
      refine xw_iret (aX12_told 12 rfl) rfl rfl ?_
      have e15 : (FI 121 54).toInt = (FI 121 54).toInt := rfl
      exact ⟨FI 121 54, rfl, _, _, rfl, (fr_up fr_rf (by decide)), rfl⟩
  · refine hw_ic (v := ((-1) : Int32)) (aX12_told 6 rfl) (by decide) ?_
    refine xw_iret (aX12_told 7 rfl) rfl rfl ?_
    have e16 : (((-1) : Int32)).toInt = (-1) := (by decide : ((-1) : Int32).toInt = (-1))
    exact ⟨((-1) : Int32), rfl, _, _, rfl, (fr_up fr_rf (by decide)), rfl⟩
def nX12_parts : Nat := 0xac5100b42abb00b5032a
theorem bX12_parts : cX12_parts.data.toList.map UInt8.toNat = x_un nX12_parts 10 := by decide +kernel
def iX12_parts : List (Nat × Jvm.ClassFile.Instr × Nat) := [(0, .aload_n 0, 1), (1, .iconst 0, 1), (2, .putfield 187, 3), (5, .aload_n 0, 1), (6, .getfield 81, 3), (9, .ireturn, 1)]
theorem dX12_parts : x_il nX12_parts 10 iX12_parts = true := by decide +kernel
theorem aX12_parts (k : Nat) {pc : Nat} {i : Jvm.ClassFile.Instr} {len : Nat} (hk : iX12_parts[k]? = some (pc, i, len)) : x_at xMM 198 pc i len yX12_parts 1 (some .int) := ⟨cX12_parts, rfl, x_il_ok bX12_parts dX12_parts k hk⟩
set_option maxHeartbeats 4000000 in
set_option maxRecDepth 100000 in
theorem m_parts {sk : xK} {base d n sl : Nat} {SH : Nat → Nat × Nat} {FI : Nat → Nat → Int32} {FL : Nat → Nat → Int64} {FR : Nat → Nat → Option Nat} (hS : h_S n SH) (hF : h_FR FR) : hw sk base d none 198 0 [(0, .ref (base + 121))] [] (n, sl, SH, FI, FL, FR) (h_I (fun r s => ∃ FI' FL', s = (n, sl, SH, FI', FL', FR) ∧ h_fr FI FI' [0] [] ∧ FL = FL')) := by
  refine hw_aloadn (aX12_parts 0 rfl) rfl ?_
  refine hw_ic (v := (0 : Int32)) (aX12_parts 1 rfl) (by decide) ?_
  refine hw_puti (aX12_parts 2 rfl) wf_RX12_187 (c121 hS) (s121 hS) (by decide) rfl rfl ?_
  refine hw_aloadn (aX12_parts 3 rfl) rfl ?_
  refine hw_get (v := .int (FI 121 46)) (aX12_parts 4 rfl) wf_RX12_81 (c121 hS) (s121 hS) (by decide) (congrArg Value.int (show (h_up FI 121 0 ((0 : Int32))) 121 46 = FI 121 46 from rfl)) ?_
  have e1 := i_rng (FI 121 46)
  refine xw_iret (aX12_parts 5 rfl) rfl rfl ?_
  have e2 : (FI 121 46).toInt = (FI 121 46).toInt := rfl
  exact ⟨FI 121 46, rfl, _, _, rfl, (fr_up fr_rf (by decide)), rfl⟩
def nX12_out : Nat := 0xac2e1b6600b42a0900a7020700a19a01b42a1b0b009b1bbb00b5032a
theorem bX12_out : cX12_out.data.toList.map UInt8.toNat = x_un nX12_out 28 := by decide +kernel
def iX12_out : List (Nat × Jvm.ClassFile.Instr × Nat) := [(0, .aload_n 0, 1), (1, .iconst 0, 1), (2, .putfield 187, 3), (5, .iload_n 1, 1), (6, .ifCond .lt 11, 3), (9, .iload_n 1, 1), (10, .aload_n 0, 1), (11, .getfield 410, 3), (14, .if_icmp .lt 7, 3), (17, .iconst (-1), 1), (18, .goto 9, 3), (21, .aload_n 0, 1), (22, .getfield 102, 3), (25, .iload_n 1, 1), (26, .iaload, 1), (27, .ireturn, 1)]
theorem dX12_out : x_il nX12_out 28 iX12_out = true := by decide +kernel
theorem aX12_out (k : Nat) {pc : Nat} {i : Jvm.ClassFile.Instr} {len : Nat} (hk : iX12_out[k]? = some (pc, i, len)) : x_at xMM 205 pc i len yX12_out 2 (some .int) := ⟨cX12_out, rfl, x_il_ok bX12_out dX12_out k hk⟩
set_option maxHeartbeats 4000000 in
set_option maxRecDepth 100000 in
theorem m_out {sk : xK} {base d n sl : Nat} {SH : Nat → Nat × Nat} {FI : Nat → Nat → Int32} {FL : Nat → Nat → Int64} {FR : Nat → Nat → Option Nat} (hS : h_S n SH) (hF : h_FR FR) (a1 : Int32) (g0 : 0 ≤ (FI 121 61).toInt ∧ (FI 121 61).toInt ≤ 64) : hw sk base d none 205 0 [(0, .ref (base + 121)), (1, .int (a1))] [] (n, sl, SH, FI, FL, FR) (h_I (fun r s => ∃ FI' FL', s = (n, sl, SH, FI', FL', FR) ∧ h_fr FI FI' [0] [] ∧ FL = FL')) := by
  have rg_a1 := i_rng a1
  refine hw_aloadn (aX12_out 0 rfl) rfl ?_
  refine hw_ic (v := (0 : Int32)) (aX12_out 1 rfl) (by decide) ?_
  refine hw_puti (aX12_out 2 rfl) wf_RX12_187 (c121 hS) (s121 hS) (by decide) rfl rfl ?_
  refine xw_iloadn (aX12_out 3 rfl) rfl ?_
  refine hw_iflt (tgt := 17) (aX12_out 4 rfl) (by decide) rfl (fun cd1 => ?_) (fun cd1 => ?_)
  · refine hw_ic (v := ((-1) : Int32)) (aX12_out 9 rfl) (by decide) ?_
    refine xw_goto (tgt := 27) (aX12_out 10 rfl) (by decide) ?_
    refine xw_iret (aX12_out 15 rfl) rfl rfl ?_
    have e2 : (((-1) : Int32)).toInt = (-1) := (by decide : ((-1) : Int32).toInt = (-1))
    exact ⟨((-1) : Int32), rfl, _, _, rfl, (fr_up fr_rf (by decide)), rfl⟩
  · refine xw_iloadn (aX12_out 5 rfl) rfl ?_
    refine hw_aloadn (aX12_out 6 rfl) rfl ?_
    refine hw_get (v := .int (FI 121 61)) (aX12_out 7 rfl) wf_RX12_410 (c121 hS) (s121 hS) (by decide) (congrArg Value.int (show (h_up FI 121 0 ((0 : Int32))) 121 61 = FI 121 61 from rfl)) ?_
    refine hw_iclt (tgt := 21) (aX12_out 8 rfl) (by decide) rfl rfl (fun cd3 => ?_) (fun cd3 => ?_)
    · refine hw_aloadn (aX12_out 11 rfl) rfl ?_
      refine hw_get (v := .ref (base + 148)) (aX12_out 12 rfl) wf_RX12_102 (c121 hS) (s121 hS) (by decide) (congrArg (fun r => va_rf (h_rf base r)) (r121_60 hF)) ?_
      refine xw_iloadn (aX12_out 13 rfl) rfl ?_
      refine hw_iald (v := FI 148 (a1).toNatClampNeg) (aX12_out 14 rfl) (c148 hS) (s148 hS) (h_in rfl (by omega) (by omega)) rfl ?_
      refine hw_ti (fun x4 => ?_)
      have b5 := i_rng x4
      refine xw_iret (aX12_out 15 rfl) rfl rfl ?_
      have e6 : (x4).toInt = (x4).toInt := rfl
      exact ⟨x4, rfl, _, _, rfl, (fr_up fr_rf (by decide)), rfl⟩
    · refine hw_ic (v := ((-1) : Int32)) (aX12_out 9 rfl) (by decide) ?_
      refine xw_goto (tgt := 27) (aX12_out 10 rfl) (by decide) ?_
      refine xw_iret (aX12_out 15 rfl) rfl rfl ?_
      have e7 : (((-1) : Int32)).toInt = (-1) := (by decide : ((-1) : Int32).toInt = (-1))
      exact ⟨((-1) : Int32), rfl, _, _, rfl, (fr_up fr_rf (by decide)), rfl⟩
def nX12_sign : Nat := 0xac020400a72e1b1e00b42a0c00a2be00b42a1b
theorem bX12_sign : cX12_sign.data.toList.map UInt8.toNat = x_un nX12_sign 19 := by decide +kernel
def iX12_sign : List (Nat × Jvm.ClassFile.Instr × Nat) := [(0, .iload_n 1, 1), (1, .aload_n 0, 1), (2, .getfield 190, 3), (5, .if_icmp .ge 12, 3), (8, .aload_n 0, 1), (9, .getfield 30, 3), (12, .iload_n 1, 1), (13, .iaload, 1), (14, .goto 4, 3), (17, .iconst (-1), 1), (18, .ireturn, 1)]
theorem dX12_sign : x_il nX12_sign 19 iX12_sign = true := by decide +kernel
theorem aX12_sign (k : Nat) {pc : Nat} {i : Jvm.ClassFile.Instr} {len : Nat} (hk : iX12_sign[k]? = some (pc, i, len)) : x_at xMM 206 pc i len yX12_sign 2 (some .int) := ⟨cX12_sign, rfl, x_il_ok bX12_sign dX12_sign k hk⟩
set_option maxHeartbeats 4000000 in
set_option maxRecDepth 100000 in
theorem m_sign {sk : xK} {base d n sl : Nat} {SH : Nat → Nat × Nat} {FI : Nat → Nat → Int32} {FL : Nat → Nat → Int64} {FR : Nat → Nat → Option Nat} (hS : h_S n SH) (hF : h_FR FR) (a1 : Int32) (g0 : 0 ≤ (a1).toInt ∧ (a1).toInt ≤ 1100) (g1 : 0 ≤ (FI 121 13).toInt ∧ (FI 121 13).toInt ≤ 1000) : hw sk base d none 206 0 [(0, .ref (base + 121)), (1, .int (a1))] [] (n, sl, SH, FI, FL, FR) (h_I (fun r s => ∃ FI' FL', s = (n, sl, SH, FI', FL', FR) ∧ FI = FI' ∧ FL = FL')) := by
  have rg_a1 := i_rng a1
  refine xw_iloadn (aX12_sign 0 rfl) rfl ?_
  refine hw_aloadn (aX12_sign 1 rfl) rfl ?_
  refine hw_get (v := .int (FI 121 13)) (aX12_sign 2 rfl) wf_RX12_190 (c121 hS) (s121 hS) (by decide) (congrArg Value.int (show FI 121 13 = FI 121 13 from rfl)) ?_
  refine hw_icge (tgt := 17) (aX12_sign 3 rfl) (by decide) rfl rfl (fun cd1 => ?_) (fun cd1 => ?_)
  · refine hw_ic (v := ((-1) : Int32)) (aX12_sign 9 rfl) (by decide) ?_
    refine xw_iret (aX12_sign 10 rfl) rfl rfl ?_
    have e2 : (((-1) : Int32)).toInt = (-1) := (by decide : ((-1) : Int32).toInt = (-1))
    exact ⟨((-1) : Int32), rfl, _, _, rfl, rfl, rfl⟩
  · refine hw_aloadn (aX12_sign 4 rfl) rfl ?_
    refine hw_get (v := .ref (base + 126)) (aX12_sign 5 rfl) wf_RX12_30 (c121 hS) (s121 hS) (by decide) (congrArg (fun r => va_rf (h_rf base r)) (r121_12 hF)) ?_
    refine xw_iloadn (aX12_sign 6 rfl) rfl ?_
    refine hw_iald (v := FI 126 (a1).toNatClampNeg) (aX12_sign 7 rfl) (c126 hS) (s126 hS) (h_in rfl (by omega) (by omega)) rfl ?_
    refine hw_ti (fun x3 => ?_)
    have b4 := i_rng x3
    refine xw_goto (tgt := 18) (aX12_sign 8 rfl) (by decide) ?_
    refine xw_iret (aX12_sign 10 rfl) rfl rfl ?_
    have e5 : (x3).toInt = (x3).toInt := rfl
    exact ⟨x3, rfl, _, _, rfl, rfl, rfl⟩
def nX12_isSmall : Nat := 0xac030400a7040700a37a101b0d00a161101b
theorem bX12_isSmall : cX12_isSmall.data.toList.map UInt8.toNat = x_un nX12_isSmall 18 := by decide +kernel
def iX12_isSmall : List (Nat × Jvm.ClassFile.Instr × Nat) := [(0, .iload_n 1, 1), (1, .bipush 97, 2), (3, .if_icmp .lt 13, 3), (6, .iload_n 1, 1), (7, .bipush 122, 2), (9, .if_icmp .gt 7, 3), (12, .iconst 1, 1), (13, .goto 4, 3), (16, .iconst 0, 1), (17, .ireturn, 1)]
theorem dX12_isSmall : x_il nX12_isSmall 18 iX12_isSmall = true := by decide +kernel
theorem aX12_isSmall (k : Nat) {pc : Nat} {i : Jvm.ClassFile.Instr} {len : Nat} (hk : iX12_isSmall[k]? = some (pc, i, len)) : x_at xMM 207 pc i len yX12_isSmall 2 (some .boolean) := ⟨cX12_isSmall, rfl, x_il_ok bX12_isSmall dX12_isSmall k hk⟩
set_option maxHeartbeats 4000000 in
set_option maxRecDepth 100000 in
theorem m_isSmall {sk : xK} {base d n sl : Nat} {SH : Nat → Nat × Nat} {FI : Nat → Nat → Int32} {FL : Nat → Nat → Int64} {FR : Nat → Nat → Option Nat} (hS : h_S n SH) (hF : h_FR FR) (a1 : Int32) : hw sk base d none 207 0 [(0, .ref (base + 121)), (1, .int (a1))] [] (n, sl, SH, FI, FL, FR) (h_I (fun r s => ∃ FI' FL', s = (n, sl, SH, FI', FL', FR) ∧ FI = FI' ∧ FL = FL' ∧ (r.toInt = 1 → (97 ≤ (a1).toInt ∧ (a1).toInt ≤ 122)) ∧ (0 ≤ r.toInt ∧ r.toInt ≤ 1))) := by
  have rg_a1 := i_rng a1
  refine xw_iloadn (aX12_isSmall 0 rfl) rfl ?_
  refine hw_bp (v := (97 : Int32)) (aX12_isSmall 1 rfl) (by decide) ?_
  refine hw_iclt (tgt := 16) (aX12_isSmall 2 rfl) (by decide) rfl (by decide : (97 : Int32).toInt = 97) (fun cd1 => ?_) (fun cd1 => ?_)
  · refine hw_ic (v := (0 : Int32)) (aX12_isSmall 8 rfl) (by decide) ?_
    refine xw_iret (aX12_isSmall 9 rfl) rfl (by decide) ?_
    have e2 : ((0 : Int32)).toInt = 0 := (by decide : (0 : Int32).toInt = 0)
    exact ⟨(0 : Int32), rfl, _, _, rfl, rfl, rfl, (by show ((0 : Int32)).toInt = 1 → (97 ≤ (a1).toInt ∧ (a1).toInt ≤ 122); omega), (by show 0 ≤ ((0 : Int32)).toInt ∧ ((0 : Int32)).toInt ≤ 1; omega)⟩
  · refine xw_iloadn (aX12_isSmall 3 rfl) rfl ?_
    refine hw_bp (v := (122 : Int32)) (aX12_isSmall 4 rfl) (by decide) ?_
    refine hw_icgt (tgt := 16) (aX12_isSmall 5 rfl) (by decide) rfl (by decide : (122 : Int32).toInt = 122) (fun cd3 => ?_) (fun cd3 => ?_)
    · refine hw_ic (v := (0 : Int32)) (aX12_isSmall 8 rfl) (by decide) ?_
      refine xw_iret (aX12_isSmall 9 rfl) rfl (by decide) ?_
      have e4 : ((0 : Int32)).toInt = 0 := (by decide : (0 : Int32).toInt = 0)
      exact ⟨(0 : Int32), rfl, _, _, rfl, rfl, rfl, (by show ((0 : Int32)).toInt = 1 → (97 ≤ (a1).toInt ∧ (a1).toInt ≤ 122); omega), (by show 0 ≤ ((0 : Int32)).toInt ∧ ((0 : Int32)).toInt ≤ 1; omega)⟩
    · refine hw_ic (v := (1 : Int32)) (aX12_isSmall 6 rfl) (by decide) ?_
      refine xw_goto (tgt := 17) (aX12_isSmall 7 rfl) (by decide) ?_
      refine xw_iret (aX12_isSmall 9 rfl) rfl (by decide) ?_
      have e5 : ((1 : Int32)).toInt = 1 := (by decide : (1 : Int32).toInt = 1)
      exact ⟨(1 : Int32), rfl, _, _, rfl, rfl, rfl, (by show ((1 : Int32)).toInt = 1 → (97 ≤ (a1).toInt ∧ (a1).toInt ≤ 122); omega), (by show 0 ≤ ((1 : Int32)).toInt ∧ ((1 : Int32)).toInt ≤ 1; omega)⟩
def nX12_isDigit : Nat := 0xac030400a7040700a339101b0d00a130101b
theorem bX12_isDigit : cX12_isDigit.data.toList.map UInt8.toNat = x_un nX12_isDigit 18 := by decide +kernel
def iX12_isDigit : List (Nat × Jvm.ClassFile.Instr × Nat) := [(0, .iload_n 1, 1), (1, .bipush 48, 2), (3, .if_icmp .lt 13, 3), (6, .iload_n 1, 1), (7, .bipush 57, 2), (9, .if_icmp .gt 7, 3), (12, .iconst 1, 1), (13, .goto 4, 3), (16, .iconst 0, 1), (17, .ireturn, 1)]
theorem dX12_isDigit : x_il nX12_isDigit 18 iX12_isDigit = true := by decide +kernel
theorem aX12_isDigit (k : Nat) {pc : Nat} {i : Jvm.ClassFile.Instr} {len : Nat} (hk : iX12_isDigit[k]? = some (pc, i, len)) : x_at xMM 208 pc i len yX12_isDigit 2 (some .boolean) := ⟨cX12_isDigit, rfl, x_il_ok bX12_isDigit dX12_isDigit k hk⟩
set_option maxHeartbeats 4000000 in
set_option maxRecDepth 100000 in
theorem m_isDigit {sk : xK} {base d n sl : Nat} {SH : Nat → Nat × Nat} {FI : Nat → Nat → Int32} {FL : Nat → Nat → Int64} {FR : Nat → Nat → Option Nat} (hS : h_S n SH) (hF : h_FR FR) (a1 : Int32) : hw sk base d none 208 0 [(0, .ref (base + 121)), (1, .int (a1))] [] (n, sl, SH, FI, FL, FR) (h_I (fun r s => ∃ FI' FL', s = (n, sl, SH, FI', FL', FR) ∧ FI = FI' ∧ FL = FL' ∧ (r.toInt = 1 → (48 ≤ (a1).toInt ∧ (a1).toInt ≤ 57)) ∧ (0 ≤ r.toInt ∧ r.toInt ≤ 1))) := by
  have rg_a1 := i_rng a1
  refine xw_iloadn (aX12_isDigit 0 rfl) rfl ?_
  refine hw_bp (v := (48 : Int32)) (aX12_isDigit 1 rfl) (by decide) ?_
  refine hw_iclt (tgt := 16) (aX12_isDigit 2 rfl) (by decide) rfl (by decide : (48 : Int32).toInt = 48) (fun cd1 => ?_) (fun cd1 => ?_)
  · refine hw_ic (v := (0 : Int32)) (aX12_isDigit 8 rfl) (by decide) ?_
    refine xw_iret (aX12_isDigit 9 rfl) rfl (by decide) ?_
    have e2 : ((0 : Int32)).toInt = 0 := (by decide : (0 : Int32).toInt = 0)
    exact ⟨(0 : Int32), rfl, _, _, rfl, rfl, rfl, (by show ((0 : Int32)).toInt = 1 → (48 ≤ (a1).toInt ∧ (a1).toInt ≤ 57); omega), (by show 0 ≤ ((0 : Int32)).toInt ∧ ((0 : Int32)).toInt ≤ 1; omega)⟩
  · refine xw_iloadn (aX12_isDigit 3 rfl) rfl ?_
    refine hw_bp (v := (57 : Int32)) (aX12_isDigit 4 rfl) (by decide) ?_
    refine hw_icgt (tgt := 16) (aX12_isDigit 5 rfl) (by decide) rfl (by decide : (57 : Int32).toInt = 57) (fun cd3 => ?_) (fun cd3 => ?_)
    · refine hw_ic (v := (0 : Int32)) (aX12_isDigit 8 rfl) (by decide) ?_
      refine xw_iret (aX12_isDigit 9 rfl) rfl (by decide) ?_
      have e4 : ((0 : Int32)).toInt = 0 := (by decide : (0 : Int32).toInt = 0)
      exact ⟨(0 : Int32), rfl, _, _, rfl, rfl, rfl, (by show ((0 : Int32)).toInt = 1 → (48 ≤ (a1).toInt ∧ (a1).toInt ≤ 57); omega), (by show 0 ≤ ((0 : Int32)).toInt ∧ ((0 : Int32)).toInt ≤ 1; omega)⟩
    · refine hw_ic (v := (1 : Int32)) (aX12_isDigit 6 rfl) (by decide) ?_
      refine xw_goto (tgt := 17) (aX12_isDigit 7 rfl) (by decide) ?_
      refine xw_iret (aX12_isDigit 9 rfl) rfl (by decide) ?_
      have e5 : ((1 : Int32)).toInt = 1 := (by decide : (1 : Int32).toInt = 1)
      exact ⟨(1 : Int32), rfl, _, _, rfl, rfl, rfl, (by show ((1 : Int32)).toInt = 1 → (48 ≤ (a1).toInt ∧ (a1).toInt ≤ 57); omega), (by show 0 ≤ ((1 : Int32)).toInt ∧ ((1 : Int32)).toInt ≤ 1; omega)⟩
def nX12_isLetter : Nat := 0xac030400a7040700a35a101b0d00a141101b0f009aa701b61b2a
theorem bX12_isLetter : cX12_isLetter.data.toList.map UInt8.toNat = x_un nX12_isLetter 26 := by decide +kernel
def iX12_isLetter : List (Nat × Jvm.ClassFile.Instr × Nat) := [(0, .aload_n 0, 1), (1, .iload_n 1, 1), (2, .invokevirtual 423, 3), (5, .ifCond .ne 15, 3), (8, .iload_n 1, 1), (9, .bipush 65, 2), (11, .if_icmp .lt 13, 3), (14, .iload_n 1, 1), (15, .bipush 90, 2), (17, .if_icmp .gt 7, 3), (20, .iconst 1, 1), (21, .goto 4, 3), (24, .iconst 0, 1), (25, .ireturn, 1)]
theorem dX12_isLetter : x_il nX12_isLetter 26 iX12_isLetter = true := by decide +kernel
theorem aX12_isLetter (k : Nat) {pc : Nat} {i : Jvm.ClassFile.Instr} {len : Nat} (hk : iX12_isLetter[k]? = some (pc, i, len)) : x_at xMM 209 pc i len yX12_isLetter 2 (some .boolean) := ⟨cX12_isLetter, rfl, x_il_ok bX12_isLetter dX12_isLetter k hk⟩
set_option maxHeartbeats 4000000 in
set_option maxRecDepth 100000 in
theorem m_isLetter {sk : xK} {base d n sl : Nat} {SH : Nat → Nat × Nat} {FI : Nat → Nat → Int32} {FL : Nat → Nat → Int64} {FR : Nat → Nat → Option Nat} (hS : h_S n SH) (hF : h_FR FR) (a1 : Int32) : hw sk base (d + 1) none 209 0 [(0, .ref (base + 121)), (1, .int (a1))] [] (n, sl, SH, FI, FL, FR) (h_I (fun r s => ∃ FI' FL', s = (n, sl, SH, FI', FL', FR) ∧ FI = FI' ∧ FL = FL' ∧ (0 ≤ r.toInt ∧ r.toInt ≤ 1))) := by
  have rg_a1 := i_rng a1
  refine hw_aloadn (aX12_isLetter 0 rfl) rfl ?_
  refine xw_iloadn (aX12_isLetter 1 rfl) rfl ?_
  refine hw_callV (Bs := [.int (a1)]) (rest := []) (aX12_isLetter 2 rfl) wc_RX12_423 (by decide) rfl wi_yX12_isSmall wv_yX12_isSmall (c121 hS) (s121 hS) rfl rfl rfl (Nat.le_of_ble_eq_true rfl) (Nat.le_of_ble_eq_true rfl) (m_isSmall (d := d) hS hF (a1) ) (fun v1 sv2 p3 => ?_)
  obtain ⟨r7, rfl, FI5, FL6, rfl, rfl, rfl, t8, t9⟩ := p3
  have rg_r7 := i_rng r7
  show hw sk base _ none _ _ _ [.int (r7)] _ _
  refine hw_ifne (tgt := 20) (aX12_isLetter 3 rfl) (by decide) rfl (fun cd10 => ?_) (fun cd10 => ?_)
  · refine hw_ic (v := (1 : Int32)) (aX12_isLetter 10 rfl) (by decide) ?_
    refine xw_goto (tgt := 25) (aX12_isLetter 11 rfl) (by decide) ?_
    refine xw_iret (aX12_isLetter 13 rfl) rfl (by decide) ?_
    have e11 : ((1 : Int32)).toInt = 1 := (by decide : (1 : Int32).toInt = 1)
    exact ⟨(1 : Int32), rfl, _, _, rfl, rfl, rfl, (by show 0 ≤ ((1 : Int32)).toInt ∧ ((1 : Int32)).toInt ≤ 1; omega)⟩
  · refine xw_iloadn (aX12_isLetter 4 rfl) rfl ?_
    refine hw_bp (v := (65 : Int32)) (aX12_isLetter 5 rfl) (by decide) ?_
    refine hw_iclt (tgt := 24) (aX12_isLetter 6 rfl) (by decide) rfl (by decide : (65 : Int32).toInt = 65) (fun cd12 => ?_) (fun cd12 => ?_)
    · refine hw_ic (v := (0 : Int32)) (aX12_isLetter 12 rfl) (by decide) ?_
      refine xw_iret (aX12_isLetter 13 rfl) rfl (by decide) ?_
      have e13 : ((0 : Int32)).toInt = 0 := (by decide : (0 : Int32).toInt = 0)
      exact ⟨(0 : Int32), rfl, _, _, rfl, rfl, rfl, (by show 0 ≤ ((0 : Int32)).toInt ∧ ((0 : Int32)).toInt ≤ 1; omega)⟩
    · refine xw_iloadn (aX12_isLetter 7 rfl) rfl ?_
      refine hw_bp (v := (90 : Int32)) (aX12_isLetter 8 rfl) (by decide) ?_
      refine hw_icgt (tgt := 24) (aX12_isLetter 9 rfl) (by decide) rfl (by decide : (90 : Int32).toInt = 90) (fun cd14 => ?_) (fun cd14 => ?_)
      · refine hw_ic (v := (0 : Int32)) (aX12_isLetter 12 rfl) (by decide) ?_
        refine xw_iret (aX12_isLetter 13 rfl) rfl (by decide) ?_
        have e15 : ((0 : Int32)).toInt = 0 := (by decide : (0 : Int32).toInt = 0)
        exact ⟨(0 : Int32), rfl, _, _, rfl, rfl, rfl, (by show 0 ≤ ((0 : Int32)).toInt ∧ ((0 : Int32)).toInt ≤ 1; omega)⟩
      · refine hw_ic (v := (1 : Int32)) (aX12_isLetter 10 rfl) (by decide) ?_
        refine xw_goto (tgt := 25) (aX12_isLetter 11 rfl) (by decide) ?_
        refine xw_iret (aX12_isLetter 13 rfl) rfl (by decide) ?_
        have e16 : ((1 : Int32)).toInt = 1 := (by decide : (1 : Int32).toInt = 1)
        exact ⟨(1 : Int32), rfl, _, _, rfl, rfl, rfl, (by show 0 ≤ ((1 : Int32)).toInt ∧ ((1 : Int32)).toInt ≤ 1; omega)⟩
def nX12_word : Nat := 0xac020400a7091008009a94bc01141fac081006009a94ba01141fac071006009a94b801141fac061006009a94b601141fac0805009a94b401141fac0705009a94b201141fac0605009a94b001141fac0505009a94ae01141fac0405009a94ac01141fac0305009a94aa01141f
theorem bX12_word : cX12_word.data.toList.map UInt8.toNat = x_un nX12_word 108 := by decide +kernel
def iX12_word : List (Nat × Jvm.ClassFile.Instr × Nat) := [(0, .lload_n 1, 1), (1, .ldc2_w 426, 3), (4, .lcmp, 1), (5, .ifCond .ne 5, 3), (8, .iconst 0, 1), (9, .ireturn, 1), (10, .lload_n 1, 1), (11, .ldc2_w 428, 3), (14, .lcmp, 1), (15, .ifCond .ne 5, 3), (18, .iconst 1, 1), (19, .ireturn, 1), (20, .lload_n 1, 1), (21, .ldc2_w 430, 3), (24, .lcmp, 1), (25, .ifCond .ne 5, 3), (28, .iconst 2, 1), (29, .ireturn, 1), (30, .lload_n 1, 1), (31, .ldc2_w 432, 3), (34, .lcmp, 1), (35, .ifCond .ne 5, 3), (38, .iconst 3, 1), (39, .ireturn, 1), (40, .lload_n 1, 1), (41, .ldc2_w 434, 3), (44, .lcmp, 1), (45, .ifCond .ne 5, 3), (48, .iconst 4, 1), (49, .ireturn, 1), (50, .lload_n 1, 1), (51, .ldc2_w 436, 3), (54, .lcmp, 1), (55, .ifCond .ne 5, 3), (58, .iconst 5, 1), (59, .ireturn, 1), (60, .lload_n 1, 1), (61, .ldc2_w 438, 3), (64, .lcmp, 1), (65, .ifCond .ne 6, 3), (68, .bipush 6, 2), (70, .ireturn, 1), (71, .lload_n 1, 1), (72, .ldc2_w 440, 3), (75, .lcmp, 1), (76, .ifCond .ne 6, 3), (79, .bipush 7, 2), (81, .ireturn, 1), (82, .lload_n 1, 1), (83, .ldc2_w 442, 3), (86, .lcmp, 1), (87, .ifCond .ne 6, 3), (90, .bipush 8, 2), (92, .ireturn, 1), (93, .lload_n 1, 1), (94, .ldc2_w 444, 3), (97, .lcmp, 1), (98, .ifCond .ne 8, 3), (101, .bipush 9, 2), (103, .goto 4, 3), (106, .iconst (-1), 1), (107, .ireturn, 1)]
theorem dX12_word : x_il nX12_word 108 iX12_word = true := by decide +kernel
theorem aX12_word (k : Nat) {pc : Nat} {i : Jvm.ClassFile.Instr} {len : Nat} (hk : iX12_word[k]? = some (pc, i, len)) : x_at xMM 210 pc i len yX12_word 3 (some .int) := ⟨cX12_word, rfl, x_il_ok bX12_word dX12_word k hk⟩
set_option maxHeartbeats 4000000 in
set_option maxRecDepth 100000 in
theorem m_word {sk : xK} {base d n sl : Nat} {SH : Nat → Nat × Nat} {FI : Nat → Nat → Int32} {FL : Nat → Nat → Int64} {FR : Nat → Nat → Option Nat} (hS : h_S n SH) (hF : h_FR FR) (a1 : Int64) : hw sk base d none 210 0 [(0, .ref (base + 121)), (1, .long (a1))] [] (n, sl, SH, FI, FL, FR) (h_I (fun r s => ∃ FI' FL', s = (n, sl, SH, FI', FL', FR) ∧ FI = FI' ∧ FL = FL' ∧ (-1 ≤ r.toInt ∧ r.toInt ≤ 9))) := by
  have rg_a1 := l_rng a1
  refine xw_lloadn (aX12_word 0 rfl) rfl ?_
  refine xw_ldc2 (aX12_word 1 rfl) wk_RX12_426 ?_
  refine hw_lcne (tgt := 10) (aX12_word 2 rfl) (aX12_word 3 rfl) (by decide) rfl (by decide : (24834 : Int64).toInt = 24834) (fun cd1 => ?_) (fun cd1 => ?_)
  · refine xw_lloadn (aX12_word 6 rfl) rfl ?_
    refine xw_ldc2 (aX12_word 7 rfl) wk_RX12_428 ?_
    refine hw_lcne (tgt := 20) (aX12_word 8 rfl) (aX12_word 9 rfl) (by decide) rfl (by decide : (41299405 : Int64).toInt = 41299405) (fun cd2 => ?_) (fun cd2 => ?_)
    · refine xw_lloadn (aX12_word 12 rfl) rfl ?_
      refine xw_ldc2 (aX12_word 13 rfl) wk_RX12_430 ?_
      refine hw_lcne (tgt := 30) (aX12_word 14 rfl) (aX12_word 15 rfl) (by decide) rfl (by decide : (5042231 : Int64).toInt = 5042231) (fun cd3 => ?_) (fun cd3 => ?_)
      · refine xw_lloadn (aX12_word 18 rfl) rfl ?_
        refine xw_ldc2 (aX12_word 19 rfl) wk_RX12_432 ?_
        refine hw_lcne (tgt := 40) (aX12_word 20 rfl) (aX12_word 21 rfl) (by decide) rfl (by decide : (730200 : Int64).toInt = 730200) (fun cd4 => ?_) (fun cd4 => ?_)
        · refine xw_lloadn (aX12_word 24 rfl) rfl ?_
          refine xw_ldc2 (aX12_word 25 rfl) wk_RX12_434 ?_
          refine hw_lcne (tgt := 50) (aX12_word 26 rfl) (aX12_word 27 rfl) (by decide) rfl (by decide : (224 : Int64).toInt = 224) (fun cd5 => ?_) (fun cd5 => ?_)
          · refine xw_lloadn (aX12_word 30 rfl) rfl ?_
            refine xw_ldc2 (aX12_word 31 rfl) wk_RX12_436 ?_
            refine hw_lcne (tgt := 60) (aX12_word 32 rfl) (aX12_word 33 rfl) (by decide) rfl (by decide : (4330 : Int64).toInt = 4330) (fun cd6 => ?_) (fun cd6 => ?_)
            · refine xw_lloadn (aX12_word 36 rfl) rfl ?_
              refine xw_ldc2 (aX12_word 37 rfl) wk_RX12_438 ?_
              refine hw_lcne (tgt := 71) (aX12_word 38 rfl) (aX12_word 39 rfl) (by decide) rfl (by decide : (20619 : Int64).toInt = 20619) (fun cd7 => ?_) (fun cd7 => ?_)
              · refine xw_lloadn (aX12_word 42 rfl) rfl ?_
                refine xw_ldc2 (aX12_word 43 rfl) wk_RX12_440 ?_
                refine hw_lcne (tgt := 82) (aX12_word 44 rfl) (aX12_word 45 rfl) (by decide) rfl (by decide : (27843 : Int64).toInt = 27843) (fun cd8 => ?_) (fun cd8 => ?_)
                · refine xw_lloadn (aX12_word 48 rfl) rfl ?_
                  refine xw_ldc2 (aX12_word 49 rfl) wk_RX12_442 ?_
                  refine hw_lcne (tgt := 93) (aX12_word 50 rfl) (aX12_word 51 rfl) (by decide) rfl (by decide : (5831 : Int64).toInt = 5831) (fun cd9 => ?_) (fun cd9 => ?_)
                  · refine xw_lloadn (aX12_word 54 rfl) rfl ?_
                    refine xw_ldc2 (aX12_word 55 rfl) wk_RX12_444 ?_
                    refine hw_lcne (tgt := 106) (aX12_word 56 rfl) (aX12_word 57 rfl) (by decide) rfl (by decide : (18356 : Int64).toInt = 18356) (fun cd10 => ?_) (fun cd10 => ?_)
                    · refine hw_ic (v := ((-1) : Int32)) (aX12_word 60 rfl) (by decide) ?_
                      refine xw_iret (aX12_word 61 rfl) rfl rfl ?_
                      have e11 : (((-1) : Int32)).toInt = (-1) := (by decide : ((-1) : Int32).toInt = (-1))
                      exact ⟨((-1) : Int32), rfl, _, _, rfl, rfl, rfl, (by show -1 ≤ (((-1) : Int32)).toInt ∧ (((-1) : Int32)).toInt ≤ 9; omega)⟩
                    · refine hw_bp (v := (9 : Int32)) (aX12_word 58 rfl) (by decide) ?_
                      refine xw_goto (tgt := 107) (aX12_word 59 rfl) (by decide) ?_
                      refine xw_iret (aX12_word 61 rfl) rfl rfl ?_
                      have e12 : ((9 : Int32)).toInt = 9 := (by decide : (9 : Int32).toInt = 9)
                      exact ⟨(9 : Int32), rfl, _, _, rfl, rfl, rfl, (by show -1 ≤ ((9 : Int32)).toInt ∧ ((9 : Int32)).toInt ≤ 9; omega)⟩
                  · refine hw_bp (v := (8 : Int32)) (aX12_word 52 rfl) (by decide) ?_
                    refine xw_iret (aX12_word 53 rfl) rfl rfl ?_
                    have e13 : ((8 : Int32)).toInt = 8 := (by decide : (8 : Int32).toInt = 8)
                    exact ⟨(8 : Int32), rfl, _, _, rfl, rfl, rfl, (by show -1 ≤ ((8 : Int32)).toInt ∧ ((8 : Int32)).toInt ≤ 9; omega)⟩
                · refine hw_bp (v := (7 : Int32)) (aX12_word 46 rfl) (by decide) ?_
                  refine xw_iret (aX12_word 47 rfl) rfl rfl ?_
                  have e14 : ((7 : Int32)).toInt = 7 := (by decide : (7 : Int32).toInt = 7)
                  exact ⟨(7 : Int32), rfl, _, _, rfl, rfl, rfl, (by show -1 ≤ ((7 : Int32)).toInt ∧ ((7 : Int32)).toInt ≤ 9; omega)⟩
              · refine hw_bp (v := (6 : Int32)) (aX12_word 40 rfl) (by decide) ?_
                refine xw_iret (aX12_word 41 rfl) rfl rfl ?_
                have e15 : ((6 : Int32)).toInt = 6 := (by decide : (6 : Int32).toInt = 6)
                exact ⟨(6 : Int32), rfl, _, _, rfl, rfl, rfl, (by show -1 ≤ ((6 : Int32)).toInt ∧ ((6 : Int32)).toInt ≤ 9; omega)⟩
            · refine hw_ic (v := (5 : Int32)) (aX12_word 34 rfl) (by decide) ?_
              refine xw_iret (aX12_word 35 rfl) rfl rfl ?_
              have e16 : ((5 : Int32)).toInt = 5 := (by decide : (5 : Int32).toInt = 5)
              exact ⟨(5 : Int32), rfl, _, _, rfl, rfl, rfl, (by show -1 ≤ ((5 : Int32)).toInt ∧ ((5 : Int32)).toInt ≤ 9; omega)⟩
          · refine hw_ic (v := (4 : Int32)) (aX12_word 28 rfl) (by decide) ?_
            refine xw_iret (aX12_word 29 rfl) rfl rfl ?_
            have e17 : ((4 : Int32)).toInt = 4 := (by decide : (4 : Int32).toInt = 4)
            exact ⟨(4 : Int32), rfl, _, _, rfl, rfl, rfl, (by show -1 ≤ ((4 : Int32)).toInt ∧ ((4 : Int32)).toInt ≤ 9; omega)⟩
        · refine hw_ic (v := (3 : Int32)) (aX12_word 22 rfl) (by decide) ?_
          refine xw_iret (aX12_word 23 rfl) rfl rfl ?_
          have e18 : ((3 : Int32)).toInt = 3 := (by decide : (3 : Int32).toInt = 3)
          exact ⟨(3 : Int32), rfl, _, _, rfl, rfl, rfl, (by show -1 ≤ ((3 : Int32)).toInt ∧ ((3 : Int32)).toInt ≤ 9; omega)⟩
      · refine hw_ic (v := (2 : Int32)) (aX12_word 16 rfl) (by decide) ?_
        refine xw_iret (aX12_word 17 rfl) rfl rfl ?_
        have e19 : ((2 : Int32)).toInt = 2 := (by decide : (2 : Int32).toInt = 2)
        exact ⟨(2 : Int32), rfl, _, _, rfl, rfl, rfl, (by show -1 ≤ ((2 : Int32)).toInt ∧ ((2 : Int32)).toInt ≤ 9; omega)⟩
    · refine hw_ic (v := (1 : Int32)) (aX12_word 10 rfl) (by decide) ?_
      refine xw_iret (aX12_word 11 rfl) rfl rfl ?_
      have e20 : ((1 : Int32)).toInt = 1 := (by decide : (1 : Int32).toInt = 1)
      exact ⟨(1 : Int32), rfl, _, _, rfl, rfl, rfl, (by show -1 ≤ ((1 : Int32)).toInt ∧ ((1 : Int32)).toInt ≤ 9; omega)⟩
  · refine hw_ic (v := (0 : Int32)) (aX12_word 4 rfl) (by decide) ?_
    refine xw_iret (aX12_word 5 rfl) rfl rfl ?_
    have e21 : ((0 : Int32)).toInt = 0 := (by decide : (0 : Int32).toInt = 0)
    exact ⟨(0 : Int32), rfl, _, _, rfl, rfl, rfl, (by show -1 ≤ ((0 : Int32)).toInt ∧ ((0 : Int32)).toInt ≤ 9; omega)⟩
