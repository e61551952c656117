def nX12_read : Nat := 0xad0416e5ffa7ff0684043781852e600615881f0d00b42a79081004161c009b0615063664041d043709
theorem bX12_read : cX12_read.data.toList.map UInt8.toNat = x_un nX12_read 41 := by decide +kernel
def iX12_read : List (Nat × Jvm.ClassFile.Instr × Nat) := [(0, .lconst 0, 1), (1, .lstore 4, 2), (3, .iload_n 3, 1), (4, .iconst 1, 1), (5, .isub, 1), (6, .istore 6, 2), (8, .iload 6, 2), (10, .ifCond .lt 28, 3), (13, .lload 4, 2), (15, .bipush 8, 2), (17, .lshl, 1), (18, .aload_n 0, 1), (19, .getfield 13, 3), (22, .lload_n 1, 1), (23, .l2i, 1), (24, .iload 6, 2), (26, .iadd, 1), (27, .iaload, 1), (28, .i2l, 1), (29, .lor, 1), (30, .lstore 4, 2), (32, .iinc 6 (-1), 3), (35, .goto (-27), 3), (38, .lload 4, 2), (40, .lreturn, 1)]
theorem dX12_read : x_il nX12_read 41 iX12_read = true := by decide +kernel
theorem aX12_read (k : Nat) {pc : Nat} {i : Jvm.ClassFile.Instr} {len : Nat} (hk : iX12_read[k]? = some (pc, i, len)) : x_at xMM 167 pc i len yX12_read 7 (some .long) := ⟨cX12_read, rfl, x_il_ok bX12_read dX12_read k hk⟩
set_option maxHeartbeats 4000000 in
set_option maxRecDepth 100000 in
theorem m_read {sk : xK} {base d n sl : Nat} {SH : Nat → Nat × Nat} {FI : Nat → Nat → Int32} {FL : Nat → Nat → Int64} {FR : Nat → Nat → Option Nat} (hS : h_S n SH) (hF : h_FR FR) (a1 : Int64) (a2 : Int32) (g0 : (a1).toInt + (a2).toInt ≤ 4096) (g1 : 0 ≤ (a1).toInt ∧ (a1).toInt ≤ 4096) (g2 : 1 ≤ (a2).toInt ∧ (a2).toInt ≤ 8) : hw sk base d none 167 0 [(0, .ref (base + 121)), (1, .long (a1)), (3, .int (a2))] [] (n, sl, SH, FI, FL, FR) (h_J (fun r s => ∃ FI' FL', s = (n, sl, SH, FI', FL', FR) ∧ FI = FI' ∧ FL = FL')) := by
  have rg_a1 := l_rng a1
  have rg_a2 := i_rng a2
  refine hw_lc (v := (0 : Int64)) (aX12_read 0 rfl) (by decide) ?_
  refine xw_lstore (L2 := [(4, .long ((0 : Int64))), (0, .ref (base + 121)), (1, .long (a1)), (3, .int (a2))]) (aX12_read 1 rfl) (by decide) rfl ?_
  refine xw_iloadn (aX12_read 2 rfl) rfl ?_
  refine hw_ic (v := (1 : Int32)) (aX12_read 3 rfl) (by decide) ?_
  refine xw_isub (aX12_read 4 rfl) ?_
  refine hw_tie (A := ((a2).toInt) - (1)) (i_sub rfl (by decide : (1 : Int32).toInt = 1) (by omega) (by omega)) (fun x1 e2 => ?_)
  refine xw_istore (L2 := [(6, .int (x1)), (4, .long ((0 : Int64))), (0, .ref (base + 121)), (1, .long (a1)), (3, .int (a2))]) (aX12_read 5 rfl) (by decide) rfl ?_
  have lp3 : ∀ (m : Nat) (v : Int64) (i : Int32) , (-1 ≤ (i).toInt) → ((i).toInt < (a2).toInt) → (i).toInt + 1 < m → hw sk base d none 167 8 [(6, .int (i)), (4, .long (v)), (0, .ref (base + 121)), (1, .long (a1))] [] (n, sl, SH, FI, FL, FR) (h_J (fun r s => ∃ FI' FL', s = (n, sl, SH, FI', FL', FR) ∧ FI = FI' ∧ FL = FL')) := by
    intro m
    induction m with
    | zero => intro v i  iv4 iv5 hm; omega
    | succ m ih =>
      intro v i  iv4 iv5 hm
      have rg_v := l_rng v
      have rg_i := i_rng i
      refine xw_iload (aX12_read 6 rfl) rfl ?_
      refine hw_iflt (tgt := 38) (aX12_read 7 rfl) (by decide) rfl (fun cd6 => ?_) (fun cd6 => ?_)
      · refine xw_lload (aX12_read 23 rfl) rfl ?_
        refine xw_lret (aX12_read 24 rfl) rfl ?_
        have e7 : (v).toInt = (v).toInt := rfl
        exact ⟨v, rfl, _, _, rfl, rfl, rfl⟩
      · refine xw_lload (aX12_read 8 rfl) rfl ?_
        refine hw_bp (v := (8 : Int32)) (aX12_read 9 rfl) (by decide) ?_
        refine xw_lshl (aX12_read 10 rfl) ?_
        refine hw_tl (fun x8 => ?_)
        have b9 := l_rng x8
        refine hw_aloadn (aX12_read 11 rfl) rfl ?_
        refine hw_get (v := .ref (base + 123)) (aX12_read 12 rfl) wf_RX12_13 (c121 hS) (s121 hS) (by decide) (congrArg (fun r => va_rf (h_rf base r)) (r121_2 hF)) ?_
        refine xw_lloadn (aX12_read 13 rfl) rfl ?_
        refine xw_l2i (aX12_read 14 rfl) ?_
        refine hw_tie (A := (a1).toInt) (l_2i rfl (by omega) (by omega)) (fun x10 e11 => ?_)
        refine xw_iload (aX12_read 15 rfl) rfl ?_
        refine xw_iadd (aX12_read 16 rfl) ?_
        refine hw_tie (A := ((a1).toInt) + ((i).toInt)) (i_add e11 rfl (by omega) (by omega)) (fun x12 e13 => ?_)
        refine hw_iald (v := FI 123 (x12).toNatClampNeg) (aX12_read 17 rfl) (c123 hS) (s123 hS) (h_in e13 (by omega) (by omega)) rfl ?_
        refine hw_ti (fun x14 => ?_)
        have b15 := i_rng x14
        refine xw_i2l (aX12_read 18 rfl) ?_
        refine hw_tle (A := (x14).toInt) (i_2l rfl) (fun x16 e17 => ?_)
        refine xw_lor (aX12_read 19 rfl) ?_
        refine hw_tl (fun x18 => ?_)
        have b19 := l_rng x18
        refine xw_lstore (L2 := [(4, .long (x18)), (6, .int (i)), (0, .ref (base + 121)), (1, .long (a1))]) (aX12_read 20 rfl) (by decide) rfl ?_
        obtain ⟨x20, q22⟩ : ∃ y : Int32, i + Int32.ofInt (-1) = y := ⟨_, rfl⟩
        have e21 : (x20).toInt = (i).toInt + (-1) := by rw [← q22]; exact i_add rfl (by decide) (by omega) (by omega)
        refine xw_iinc (L2 := [(6, .int (x20)), (4, .long (x18)), (0, .ref (base + 121)), (1, .long (a1))]) (aX12_read 21 rfl) rfl (by decide) (by rw [q22]; rfl) ?_
        refine xw_goto (tgt := 8) (aX12_read 22 rfl) (by decide) ?_
        exact hw_L (ih (x18) (x20) (by have := (e21 : (x20).toInt = (i).toInt + (-1)); show -1 ≤ ((x20)).toInt; omega) (by have := (e21 : (x20).toInt = (i).toInt + (-1)); show ((x20)).toInt < (a2).toInt; omega) (by have := (e21 : (x20).toInt = (i).toInt + (-1)); show ((x20)).toInt + 1 < _; omega)) ⟨rfl, rfl, rfl, rfl, trivial⟩
  exact hw_L (lp3 ((((x1)).toInt + 1).toNat + 1) ((0 : Int64)) (x1) (by have := ((by decide : (0 : Int64).toInt = 0) : ((0 : Int64)).toInt = 0); have := (e2 : (x1).toInt = ((a2).toInt) - (1)); show -1 ≤ ((x1)).toInt; omega) (by have := ((by decide : (0 : Int64).toInt = 0) : ((0 : Int64)).toInt = 0); have := (e2 : (x1).toInt = ((a2).toInt) - (1)); show ((x1)).toInt < (a2).toInt; omega) (by have := ((by decide : (0 : Int64).toInt = 0) : ((0 : Int64)).toInt = 0); have := (e2 : (x1).toInt = ((a2).toInt) - (1)); show ((x1)).toInt + 1 < _; omega)) ⟨rfl, rfl, rfl, rfl, trivial⟩
def nX12_number : Nat := 0xad21e8ffa7ff05844281852e6005151b1100b42a7908102119009b0515053664041c4209
theorem bX12_number : cX12_number.data.toList.map UInt8.toNat = x_un nX12_number 36 := by decide +kernel
def iX12_number : List (Nat × Jvm.ClassFile.Instr × Nat) := [(0, .lconst 0, 1), (1, .lstore_n 3, 1), (2, .iload_n 2, 1), (3, .iconst 1, 1), (4, .isub, 1), (5, .istore 5, 2), (7, .iload 5, 2), (9, .ifCond .lt 25, 3), (12, .lload_n 3, 1), (13, .bipush 8, 2), (15, .lshl, 1), (16, .aload_n 0, 1), (17, .getfield 17, 3), (20, .iload_n 1, 1), (21, .iload 5, 2), (23, .iadd, 1), (24, .iaload, 1), (25, .i2l, 1), (26, .lor, 1), (27, .lstore_n 3, 1), (28, .iinc 5 (-1), 3), (31, .goto (-24), 3), (34, .lload_n 3, 1), (35, .lreturn, 1)]
theorem dX12_number : x_il nX12_number 36 iX12_number = true := by decide +kernel
theorem aX12_number (k : Nat) {pc : Nat} {i : Jvm.ClassFile.Instr} {len : Nat} (hk : iX12_number[k]? = some (pc, i, len)) : x_at xMM 193 pc i len yX12_number 6 (some .long) := ⟨cX12_number, rfl, x_il_ok bX12_number dX12_number k hk⟩
set_option maxHeartbeats 4000000 in
set_option maxRecDepth 100000 in
theorem m_number {sk : xK} {base d n sl : Nat} {SH : Nat → Nat × Nat} {FI : Nat → Nat → Int32} {FL : Nat → Nat → Int64} {FR : Nat → Nat → Option Nat} (hS : h_S n SH) (hF : h_FR FR) (a1 : Int32) (a2 : Int32) (g0 : (a1).toInt + (a2).toInt ≤ 19200) (g1 : 0 ≤ (a1).toInt ∧ (a1).toInt ≤ 19200) (g2 : 1 ≤ (a2).toInt ∧ (a2).toInt ≤ 8) : hw sk base d none 193 0 [(0, .ref (base + 121)), (1, .int (a1)), (2, .int (a2))] [] (n, sl, SH, FI, FL, FR) (h_J (fun r s => ∃ FI' FL', s = (n, sl, SH, FI', FL', FR) ∧ FI = FI' ∧ FL = FL')) := by
  have rg_a1 := i_rng a1
  have rg_a2 := i_rng a2
  refine hw_lc (v := (0 : Int64)) (aX12_number 0 rfl) (by decide) ?_
  refine xw_lstoren (L2 := [(3, .long ((0 : Int64))), (0, .ref (base + 121)), (1, .int (a1)), (2, .int (a2))]) (aX12_number 1 rfl) (by decide) rfl ?_
  refine xw_iloadn (aX12_number 2 rfl) rfl ?_
  refine hw_ic (v := (1 : Int32)) (aX12_number 3 rfl) (by decide) ?_
  refine xw_isub (aX12_number 4 rfl) ?_
  refine hw_tie (A := ((a2).toInt) - (1)) (i_sub rfl (by decide : (1 : Int32).toInt = 1) (by omega) (by omega)) (fun x1 e2 => ?_)
  refine xw_istore (L2 := [(5, .int (x1)), (3, .long ((0 : Int64))), (0, .ref (base + 121)), (1, .int (a1)), (2, .int (a2))]) (aX12_number 5 rfl) (by decide) rfl ?_
  have lp3 : ∀ (m : Nat) (v : Int64) (i : Int32) , (-1 ≤ (i).toInt) → ((i).toInt < (a2).toInt) → (i).toInt + 1 < m → hw sk base d none 193 7 [(5, .int (i)), (3, .long (v)), (0, .ref (base + 121)), (1, .int (a1))] [] (n, sl, SH, FI, FL, FR) (h_J (fun r s => ∃ FI' FL', s = (n, sl, SH, FI', FL', FR) ∧ FI = FI' ∧ FL = FL')) := by
    intro m
    induction m with
    | zero => intro v i  iv4 iv5 hm; omega
    | succ m ih =>
      intro v i  iv4 iv5 hm
      have rg_v := l_rng v
      have rg_i := i_rng i
      refine xw_iload (aX12_number 6 rfl) rfl ?_
      refine hw_iflt (tgt := 34) (aX12_number 7 rfl) (by decide) rfl (fun cd6 => ?_) (fun cd6 => ?_)
      · refine xw_lloadn (aX12_number 22 rfl) rfl ?_
        refine xw_lret (aX12_number 23 rfl) rfl ?_
        have e7 : (v).toInt = (v).toInt := rfl
        exact ⟨v, rfl, _, _, rfl, rfl, rfl⟩
      · refine xw_lloadn (aX12_number 8 rfl) rfl ?_
        refine hw_bp (v := (8 : Int32)) (aX12_number 9 rfl) (by decide) ?_
        refine xw_lshl (aX12_number 10 rfl) ?_
        refine hw_tl (fun x8 => ?_)
        have b9 := l_rng x8
        refine hw_aloadn (aX12_number 11 rfl) rfl ?_
        refine hw_get (v := .ref (base + 124)) (aX12_number 12 rfl) wf_RX12_17 (c121 hS) (s121 hS) (by decide) (congrArg (fun r => va_rf (h_rf base r)) (r121_3 hF)) ?_
        refine xw_iloadn (aX12_number 13 rfl) rfl ?_
        refine xw_iload (aX12_number 14 rfl) rfl ?_
        refine xw_iadd (aX12_number 15 rfl) ?_
        refine hw_tie (A := ((a1).toInt) + ((i).toInt)) (i_add rfl rfl (by omega) (by omega)) (fun x10 e11 => ?_)
        refine hw_iald (v := FI 124 (x10).toNatClampNeg) (aX12_number 16 rfl) (c124 hS) (s124 hS) (h_in e11 (by omega) (by omega)) rfl ?_
        refine hw_ti (fun x12 => ?_)
        have b13 := i_rng x12
        refine xw_i2l (aX12_number 17 rfl) ?_
        refine hw_tle (A := (x12).toInt) (i_2l rfl) (fun x14 e15 => ?_)
        refine xw_lor (aX12_number 18 rfl) ?_
        refine hw_tl (fun x16 => ?_)
        have b17 := l_rng x16
        refine xw_lstoren (L2 := [(3, .long (x16)), (5, .int (i)), (0, .ref (base + 121)), (1, .int (a1))]) (aX12_number 19 rfl) (by decide) rfl ?_
        obtain ⟨x18, q20⟩ : ∃ y : Int32, i + Int32.ofInt (-1) = y := ⟨_, rfl⟩
        have e19 : (x18).toInt = (i).toInt + (-1) := by rw [← q20]; exact i_add rfl (by decide) (by omega) (by omega)
        refine xw_iinc (L2 := [(5, .int (x18)), (3, .long (x16)), (0, .ref (base + 121)), (1, .int (a1))]) (aX12_number 20 rfl) rfl (by decide) (by rw [q20]; rfl) ?_
        refine xw_goto (tgt := 7) (aX12_number 21 rfl) (by decide) ?_
        exact hw_L (ih (x16) (x18) (by have := (e19 : (x18).toInt = (i).toInt + (-1)); show -1 ≤ ((x18)).toInt; omega) (by have := (e19 : (x18).toInt = (i).toInt + (-1)); show ((x18)).toInt < (a2).toInt; omega) (by have := (e19 : (x18).toInt = (i).toInt + (-1)); show ((x18)).toInt + 1 < _; omega)) ⟨rfl, rfl, rfl, rfl, trivial⟩
  exact hw_L (lp3 ((((x1)).toInt + 1).toNat + 1) ((0 : Int64)) (x1) (by have := ((by decide : (0 : Int64).toInt = 0) : ((0 : Int64)).toInt = 0); have := (e2 : (x1).toInt = ((a2).toInt) - (1)); show -1 ≤ ((x1)).toInt; omega) (by have := ((by decide : (0 : Int64).toInt = 0) : ((0 : Int64)).toInt = 0); have := (e2 : (x1).toInt = ((a2).toInt) - (1)); show ((x1)).toInt < (a2).toInt; omega) (by have := ((by decide : (0 : Int64).toInt = 0) : ((0 : Int64)).toInt = 0); have := (e2 : (x1).toInt = ((a2).toInt) - (1)); show ((x1)).toInt + 1 < _; omega)) ⟨rfl, rfl, rfl, rfl, trivial⟩
def nX12_compares : Nat := 0xac020400a72a1008009a947f021420ac2b1006009a947d021420ac2c1006009a947b021420ac2d1006009a9479021420ac2e1006009a9477021420ac291006009a9475021420ac0205009f081b
theorem bX12_compares : cX12_compares.data.toList.map UInt8.toNat = x_un nX12_compares 77 := by decide +kernel
def iX12_compares : List (Nat × Jvm.ClassFile.Instr × Nat) := [(0, .iload_n 1, 1), (1, .iconst 5, 1), (2, .if_icmp .eq 5, 3), (5, .iconst (-1), 1), (6, .ireturn, 1), (7, .lload_n 2, 1), (8, .ldc2_w 629, 3), (11, .lcmp, 1), (12, .ifCond .ne 6, 3), (15, .bipush 41, 2), (17, .ireturn, 1), (18, .lload_n 2, 1), (19, .ldc2_w 631, 3), (22, .lcmp, 1), (23, .ifCond .ne 6, 3), (26, .bipush 46, 2), (28, .ireturn, 1), (29, .lload_n 2, 1), (30, .ldc2_w 633, 3), (33, .lcmp, 1), (34, .ifCond .ne 6, 3), (37, .bipush 45, 2), (39, .ireturn, 1), (40, .lload_n 2, 1), (41, .ldc2_w 635, 3), (44, .lcmp, 1), (45, .ifCond .ne 6, 3), (48, .bipush 44, 2), (50, .ireturn, 1), (51, .lload_n 2, 1), (52, .ldc2_w 637, 3), (55, .lcmp, 1), (56, .ifCond .ne 6, 3), (59, .bipush 43, 2), (61, .ireturn, 1), (62, .lload_n 2, 1), (63, .ldc2_w 639, 3), (66, .lcmp, 1), (67, .ifCond .ne 8, 3), (70, .bipush 42, 2), (72, .goto 4, 3), (75, .iconst (-1), 1), (76, .ireturn, 1)]
theorem dX12_compares : x_il nX12_compares 77 iX12_compares = true := by decide +kernel
theorem aX12_compares (k : Nat) {pc : Nat} {i : Jvm.ClassFile.Instr} {len : Nat} (hk : iX12_compares[k]? = some (pc, i, len)) : x_at xMM 246 pc i len yX12_compares 4 (some .int) := ⟨cX12_compares, rfl, x_il_ok bX12_compares dX12_compares k hk⟩
set_option maxHeartbeats 4000000 in
set_option maxRecDepth 100000 in
theorem m_compares {sk : xK} {base d n sl : Nat} {SH : Nat → Nat × Nat} {FI : Nat → Nat → Int32} {FL : Nat → Nat → Int64} {FR : Nat → Nat → Option Nat} (hS : h_S n SH) (hF : h_FR FR) (a1 : Int32) (a2 : Int64) : hw sk base d none 246 0 [(0, .ref (base + 121)), (1, .int (a1)), (2, .long (a2))] [] (n, sl, SH, FI, FL, FR) (h_I (fun r s => ∃ FI' FL', s = (n, sl, SH, FI', FL', FR) ∧ FI = FI' ∧ FL = FL' ∧ (-1 ≤ r.toInt ∧ r.toInt ≤ 46))) := by
  have rg_a1 := i_rng a1
  have rg_a2 := l_rng a2
  refine xw_iloadn (aX12_compares 0 rfl) rfl ?_
  refine hw_ic (v := (5 : Int32)) (aX12_compares 1 rfl) (by decide) ?_
  refine hw_iceq (tgt := 7) (aX12_compares 2 rfl) (by decide) rfl (by decide : (5 : Int32).toInt = 5) (fun cd1 => ?_) (fun cd1 => ?_)
  · refine xw_lloadn (aX12_compares 5 rfl) rfl ?_
    refine xw_ldc2 (aX12_compares 6 rfl) wk_RX12_629 ?_
    refine hw_lcne (tgt := 18) (aX12_compares 7 rfl) (aX12_compares 8 rfl) (by decide) rfl (by decide : (257 : Int64).toInt = 257) (fun cd2 => ?_) (fun cd2 => ?_)
    · refine xw_lloadn (aX12_compares 11 rfl) rfl ?_
      refine xw_ldc2 (aX12_compares 12 rfl) wk_RX12_631 ?_
      refine hw_lcne (tgt := 29) (aX12_compares 13 rfl) (aX12_compares 14 rfl) (by decide) rfl (by decide : (258 : Int64).toInt = 258) (fun cd3 => ?_) (fun cd3 => ?_)
      · refine xw_lloadn (aX12_compares 17 rfl) rfl ?_
        refine xw_ldc2 (aX12_compares 18 rfl) wk_RX12_633 ?_
        refine hw_lcne (tgt := 40) (aX12_compares 19 rfl) (aX12_compares 20 rfl) (by decide) rfl (by decide : (60 : Int64).toInt = 60) (fun cd4 => ?_) (fun cd4 => ?_)
        · refine xw_lloadn (aX12_compares 23 rfl) rfl ?_
          refine xw_ldc2 (aX12_compares 24 rfl) wk_RX12_635 ?_
          refine hw_lcne (tgt := 51) (aX12_compares 25 rfl) (aX12_compares 26 rfl) (by decide) rfl (by decide : (259 : Int64).toInt = 259) (fun cd5 => ?_) (fun cd5 => ?_)
          · refine xw_lloadn (aX12_compares 29 rfl) rfl ?_
            refine xw_ldc2 (aX12_compares 30 rfl) wk_RX12_637 ?_
            refine hw_lcne (tgt := 62) (aX12_compares 31 rfl) (aX12_compares 32 rfl) (by decide) rfl (by decide : (62 : Int64).toInt = 62) (fun cd6 => ?_) (fun cd6 => ?_)
            · refine xw_lloadn (aX12_compares 35 rfl) rfl ?_
              refine xw_ldc2 (aX12_compares 36 rfl) wk_RX12_639 ?_
              refine hw_lcne (tgt := 75) (aX12_compares 37 rfl) (aX12_compares 38 rfl) (by decide) rfl (by decide : (260 : Int64).toInt = 260) (fun cd7 => ?_) (fun cd7 => ?_)
              · refine hw_ic (v := ((-1) : Int32)) (aX12_compares 41 rfl) (by decide) ?_
                refine xw_iret (aX12_compares 42 rfl) rfl rfl ?_
                have e8 : (((-1) : Int32)).toInt = (-1) := (by decide : ((-1) : Int32).toInt = (-1))
                exact ⟨((-1) : Int32), rfl, _, _, rfl, rfl, rfl, (by show -1 ≤ (((-1) : Int32)).toInt ∧ (((-1) : Int32)).toInt ≤ 46; omega)⟩
              · refine hw_bp (v := (42 : Int32)) (aX12_compares 39 rfl) (by decide) ?_
                refine xw_goto (tgt := 76) (aX12_compares 40 rfl) (by decide) ?_
                refine xw_iret (aX12_compares 42 rfl) rfl rfl ?_
                have e9 : ((42 : Int32)).toInt = 42 := (by decide : (42 : Int32).toInt = 42)
                exact ⟨(42 : Int32), rfl, _, _, rfl, rfl, rfl, (by show -1 ≤ ((42 : Int32)).toInt ∧ ((42 : Int32)).toInt ≤ 46; omega)⟩
            · refine hw_bp (v := (43 : Int32)) (aX12_compares 33 rfl) (by decide) ?_
              refine xw_iret (aX12_compares 34 rfl) rfl rfl ?_
              have e10 : ((43 : Int32)).toInt = 43 := (by decide : (43 : Int32).toInt = 43)
              exact ⟨(43 : Int32), rfl, _, _, rfl, rfl, rfl, (by show -1 ≤ ((43 : Int32)).toInt ∧ ((43 : Int32)).toInt ≤ 46; omega)⟩
          · refine hw_bp (v := (44 : Int32)) (aX12_compares 27 rfl) (by decide) ?_
            refine xw_iret (aX12_compares 28 rfl) rfl rfl ?_
            have e11 : ((44 : Int32)).toInt = 44 := (by decide : (44 : Int32).toInt = 44)
            exact ⟨(44 : Int32), rfl, _, _, rfl, rfl, rfl, (by show -1 ≤ ((44 : Int32)).toInt ∧ ((44 : Int32)).toInt ≤ 46; omega)⟩
        · refine hw_bp (v := (45 : Int32)) (aX12_compares 21 rfl) (by decide) ?_
          refine xw_iret (aX12_compares 22 rfl) rfl rfl ?_
          have e12 : ((45 : Int32)).toInt = 45 := (by decide : (45 : Int32).toInt = 45)
          exact ⟨(45 : Int32), rfl, _, _, rfl, rfl, rfl, (by show -1 ≤ ((45 : Int32)).toInt ∧ ((45 : Int32)).toInt ≤ 46; omega)⟩
      · refine hw_bp (v := (46 : Int32)) (aX12_compares 15 rfl) (by decide) ?_
        refine xw_iret (aX12_compares 16 rfl) rfl rfl ?_
        have e13 : ((46 : Int32)).toInt = 46 := (by decide : (46 : Int32).toInt = 46)
        exact ⟨(46 : Int32), rfl, _, _, rfl, rfl, rfl, (by show -1 ≤ ((46 : Int32)).toInt ∧ ((46 : Int32)).toInt ≤ 46; omega)⟩
    · refine hw_bp (v := (41 : Int32)) (aX12_compares 9 rfl) (by decide) ?_
      refine xw_iret (aX12_compares 10 rfl) rfl rfl ?_
      have e14 : ((41 : Int32)).toInt = 41 := (by decide : (41 : Int32).toInt = 41)
      exact ⟨(41 : Int32), rfl, _, _, rfl, rfl, rfl, (by show -1 ≤ ((41 : Int32)).toInt ∧ ((41 : Int32)).toInt ≤ 46; omega)⟩
  · refine hw_ic (v := ((-1) : Int32)) (aX12_compares 3 rfl) (by decide) ?_
    refine xw_iret (aX12_compares 4 rfl) rfl rfl ?_
    have e15 : (((-1) : Int32)).toInt = (-1) := (by decide : ((-1) : Int32).toInt = (-1))
    exact ⟨((-1) : Int32), rfl, _, _, rfl, rfl, rfl, (by show -1 ≤ (((-1) : Int32)).toInt ∧ (((-1) : Int32)).toInt ≤ 46; omega)⟩
def nX12_shifts : Nat := 0xac020400a7251008009a9485021420ac261006009a9483021420ac241006009a9481021420ac0205009f081b
theorem bX12_shifts : cX12_shifts.data.toList.map UInt8.toNat = x_un nX12_shifts 44 := by decide +kernel
def iX12_shifts : List (Nat × Jvm.ClassFile.Instr × Nat) := [(0, .iload_n 1, 1), (1, .iconst 5, 1), (2, .if_icmp .eq 5, 3), (5, .iconst (-1), 1), (6, .ireturn, 1), (7, .lload_n 2, 1), (8, .ldc2_w 641, 3), (11, .lcmp, 1), (12, .ifCond .ne 6, 3), (15, .bipush 36, 2), (17, .ireturn, 1), (18, .lload_n 2, 1), (19, .ldc2_w 643, 3), (22, .lcmp, 1), (23, .ifCond .ne 6, 3), (26, .bipush 38, 2), (28, .ireturn, 1), (29, .lload_n 2, 1), (30, .ldc2_w 645, 3), (33, .lcmp, 1), (34, .ifCond .ne 8, 3), (37, .bipush 37, 2), (39, .goto 4, 3), (42, .iconst (-1), 1), (43, .ireturn, 1)]
theorem dX12_shifts : x_il nX12_shifts 44 iX12_shifts = true := by decide +kernel
theorem aX12_shifts (k : Nat) {pc : Nat} {i : Jvm.ClassFile.Instr} {len : Nat} (hk : iX12_shifts[k]? = some (pc, i, len)) : x_at xMM 247 pc i len yX12_shifts 4 (some .int) := ⟨cX12_shifts, rfl, x_il_ok bX12_shifts dX12_shifts k hk⟩
set_option maxHeartbeats 4000000 in
set_option maxRecDepth 100000 in
theorem m_shifts {sk : xK} {base d n sl : Nat} {SH : Nat → Nat × Nat} {FI : Nat → Nat → Int32} {FL : Nat → Nat → Int64} {FR : Nat → Nat → Option Nat} (hS : h_S n SH) (hF : h_FR FR) (a1 : Int32) (a2 : Int64) : hw sk base d none 247 0 [(0, .ref (base + 121)), (1, .int (a1)), (2, .long (a2))] [] (n, sl, SH, FI, FL, FR) (h_I (fun r s => ∃ FI' FL', s = (n, sl, SH, FI', FL', FR) ∧ FI = FI' ∧ FL = FL' ∧ (-1 ≤ r.toInt ∧ r.toInt ≤ 38))) := by
  have rg_a1 := i_rng a1
  have rg_a2 := l_rng a2
  refine xw_iloadn (aX12_shifts 0 rfl) rfl ?_
  refine hw_ic (v := (5 : Int32)) (aX12_shifts 1 rfl) (by decide) ?_
  refine hw_iceq (tgt := 7) (aX12_shifts 2 rfl) (by decide) rfl (by decide : (5 : Int32).toInt = 5) (fun cd1 => ?_) (fun cd1 => ?_)
  · refine xw_lloadn (aX12_shifts 5 rfl) rfl ?_
    refine xw_ldc2 (aX12_shifts 6 rfl) wk_RX12_641 ?_
    refine hw_lcne (tgt := 18) (aX12_shifts 7 rfl) (aX12_shifts 8 rfl) (by decide) rfl (by decide : (261 : Int64).toInt = 261) (fun cd2 => ?_) (fun cd2 => ?_)
    · refine xw_lloadn (aX12_shifts 11 rfl) rfl ?_
      refine xw_ldc2 (aX12_shifts 12 rfl) wk_RX12_643 ?_
      refine hw_lcne (tgt := 29) (aX12_shifts 13 rfl) (aX12_shifts 14 rfl) (by decide) rfl (by decide : (262 : Int64).toInt = 262) (fun cd3 => ?_) (fun cd3 => ?_)
      · refine xw_lloadn (aX12_shifts 17 rfl) rfl ?_
        refine xw_ldc2 (aX12_shifts 18 rfl) wk_RX12_645 ?_
        refine hw_lcne (tgt := 42) (aX12_shifts 19 rfl) (aX12_shifts 20 rfl) (by decide) rfl (by decide : (263 : Int64).toInt = 263) (fun cd4 => ?_) (fun cd4 => ?_)
        · refine hw_ic (v := ((-1) : Int32)) (aX12_shifts 23 rfl) (by decide) ?_
          refine xw_iret (aX12_shifts 24 rfl) rfl rfl ?_
          have e5 : (((-1) : Int32)).toInt = (-1) := (by decide : ((-1) : Int32).toInt = (-1))
          exact ⟨((-1) : Int32), rfl, _, _, rfl, rfl, rfl, (by show -1 ≤ (((-1) : Int32)).toInt ∧ (((-1) : Int32)).toInt ≤ 38; omega)⟩
        · refine hw_bp (v := (37 : Int32)) (aX12_shifts 21 rfl) (by decide) ?_
          refine xw_goto (tgt := 43) (aX12_shifts 22 rfl) (by decide) ?_
          refine xw_iret (aX12_shifts 24 rfl) rfl rfl ?_
          have e6 : ((37 : Int32)).toInt = 37 := (by decide : (37 : Int32).toInt = 37)
          exact ⟨(37 : Int32), rfl, _, _, rfl, rfl, rfl, (by show -1 ≤ ((37 : Int32)).toInt ∧ ((37 : Int32)).toInt ≤ 38; omega)⟩
      · refine hw_bp (v := (38 : Int32)) (aX12_shifts 15 rfl) (by decide) ?_
        refine xw_iret (aX12_shifts 16 rfl) rfl rfl ?_
        have e7 : ((38 : Int32)).toInt = 38 := (by decide : (38 : Int32).toInt = 38)
        exact ⟨(38 : Int32), rfl, _, _, rfl, rfl, rfl, (by show -1 ≤ ((38 : Int32)).toInt ∧ ((38 : Int32)).toInt ≤ 38; omega)⟩
    · refine hw_bp (v := (36 : Int32)) (aX12_shifts 9 rfl) (by decide) ?_
      refine xw_iret (aX12_shifts 10 rfl) rfl rfl ?_
      have e8 : ((36 : Int32)).toInt = 36 := (by decide : (36 : Int32).toInt = 36)
      exact ⟨(36 : Int32), rfl, _, _, rfl, rfl, rfl, (by show -1 ≤ ((36 : Int32)).toInt ∧ ((36 : Int32)).toInt ≤ 38; omega)⟩
  · refine hw_ic (v := ((-1) : Int32)) (aX12_shifts 3 rfl) (by decide) ?_
    refine xw_iret (aX12_shifts 4 rfl) rfl rfl ?_
    have e9 : (((-1) : Int32)).toInt = (-1) := (by decide : ((-1) : Int32).toInt = (-1))
    exact ⟨((-1) : Int32), rfl, _, _, rfl, rfl, rfl, (by show -1 ≤ (((-1) : Int32)).toInt ∧ (((-1) : Int32)).toInt ≤ 38; omega)⟩
def nX12_multiplies : Nat := 0xac020400a71d1008009a94890214201000a0051bac1b1006009a943b0114200e00a0051bac1e1006009a94870214200e00a0081b
theorem bX12_multiplies : cX12_multiplies.data.toList.map UInt8.toNat = x_un nX12_multiplies 52 := by decide +kernel
def iX12_multiplies : List (Nat × Jvm.ClassFile.Instr × Nat) := [(0, .iload_n 1, 1), (1, .iconst 5, 1), (2, .if_icmp .ne 14, 3), (5, .lload_n 2, 1), (6, .ldc2_w 647, 3), (9, .lcmp, 1), (10, .ifCond .ne 6, 3), (13, .bipush 30, 2), (15, .ireturn, 1), (16, .iload_n 1, 1), (17, .iconst 2, 1), (18, .if_icmp .ne 14, 3), (21, .lload_n 2, 1), (22, .ldc2_w 315, 3), (25, .lcmp, 1), (26, .ifCond .ne 6, 3), (29, .bipush 27, 2), (31, .ireturn, 1), (32, .iload_n 1, 1), (33, .iconst 2, 1), (34, .if_icmp .ne 16, 3), (37, .lload_n 2, 1), (38, .ldc2_w 649, 3), (41, .lcmp, 1), (42, .ifCond .ne 8, 3), (45, .bipush 29, 2), (47, .goto 4, 3), (50, .iconst (-1), 1), (51, .ireturn, 1)]
theorem dX12_multiplies : x_il nX12_multiplies 52 iX12_multiplies = true := by decide +kernel
theorem aX12_multiplies (k : Nat) {pc : Nat} {i : Jvm.ClassFile.Instr} {len : Nat} (hk : iX12_multiplies[k]? = some (pc, i, len)) : x_at xMM 248 pc i len yX12_multiplies 4 (some .int) := ⟨cX12_multiplies, rfl, x_il_ok bX12_multiplies dX12_multiplies k hk⟩
set_option maxHeartbeats 4000000 in
set_option maxRecDepth 100000 in
theorem m_multiplies {sk : xK} {base d n sl : Nat} {SH : Nat → Nat × Nat} {FI : Nat → Nat → Int32} {FL : Nat → Nat → Int64} {FR : Nat → Nat → Option Nat} (hS : h_S n SH) (hF : h_FR FR) (a1 : Int32) (a2 : Int64) : hw sk base d none 248 0 [(0, .ref (base + 121)), (1, .int (a1)), (2, .long (a2))] [] (n, sl, SH, FI, FL, FR) (h_I (fun r s => ∃ FI' FL', s = (n, sl, SH, FI', FL', FR) ∧ FI = FI' ∧ FL = FL' ∧ (-1 ≤ r.toInt ∧ r.toInt ≤ 30) ∧ (r.toInt ≠ -1 → ((a1).toInt = 5 ∨ (a1).toInt = 2)))) := by
  have rg_a1 := i_rng a1
  have rg_a2 := l_rng a2
  refine xw_iloadn (aX12_multiplies 0 rfl) rfl ?_
  refine hw_ic (v := (5 : Int32)) (aX12_multiplies 1 rfl) (by decide) ?_
  refine hw_icne (tgt := 16) (aX12_multiplies 2 rfl) (by decide) rfl (by decide : (5 : Int32).toInt = 5) (fun cd1 => ?_) (fun cd1 => ?_)
  · refine xw_iloadn (aX12_multiplies 9 rfl) rfl ?_
    refine hw_ic (v := (2 : Int32)) (aX12_multiplies 10 rfl) (by decide) ?_
    refine hw_icne (tgt := 32) (aX12_multiplies 11 rfl) (by decide) rfl (by decide : (2 : Int32).toInt = 2) (fun cd2 => ?_) (fun cd2 => ?_)
    · refine xw_iloadn (aX12_multiplies 18 rfl) rfl ?_
      refine hw_ic (v := (2 : Int32)) (aX12_multiplies 19 rfl) (by decide) ?_
      refine hw_icne (tgt := 50) (aX12_multiplies 20 rfl) (by decide) rfl (by decide : (2 : Int32).toInt = 2) (fun cd3 => ?_) (fun cd3 => ?_)
      · refine hw_ic (v := ((-1) : Int32)) (aX12_multiplies 27 rfl) (by decide) ?_
        refine xw_iret (aX12_multiplies 28 rfl) rfl rfl ?_
        have e4 : (((-1) : Int32)).toInt = (-1) := (by decide : ((-1) : Int32).toInt = (-1))
        exact ⟨((-1) : Int32), rfl, _, _, rfl, rfl, rfl, (by show -1 ≤ (((-1) : Int32)).toInt ∧ (((-1) : Int32)).toInt ≤ 30; omega), (by show (((-1) : Int32)).toInt ≠ -1 → ((a1).toInt = 5 ∨ (a1).toInt = 2); omega)⟩
      · refine xw_lloadn (aX12_multiplies 21 rfl) rfl ?_
        refine xw_ldc2 (aX12_multiplies 22 rfl) wk_RX12_649 ?_
        refine hw_lcne (tgt := 50) (aX12_multiplies 23 rfl) (aX12_multiplies 24 rfl) (by decide) rfl (by decide : (9 : Int64).toInt = 9) (fun cd5 => ?_) (fun cd5 => ?_)
        · refine hw_ic (v := ((-1) : Int32)) (aX12_multiplies 27 rfl) (by decide) ?_
          refine xw_iret (aX12_multiplies 28 rfl) rfl rfl ?_
          have e6 : (((-1) : Int32)).toInt = (-1) := (by decide : ((-1) : Int32).toInt = (-1))
          exact ⟨((-1) : Int32), rfl, _, _, rfl, rfl, rfl, (by show -1 ≤ (((-1) : Int32)).toInt ∧ (((-1) : Int32)).toInt ≤ 30; omega), (by show (((-1) : Int32)).toInt ≠ -1 → ((a1).toInt = 5 ∨ (a1).toInt = 2); omega)⟩
        · refine hw_bp (v := (29 : Int32)) (aX12_multiplies 25 rfl) (by decide) ?_
          refine xw_goto (tgt := 51) (aX12_multiplies 26 rfl) (by decide) ?_
          refine xw_iret (aX12_multiplies 28 rfl) rfl rfl ?_
          have e7 : ((29 : Int32)).toInt = 29 := (by decide : (29 : Int32).toInt = 29)
          exact ⟨(29 : Int32), rfl, _, _, rfl, rfl, rfl, (by show -1 ≤ ((29 : Int32)).toInt ∧ ((29 : Int32)).toInt ≤ 30; omega), (by show ((29 : Int32)).toInt ≠ -1 → ((a1).toInt = 5 ∨ (a1).toInt = 2); omega)⟩
    · refine xw_lloadn (aX12_multiplies 12 rfl) rfl ?_
      refine xw_ldc2 (aX12_multiplies 13 rfl) wk_RX12_315 ?_
      refine hw_lcne (tgt := 32) (aX12_multiplies 14 rfl) (aX12_multiplies 15 rfl) (by decide) rfl (by decide : (8 : Int64).toInt = 8) (fun cd8 => ?_) (fun cd8 => ?_)
      · refine xw_iloadn (aX12_multiplies 18 rfl) rfl ?_
        refine hw_ic (v := (2 : Int32)) (aX12_multiplies 19 rfl) (by decide) ?_
        refine hw_icne (tgt := 50) (aX12_multiplies 20 rfl) (by decide) rfl (by decide : (2 : Int32).toInt = 2) (fun cd9 => ?_) (fun cd9 => ?_)
        · omega
        · refine xw_lloadn (aX12_multiplies 21 rfl) rfl ?_
          refine xw_ldc2 (aX12_multiplies 22 rfl) wk_RX12_649 ?_
          refine hw_lcne (tgt := 50) (aX12_multiplies 23 rfl) (aX12_multiplies 24 rfl) (by decide) rfl (by decide : (9 : Int64).toInt = 9) (fun cd10 => ?_) (fun cd10 => ?_)
          · refine hw_ic (v := ((-1) : Int32)) (aX12_multiplies 27 rfl) (by decide) ?_
            refine xw_iret (aX12_multiplies 28 rfl) rfl rfl ?_
            have e11 : (((-1) : Int32)).toInt = (-1) := (by decide : ((-1) : Int32).toInt = (-1))
            exact ⟨((-1) : Int32), rfl, _, _, rfl, rfl, rfl, (by show -1 ≤ (((-1) : Int32)).toInt ∧ (((-1) : Int32)).toInt ≤ 30; omega), (by show (((-1) : Int32)).toInt ≠ -1 → ((a1).toInt = 5 ∨ (a1).toInt = 2); omega)⟩
          · refine hw_bp (v := (29 : Int32)) (aX12_multiplies 25 rfl) (by decide) ?_
            refine xw_goto (tgt := 51) (aX12_multiplies 26 rfl) (by decide) ?_
            refine xw_iret (aX12_multiplies 28 rfl) rfl rfl ?_
            have e12 : ((29 : Int32)).toInt = 29 := (by decide : (29 : Int32).toInt = 29)
            exact ⟨(29 : Int32), rfl, _, _, rfl, rfl, rfl, (by show -1 ≤ ((29 : Int32)).toInt ∧ ((29 : Int32)).toInt ≤ 30; omega), (by show ((29 : Int32)).toInt ≠ -1 → ((a1).toInt = 5 ∨ (a1).toInt = 2); omega)⟩
      · refine hw_bp (v := (27 : Int32)) (aX12_multiplies 16 rfl) (by decide) ?_
        refine xw_iret (aX12_multiplies 17 rfl) rfl rfl ?_
        have e13 : ((27 : Int32)).toInt = 27 := (by decide : (27 : Int32).toInt = 27)
        exact ⟨(27 : Int32), rfl, _, _, rfl, rfl, rfl, (by show -1 ≤ ((27 : Int32)).toInt ∧ ((27 : Int32)).toInt ≤ 30; omega), (by show ((27 : Int32)).toInt ≠ -1 → ((a1).toInt = 5 ∨ (a1).toInt = 2); omega)⟩
  · refine xw_lloadn (aX12_multiplies 3 rfl) rfl ?_
    refine xw_ldc2 (aX12_multiplies 4 rfl) wk_RX12_647 ?_
    refine hw_lcne (tgt := 16) (aX12_multiplies 5 rfl) (aX12_multiplies 6 rfl) (by decide) rfl (by decide : (42 : Int64).toInt = 42) (fun cd14 => ?_) (fun cd14 => ?_)
    · refine xw_iloadn (aX12_multiplies 9 rfl) rfl ?_
      refine hw_ic (v := (2 : Int32)) (aX12_multiplies 10 rfl) (by decide) ?_
      refine hw_icne (tgt := 32) (aX12_multiplies 11 rfl) (by decide) rfl (by decide : (2 : Int32).toInt = 2) (fun cd15 => ?_) (fun cd15 => ?_)
      · refine xw_iloadn (aX12_multiplies 18 rfl) rfl ?_
        refine hw_ic (v := (2 : Int32)) (aX12_multiplies 19 rfl) (by decide) ?_
        refine hw_icne (tgt := 50) (aX12_multiplies 20 rfl) (by decide) rfl (by decide : (2 : Int32).toInt = 2) (fun cd16 => ?_) (fun cd16 => ?_)
        · refine hw_ic (v := ((-1) : Int32)) (aX12_multiplies 27 rfl) (by decide) ?_
          refine xw_iret (aX12_multiplies 28 rfl) rfl rfl ?_
          have e17 : (((-1) : Int32)).toInt = (-1) := (by decide : ((-1) : Int32).toInt = (-1))
          exact ⟨((-1) : Int32), rfl, _, _, rfl, rfl, rfl, (by show -1 ≤ (((-1) : Int32)).toInt ∧ (((-1) : Int32)).toInt ≤ 30; omega), (by show (((-1) : Int32)).toInt ≠ -1 → ((a1).toInt = 5 ∨ (a1).toInt = 2); omega)⟩
        · omega
      · omega
    · refine hw_bp (v := (30 : Int32)) (aX12_multiplies 7 rfl) (by decide) ?_
      refine xw_iret (aX12_multiplies 8 rfl) rfl rfl ?_
      have e18 : ((30 : Int32)).toInt = 30 := (by decide : (30 : Int32).toInt = 30)
      exact ⟨(30 : Int32), rfl, _, _, rfl, rfl, rfl, (by show -1 ≤ ((30 : Int32)).toInt ∧ ((30 : Int32)).toInt ≤ 30; omega), (by show ((30 : Int32)).toInt ≠ -1 → ((a1).toInt = 5 ∨ (a1).toInt = 2); omega)⟩
def nX12_does : Nat := 0xac030400a70407009a8d02b42a0e0099a802b42a
theorem bX12_does : cX12_does.data.toList.map UInt8.toNat = x_un nX12_does 20 := by decide +kernel
def iX12_does : List (Nat × Jvm.ClassFile.Instr × Nat) := [(0, .aload_n 0, 1), (1, .getfield 680, 3), (4, .ifCond .eq 14, 3), (7, .aload_n 0, 1), (8, .getfield 653, 3), (11, .ifCond .ne 7, 3), (14, .iconst 1, 1), (15, .goto 4, 3), (18, .iconst 0, 1), (19, .ireturn, 1)]
theorem dX12_does : x_il nX12_does 20 iX12_does = true := by decide +kernel
theorem aX12_does (k : Nat) {pc : Nat} {i : Jvm.ClassFile.Instr} {len : Nat} (hk : iX12_does[k]? = some (pc, i, len)) : x_at xMM 258 pc i len yX12_does 1 (some .boolean) := ⟨cX12_does, rfl, x_il_ok bX12_does dX12_does k hk⟩
set_option maxHeartbeats 4000000 in
set_option maxRecDepth 100000 in
theorem m_does {sk : xK} {base d n sl : Nat} {SH : Nat → Nat × Nat} {FI : Nat → Nat → Int32} {FL : Nat → Nat → Int64} {FR : Nat → Nat → Option Nat} (hS : h_S n SH) (hF : h_FR FR) : hw sk base d none 258 0 [(0, .ref (base + 121))] [] (n, sl, SH, FI, FL, FR) (h_I (fun r s => ∃ FI' FL', s = (n, sl, SH, FI', FL', FR) ∧ FI = FI' ∧ FL = FL' ∧ (0 ≤ r.toInt ∧ r.toInt ≤ 1))) := by
  refine hw_aloadn (aX12_does 0 rfl) rfl ?_
  refine hw_get (v := .int (FI 121 104)) (aX12_does 1 rfl) wf_RX12_680 (c121 hS) (s121 hS) (by decide) (congrArg Value.int (show FI 121 104 = FI 121 104 from rfl)) ?_
  have e1 := i_rng (FI 121 104)
  refine hw_ifeq (tgt := 18) (aX12_does 2 rfl) (by decide) rfl (fun cd2 => ?_) (fun cd2 => ?_)
  · refine hw_ic (v := (0 : Int32)) (aX12_does 8 rfl) (by decide) ?_
    refine xw_iret (aX12_does 9 rfl) rfl (by decide) ?_
    have e3 : ((0 : Int32)).toInt = 0 := (by decide : (0 : Int32).toInt = 0)
    exact ⟨(0 : Int32), rfl, _, _, rfl, rfl, rfl, (by show 0 ≤ ((0 : Int32)).toInt ∧ ((0 : Int32)).toInt ≤ 1; omega)⟩
  · refine hw_aloadn (aX12_does 3 rfl) rfl ?_
    refine hw_get (v := .int (FI 121 93)) (aX12_does 4 rfl) wf_RX12_653 (c121 hS) (s121 hS) (by decide) (congrArg Value.int (show FI 121 93 = FI 121 93 from rfl)) ?_
    have e4 := i_rng (FI 121 93)
    refine hw_ifne (tgt := 18) (aX12_does 5 rfl) (by decide) rfl (fun cd5 => ?_) (fun cd5 => ?_)
    · refine hw_ic (v := (0 : Int32)) (aX12_does 8 rfl) (by decide) ?_
      refine xw_iret (aX12_does 9 rfl) rfl (by decide) ?_
      have e6 : ((0 : Int32)).toInt = 0 := (by decide : (0 : Int32).toInt = 0)
      exact ⟨(0 : Int32), rfl, _, _, rfl, rfl, rfl, (by show 0 ≤ ((0 : Int32)).toInt ∧ ((0 : Int32)).toInt ≤ 1; omega)⟩
    · refine hw_ic (v := (1 : Int32)) (aX12_does 6 rfl) (by decide) ?_
      refine xw_goto (tgt := 19) (aX12_does 7 rfl) (by decide) ?_
      refine xw_iret (aX12_does 9 rfl) rfl (by decide) ?_
      have e7 : ((1 : Int32)).toInt = 1 := (by decide : (1 : Int32).toInt = 1)
      exact ⟨(1 : Int32), rfl, _, _, rfl, rfl, rfl, (by show 0 ≤ ((1 : Int32)).toInt ∧ ((1 : Int32)).toInt ≤ 1; omega)⟩
def nX12_value : Nat := 0xb1ab02b56004ab02b42a2a501fab02b42ab200b42a
theorem bX12_value : cX12_value.data.toList.map UInt8.toNat = x_un nX12_value 21 := by decide +kernel
def iX12_value : List (Nat × Jvm.ClassFile.Instr × Nat) := [(0, .aload_n 0, 1), (1, .getfield 178, 3), (4, .aload_n 0, 1), (5, .getfield 683, 3), (8, .lload_n 1, 1), (9, .lastore, 1), (10, .aload_n 0, 1), (11, .aload_n 0, 1), (12, .getfield 683, 3), (15, .iconst 1, 1), (16, .iadd, 1), (17, .putfield 683, 3), (20, .return_, 1)]
theorem dX12_value : x_il nX12_value 21 iX12_value = true := by decide +kernel
theorem aX12_value (k : Nat) {pc : Nat} {i : Jvm.ClassFile.Instr} {len : Nat} (hk : iX12_value[k]? = some (pc, i, len)) : x_at xMM 259 pc i len yX12_value 3 none := ⟨cX12_value, rfl, x_il_ok bX12_value dX12_value k hk⟩
set_option maxHeartbeats 4000000 in
set_option maxRecDepth 100000 in
theorem m_value {sk : xK} {base d n sl : Nat} {SH : Nat → Nat × Nat} {FI : Nat → Nat → Int32} {FL : Nat → Nat → Int64} {FR : Nat → Nat → Option Nat} (hS : h_S n SH) (hF : h_FR FR) (a1 : Int64) (g0 : 0 ≤ (FI 121 101).toInt ∧ (FI 121 101).toInt ≤ 511) : hw sk base d none 259 0 [(0, .ref (base + 121)), (1, .long (a1))] [] (n, sl, SH, FI, FL, FR) (h_V (fun s => ∃ FI' FL', s = (n, sl, SH, FI', FL', FR) ∧ h_fr FI FI' [101] [] ∧ h_fr FL FL' [] [173] ∧ (((FI' 121 101)).toInt = (FI 121 101).toInt + 1))) := by
  have rg_a1 := l_rng a1
  refine hw_aloadn (aX12_value 0 rfl) rfl ?_
  refine hw_get (v := .ref (base + 173)) (aX12_value 1 rfl) wf_RX12_178 (c121 hS) (s121 hS) (by decide) (congrArg (fun r => va_rf (h_rf base r)) (r121_100 hF)) ?_
  refine hw_aloadn (aX12_value 2 rfl) rfl ?_
  refine hw_get (v := .int (FI 121 101)) (aX12_value 3 rfl) wf_RX12_683 (c121 hS) (s121 hS) (by decide) (congrArg Value.int (show FI 121 101 = FI 121 101 from rfl)) ?_
  refine xw_lloadn (aX12_value 4 rfl) rfl ?_
  refine hw_last (aX12_value 5 rfl) (c173 hS) (s173 hS) (h_in rfl (by omega) (by omega)) ?_
  refine hw_aloadn (aX12_value 6 rfl) rfl ?_
  refine hw_aloadn (aX12_value 7 rfl) rfl ?_
  refine hw_get (v := .int (FI 121 101)) (aX12_value 8 rfl) wf_RX12_683 (c121 hS) (s121 hS) (by decide) (congrArg Value.int (show FI 121 101 = FI 121 101 from rfl)) ?_
  refine hw_ic (v := (1 : Int32)) (aX12_value 9 rfl) (by decide) ?_
  refine xw_iadd (aX12_value 10 rfl) ?_
  refine hw_tie (A := ((FI 121 101).toInt) + (1)) (i_add rfl (by decide : (1 : Int32).toInt = 1) (by omega) (by omega)) (fun x1 e2 => ?_)
  refine hw_puti (aX12_value 11 rfl) wf_RX12_683 (c121 hS) (s121 hS) (by decide) rfl rfl ?_
  refine xw_vret (aX12_value 12 rfl) rfl ?_
  have e3 : (x1).toInt = ((FI 121 101).toInt) + (1) := e2
  exact ⟨rfl, _, _, rfl, (fr_up fr_rf (by decide)), (fr_ua fr_rf (by decide) (by decide)), (by show ((x1)).toInt = (FI 121 101).toInt + 1; omega)⟩
def nX12_later : Nat := 0xb12c02b560042c02b42a2a4f1c2c02b42a9d00b42a4f1b2c02b42a9a00b42a
theorem bX12_later : cX12_later.data.toList.map UInt8.toNat = x_un nX12_later 31 := by decide +kernel
def iX12_later : List (Nat × Jvm.ClassFile.Instr × Nat) := [(0, .aload_n 0, 1), (1, .getfield 154, 3), (4, .aload_n 0, 1), (5, .getfield 556, 3), (8, .iload_n 1, 1), (9, .iastore, 1), (10, .aload_n 0, 1), (11, .getfield 157, 3), (14, .aload_n 0, 1), (15, .getfield 556, 3), (18, .iload_n 2, 1), (19, .iastore, 1), (20, .aload_n 0, 1), (21, .aload_n 0, 1), (22, .getfield 556, 3), (25, .iconst 1, 1), (26, .iadd, 1), (27, .putfield 556, 3), (30, .return_, 1)]
theorem dX12_later : x_il nX12_later 31 iX12_later = true := by decide +kernel
theorem aX12_later (k : Nat) {pc : Nat} {i : Jvm.ClassFile.Instr} {len : Nat} (hk : iX12_later[k]? = some (pc, i, len)) : x_at xMM 231 pc i len yX12_later 3 none := ⟨cX12_later, rfl, x_il_ok bX12_later dX12_later k hk⟩
set_option maxHeartbeats 4000000 in
set_option maxRecDepth 100000 in
theorem m_later {sk : xK} {base d n sl : Nat} {SH : Nat → Nat × Nat} {FI : Nat → Nat → Int32} {FL : Nat → Nat → Int64} {FR : Nat → Nat → Option Nat} (hS : h_S n SH) (hF : h_FR FR) (a1 : Int32) (a2 : Int32) (g0 : 0 ≤ (FI 121 90).toInt ∧ (FI 121 90).toInt ≤ 255) : hw sk base d none 231 0 [(0, .ref (base + 121)), (1, .int (a1)), (2, .int (a2))] [] (n, sl, SH, FI, FL, FR) (h_V (fun s => ∃ FI' FL', s = (n, sl, SH, FI', FL', FR) ∧ h_fr FI FI' [90] [165, 166] ∧ FL = FL' ∧ (((FI' 121 90)).toInt = (FI 121 90).toInt + 1))) := by
  have rg_a1 := i_rng a1
  have rg_a2 := i_rng a2
  refine hw_aloadn (aX12_later 0 rfl) rfl ?_
  refine hw_get (v := .ref (base + 165)) (aX12_later 1 rfl) wf_RX12_154 (c121 hS) (s121 hS) (by decide) (congrArg (fun r => va_rf (h_rf base r)) (r121_86 hF)) ?_
  refine hw_aloadn (aX12_later 2 rfl) rfl ?_
  refine hw_get (v := .int (FI 121 90)) (aX12_later 3 rfl) wf_RX12_556 (c121 hS) (s121 hS) (by decide) (congrArg Value.int (show FI 121 90 = FI 121 90 from rfl)) ?_
  refine xw_iloadn (aX12_later 4 rfl) rfl ?_
  refine hw_iast (aX12_later 5 rfl) (c165 hS) (s165 hS) (h_in rfl (by omega) (by omega)) ?_
  refine hw_aloadn (aX12_later 6 rfl) rfl ?_
  refine hw_get (v := .ref (base + 166)) (aX12_later 7 rfl) wf_RX12_157 (c121 hS) (s121 hS) (by decide) (congrArg (fun r => va_rf (h_rf base r)) (r121_87 hF)) ?_
  refine hw_aloadn (aX12_later 8 rfl) rfl ?_
  refine hw_get (v := .int (FI 121 90)) (aX12_later 9 rfl) wf_RX12_556 (c121 hS) (s121 hS) (by decide) (congrArg Value.int (show (h_up FI 165 (FI 121 90).toNatClampNeg (a1)) 121 90 = FI 121 90 from rfl)) ?_
  refine xw_iloadn (aX12_later 10 rfl) rfl ?_
  refine hw_iast (aX12_later 11 rfl) (c166 hS) (s166 hS) (h_in rfl (by omega) (by omega)) ?_
  refine hw_aloadn (aX12_later 12 rfl) rfl ?_
  refine hw_aloadn (aX12_later 13 rfl) rfl ?_
  refine hw_get (v := .int (FI 121 90)) (aX12_later 14 rfl) wf_RX12_556 (c121 hS) (s121 hS) (by decide) (congrArg Value.int (show (h_up (h_up FI 165 (FI 121 90).toNatClampNeg (a1)) 166 (FI 121 90).toNatClampNeg (a2)) 121 90 = FI 121 90 from rfl)) ?_
  refine hw_ic (v := (1 : Int32)) (aX12_later 15 rfl) (by decide) ?_
  refine xw_iadd (aX12_later 16 rfl) ?_
  refine hw_tie (A := ((FI 121 90).toInt) + (1)) (i_add rfl (by decide : (1 : Int32).toInt = 1) (by omega) (by omega)) (fun x1 e2 => ?_)
  refine hw_puti (aX12_later 17 rfl) wf_RX12_556 (c121 hS) (s121 hS) (by decide) rfl rfl ?_
  refine xw_vret (aX12_later 18 rfl) rfl ?_
  have e3 : (x1).toInt = ((FI 121 90).toInt) + (1) := e2
  exact ⟨rfl, _, _, rfl, (fr_up (fr_ua (fr_ua fr_rf (by decide) (by decide)) (by decide) (by decide)) (by decide)), rfl, (by show ((x1)).toInt = (FI 121 90).toInt + 1; omega)⟩
def nX12_tops : Nat := 0xac2e64042c02b42a9d00b42a0e00a7f51008009a2c02b42a
theorem bX12_tops : cX12_tops.data.toList.map UInt8.toNat = x_un nX12_tops 24 := by decide +kernel
def iX12_tops : List (Nat × Jvm.ClassFile.Instr × Nat) := [(0, .aload_n 0, 1), (1, .getfield 556, 3), (4, .ifCond .ne 8, 3), (7, .bipush (-11), 2), (9, .goto 14, 3), (12, .aload_n 0, 1), (13, .getfield 157, 3), (16, .aload_n 0, 1), (17, .getfield 556, 3), (20, .iconst 1, 1), (21, .isub, 1), (22, .iaload, 1), (23, .ireturn, 1)]
theorem dX12_tops : x_il nX12_tops 24 iX12_tops = true := by decide +kernel
theorem aX12_tops (k : Nat) {pc : Nat} {i : Jvm.ClassFile.Instr} {len : Nat} (hk : iX12_tops[k]? = some (pc, i, len)) : x_at xMM 232 pc i len yX12_tops 1 (some .int) := ⟨cX12_tops, rfl, x_il_ok bX12_tops dX12_tops k hk⟩
set_option maxHeartbeats 4000000 in
set_option maxRecDepth 100000 in
theorem m_tops {sk : xK} {base d n sl : Nat} {SH : Nat → Nat × Nat} {FI : Nat → Nat → Int32} {FL : Nat → Nat → Int64} {FR : Nat → Nat → Option Nat} (hS : h_S n SH) (hF : h_FR FR) (g0 : 0 ≤ (FI 121 90).toInt ∧ (FI 121 90).toInt ≤ 256) : hw sk base d none 232 0 [(0, .ref (base + 121))] [] (n, sl, SH, FI, FL, FR) (h_I (fun r s => ∃ FI' FL', s = (n, sl, SH, FI', FL', FR) ∧ FI = FI' ∧ FL = FL')) := by
  refine hw_aloadn (aX12_tops 0 rfl) rfl ?_
  refine hw_get (v := .int (FI 121 90)) (aX12_tops 1 rfl) wf_RX12_556 (c121 hS) (s121 hS) (by decide) (congrArg Value.int (show FI 121 90 = FI 121 90 from rfl)) ?_
  refine hw_ifne (tgt := 12) (aX12_tops 2 rfl) (by decide) rfl (fun cd1 => ?_) (fun cd1 => ?_)
  · refine hw_aloadn (aX12_tops 5 rfl) rfl ?_
    refine hw_get (v := .ref (base + 166)) (aX12_tops 6 rfl) wf_RX12_157 (c121 hS) (s121 hS) (by decide) (congrArg (fun r => va_rf (h_rf base r)) (r121_87 hF)) ?_
    refine hw_aloadn (aX12_tops 7 rfl) rfl ?_
    refine hw_get (v := .int (FI 121 90)) (aX12_tops 8 rfl) wf_RX12_556 (c121 hS) (s121 hS) (by decide) (congrArg Value.int (show FI 121 90 = FI 121 90 from rfl)) ?_
    refine hw_ic (v := (1 : Int32)) (aX12_tops 9 rfl) (by decide) ?_
    refine xw_isub (aX12_tops 10 rfl) ?_
    refine hw_tie (A := ((FI 121 90).toInt) - (1)) (i_sub rfl (by decide : (1 : Int32).toInt = 1) (by omega) (by omega)) (fun x2 e3 => ?_)
    refine hw_iald (v := FI 166 (x2).toNatClampNeg) (aX12_tops 11 rfl) (c166 hS) (s166 hS) (h_in e3 (by omega) (by omega)) rfl ?_
    refine hw_ti (fun x4 => ?_)
    have b5 := i_rng x4
    refine xw_iret (aX12_tops 12 rfl) rfl rfl ?_
    have e6 : (x4).toInt = (x4).toInt := rfl
    exact ⟨x4, rfl, _, _, rfl, rfl, rfl⟩
  · refine hw_bp (v := ((-11) : Int32)) (aX12_tops 3 rfl) (by decide) ?_
    refine xw_goto (tgt := 23) (aX12_tops 4 rfl) (by decide) ?_
    refine xw_iret (aX12_tops 12 rfl) rfl rfl ?_
    have e7 : (((-11) : Int32)).toInt = (-11) := (by decide : ((-11) : Int32).toInt = (-11))
    exact ⟨((-11) : Int32), rfl, _, _, rfl, rfl, rfl⟩
def nX12_emit : Nat := 0xb1ed01b56004ed01b42a2a4f7eff00111bed01b42a7800b42a1100a2a00f11ed01b42a
theorem bX12_emit : cX12_emit.data.toList.map UInt8.toNat = x_un nX12_emit 35 := by decide +kernel
def iX12_emit : List (Nat × Jvm.ClassFile.Instr × Nat) := [(0, .aload_n 0, 1), (1, .getfield 493, 3), (4, .sipush 4000, 3), (7, .if_icmp .ge 17, 3), (10, .aload_n 0, 1), (11, .getfield 120, 3), (14, .aload_n 0, 1), (15, .getfield 493, 3), (18, .iload_n 1, 1), (19, .sipush 255, 3), (22, .iand, 1), (23, .iastore, 1), (24, .aload_n 0, 1), (25, .aload_n 0, 1), (26, .getfield 493, 3), (29, .iconst 1, 1), (30, .iadd, 1), (31, .putfield 493, 3), (34, .return_, 1)]
theorem dX12_emit : x_il nX12_emit 35 iX12_emit = true := by decide +kernel
theorem aX12_emit (k : Nat) {pc : Nat} {i : Jvm.ClassFile.Instr} {len : Nat} (hk : iX12_emit[k]? = some (pc, i, len)) : x_at xMM 219 pc i len yX12_emit 2 none := ⟨cX12_emit, rfl, x_il_ok bX12_emit dX12_emit k hk⟩
set_option maxHeartbeats 4000000 in
set_option maxRecDepth 100000 in
theorem m_emit {sk : xK} {base d n sl : Nat} {SH : Nat → Nat × Nat} {FI : Nat → Nat → Int32} {FL : Nat → Nat → Int64} {FR : Nat → Nat → Option Nat} (hS : h_S n SH) (hF : h_FR FR) (a1 : Int32) (g0 : 0 ≤ (FI 121 73).toInt ∧ (FI 121 73).toInt ≤ 999999) : hw sk base d none 219 0 [(0, .ref (base + 121)), (1, .int (a1))] [] (n, sl, SH, FI, FL, FR) (h_V (fun s => ∃ FI' FL', s = (n, sl, SH, FI', FL', FR) ∧ h_fr FI FI' [73] [154] ∧ FL = FL' ∧ (((FI' 121 73)).toInt = (FI 121 73).toInt + 1))) := by
  have rg_a1 := i_rng a1
  refine hw_aloadn (aX12_emit 0 rfl) rfl ?_
  refine hw_get (v := .int (FI 121 73)) (aX12_emit 1 rfl) wf_RX12_493 (c121 hS) (s121 hS) (by decide) (congrArg Value.int (show FI 121 73 = FI 121 73 from rfl)) ?_
  refine hw_sp (v := (4000 : Int32)) (aX12_emit 2 rfl) (by decide) ?_
  refine hw_icge (tgt := 24) (aX12_emit 3 rfl) (by decide) rfl (by decide : (4000 : Int32).toInt = 4000) (fun cd1 => ?_) (fun cd1 => ?_)
  · refine hw_aloadn (aX12_emit 12 rfl) rfl ?_
    refine hw_aloadn (aX12_emit 13 rfl) rfl ?_
    refine hw_get (v := .int (FI 121 73)) (aX12_emit 14 rfl) wf_RX12_493 (c121 hS) (s121 hS) (by decide) (congrArg Value.int (show FI 121 73 = FI 121 73 from rfl)) ?_
    refine hw_ic (v := (1 : Int32)) (aX12_emit 15 rfl) (by decide) ?_
    refine xw_iadd (aX12_emit 16 rfl) ?_
    refine hw_tie (A := ((FI 121 73).toInt) + (1)) (i_add rfl (by decide : (1 : Int32).toInt = 1) (by omega) (by omega)) (fun x2 e3 => ?_)
    refine hw_puti (aX12_emit 17 rfl) wf_RX12_493 (c121 hS) (s121 hS) (by decide) rfl rfl ?_
    refine xw_vret (aX12_emit 18 rfl) rfl ?_
    have e4 : (x2).toInt = ((FI 121 73).toInt) + (1) := e3
    exact ⟨rfl, _, _, rfl, (fr_up fr_rf (by decide)), rfl, (by show ((x2)).toInt = (FI 121 73).toInt + 1; omega)⟩
  · refine hw_aloadn (aX12_emit 4 rfl) rfl ?_
    refine hw_get (v := .ref (base + 154)) (aX12_emit 5 rfl) wf_RX12_120 (c121 hS) (s121 hS) (by decide) (congrArg (fun r => va_rf (h_rf base r)) (r121_72 hF)) ?_
    refine hw_aloadn (aX12_emit 6 rfl) rfl ?_
    refine hw_get (v := .int (FI 121 73)) (aX12_emit 7 rfl) wf_RX12_493 (c121 hS) (s121 hS) (by decide) (congrArg Value.int (show FI 121 73 = FI 121 73 from rfl)) ?_
    refine xw_iloadn (aX12_emit 8 rfl) rfl ?_
    refine hw_sp (v := (255 : Int32)) (aX12_emit 9 rfl) (by decide) ?_
    refine xw_iand (aX12_emit 10 rfl) ?_
    refine hw_tib (lo := 0) (hi := 255) (i_and (x := a1) (m := (255 : Int32)) (M := 255) (by decide) (by decide)) (fun x5 b6 => ?_)
    refine hw_iast (aX12_emit 11 rfl) (c154 hS) (s154 hS) (h_in rfl (by omega) (by omega)) ?_
    refine hw_aloadn (aX12_emit 12 rfl) rfl ?_
    refine hw_aloadn (aX12_emit 13 rfl) rfl ?_
    refine hw_get (v := .int (FI 121 73)) (aX12_emit 14 rfl) wf_RX12_493 (c121 hS) (s121 hS) (by decide) (congrArg Value.int (show (h_up FI 154 (FI 121 73).toNatClampNeg (x5)) 121 73 = FI 121 73 from rfl)) ?_
    refine hw_ic (v := (1 : Int32)) (aX12_emit 15 rfl) (by decide) ?_
    refine xw_iadd (aX12_emit 16 rfl) ?_
    refine hw_tie (A := ((FI 121 73).toInt) + (1)) (i_add rfl (by decide : (1 : Int32).toInt = 1) (by omega) (by omega)) (fun x7 e8 => ?_)
    refine hw_puti (aX12_emit 17 rfl) wf_RX12_493 (c121 hS) (s121 hS) (by decide) rfl rfl ?_
    refine xw_vret (aX12_emit 18 rfl) rfl ?_
    have e9 : (x7).toInt = ((FI 121 73).toInt) + (1) := e8
    exact ⟨rfl, _, _, rfl, (fr_up (fr_ua fr_rf (by decide) (by decide)) (by decide)), rfl, (by show ((x7)).toInt = (FI 121 73).toInt + 1; omega)⟩
def nX12_emits : Nat := 0xb1ebffa7010484f001b6887b68041508101f2a1500a21d0415043603
theorem bX12_emits : cX12_emits.data.toList.map UInt8.toNat = x_un nX12_emits 28 := by decide +kernel
def iX12_emits : List (Nat × Jvm.ClassFile.Instr × Nat) := [(0, .iconst 0, 1), (1, .istore 4, 2), (3, .iload 4, 2), (5, .iload_n 3, 1), (6, .if_icmp .ge 21, 3), (9, .aload_n 0, 1), (10, .lload_n 1, 1), (11, .bipush 8, 2), (13, .iload 4, 2), (15, .imul, 1), (16, .lshr, 1), (17, .l2i, 1), (18, .invokevirtual 496, 3), (21, .iinc 4 1, 3), (24, .goto (-21), 3), (27, .return_, 1)]
theorem dX12_emits : x_il nX12_emits 28 iX12_emits = true := by decide +kernel
theorem aX12_emits (k : Nat) {pc : Nat} {i : Jvm.ClassFile.Instr} {len : Nat} (hk : iX12_emits[k]? = some (pc, i, len)) : x_at xMM 220 pc i len yX12_emits 5 none := ⟨cX12_emits, rfl, x_il_ok bX12_emits dX12_emits k hk⟩
set_option maxHeartbeats 4000000 in
set_option maxRecDepth 100000 in
theorem m_emits {sk : xK} {base d n sl : Nat} {SH : Nat → Nat × Nat} {FI : Nat → Nat → Int32} {FL : Nat → Nat → Int64} {FR : Nat → Nat → Option Nat} (hS : h_S n SH) (hF : h_FR FR) (a1 : Int64) (a2 : Int32) (g0 : 0 ≤ (a2).toInt ∧ (a2).toInt ≤ 8) (g1 : 0 ≤ (FI 121 73).toInt ∧ (FI 121 73).toInt ≤ 900000) : hw sk base (d + 1) none 220 0 [(0, .ref (base + 121)), (1, .long (a1)), (3, .int (a2))] [] (n, sl, SH, FI, FL, FR) (h_V (fun s => ∃ FI' FL', s = (n, sl, SH, FI', FL', FR) ∧ h_fr FI FI' [73] [154] ∧ FL = FL' ∧ (((FI' 121 73)).toInt = (FI 121 73).toInt + (a2).toInt))) := by
  have rg_a1 := l_rng a1
  have rg_a2 := i_rng a2
  refine hw_ic (v := (0 : Int32)) (aX12_emits 0 rfl) (by decide) ?_
  refine xw_istore (L2 := [(4, .int ((0 : Int32))), (0, .ref (base + 121)), (1, .long (a1)), (3, .int (a2))]) (aX12_emits 1 rfl) (by decide) rfl ?_
  have lp1 : ∀ (m : Nat) (i : Int32) (FIv2 : Nat → Nat → Int32), (h_fr FI FIv2 [73] [154]) → (0 ≤ (i).toInt) → ((i).toInt ≤ (a2).toInt) → (((FIv2 121 73)).toInt = (FI 121 73).toInt + (i).toInt) → (a2).toInt - (i).toInt < m → hw sk base (d + 1) none 220 3 [(4, .int (i)), (0, .ref (base + 121)), (1, .long (a1)), (3, .int (a2))] [] (n, sl, SH, FIv2, FL, FR) (h_V (fun s => ∃ FI' FL', s = (n, sl, SH, FI', FL', FR) ∧ h_fr FI FI' [73] [154] ∧ FL = FL' ∧ (((FI' 121 73)).toInt = (FI 121 73).toInt + (a2).toInt))) := by
    intro m
    induction m with
    | zero => intro i FIv2 frI iv3 iv4 iv5 hm; omega
    | succ m ih =>
      intro i FIv2 frI iv3 iv4 iv5 hm
      have rg_i := i_rng i
      refine xw_iload (aX12_emits 2 rfl) rfl ?_
      refine xw_iloadn (aX12_emits 3 rfl) rfl ?_
      refine hw_icge (tgt := 27) (aX12_emits 4 rfl) (by decide) rfl rfl (fun cd6 => ?_) (fun cd6 => ?_)
      · refine xw_vret (aX12_emits 15 rfl) rfl ?_
        exact ⟨rfl, _, _, rfl, frI, rfl, (by show ((FIv2 121 73)).toInt = (FI 121 73).toInt + (a2).toInt; omega)⟩
      · refine hw_aloadn (aX12_emits 5 rfl) rfl ?_
        refine xw_lloadn (aX12_emits 6 rfl) rfl ?_
        refine hw_bp (v := (8 : Int32)) (aX12_emits 7 rfl) (by decide) ?_
        refine xw_iload (aX12_emits 8 rfl) rfl ?_
        refine xw_imul (aX12_emits 9 rfl) ?_
        refine hw_tie (A := (8) * ((i).toInt)) (i_mul (by decide : (8 : Int32).toInt = 8) rfl (by omega) (by omega)) (fun x7 e8 => ?_)
        refine xw_lshr (aX12_emits 10 rfl) ?_
        refine hw_tl (fun x9 => ?_)
        have b10 := l_rng x9
        refine xw_l2i (aX12_emits 11 rfl) ?_
        refine hw_ti (fun x11 => ?_)
        have b12 := i_rng x11
        refine hw_callV (Bs := [.int (x11)]) (rest := []) (aX12_emits 12 rfl) wc_RX12_496 (by decide) rfl wi_yX12_emit wv_yX12_emit (c121 hS) (s121 hS) rfl rfl rfl (Nat.le_of_ble_eq_true rfl) (Nat.le_of_ble_eq_true rfl) (m_emit (d := d) hS hF (x11) (by show 0 ≤ ((FIv2) 121 73).toInt ∧ ((FIv2) 121 73).toInt ≤ 999999; rw [show (FIv2) 121 73 = FIv2 121 73 from rfl]; show 0 ≤ (FIv2 121 73).toInt ∧ (FIv2 121 73).toInt ≤ 999999; omega)) (fun v13 sv14 p15 => ?_)
        obtain ⟨rfl, FI17, FL18, rfl, f16I, rfl, t20⟩ := p15
        rw [show (FIv2) 121 73 = FIv2 121 73 from rfl] at t20
        show hw sk base _ none _ _ _ [] _ _
        obtain ⟨x21, q23⟩ : ∃ y : Int32, i + Int32.ofInt (1) = y := ⟨_, rfl⟩
        have e22 : (x21).toInt = (i).toInt + (1) := by rw [← q23]; exact i_add rfl (by decide) (by omega) (by omega)
        refine xw_iinc (L2 := [(4, .int (x21)), (0, .ref (base + 121)), (1, .long (a1)), (3, .int (a2))]) (aX12_emits 13 rfl) rfl (by decide) (by rw [q23]; rfl) ?_
        refine xw_goto (tgt := 3) (aX12_emits 14 rfl) (by decide) ?_
        exact hw_L (ih (x21) (FI17) (fr_tr frI f16I (by decide) (by decide)) (by have := (e22 : (x21).toInt = (i).toInt + (1)); show 0 ≤ ((x21)).toInt; omega) (by have := (e22 : (x21).toInt = (i).toInt + (1)); show ((x21)).toInt ≤ (a2).toInt; omega) (by have := (e22 : (x21).toInt = (i).toInt + (1)); show ((FI17 121 73)).toInt = (FI 121 73).toInt + ((x21)).toInt; omega) (by have := (e22 : (x21).toInt = (i).toInt + (1)); show (a2).toInt - ((x21)).toInt < _; omega)) ⟨rfl, rfl, rfl, rfl, trivial⟩
  exact hw_L (lp1 (((a2).toInt - (((0 : Int32))).toInt).toNat + 1) ((0 : Int32)) (FI) fr_rf (by have := ((by decide : (0 : Int32).toInt = 0) : ((0 : Int32)).toInt = 0); show 0 ≤ (((0 : Int32))).toInt; omega) (by have := ((by decide : (0 : Int32).toInt = 0) : ((0 : Int32)).toInt = 0); show (((0 : Int32))).toInt ≤ (a2).toInt; omega) (by have := ((by decide : (0 : Int32).toInt = 0) : ((0 : Int32)).toInt = 0); show ((FI 121 73)).toInt = (FI 121 73).toInt + (((0 : Int32))).toInt; omega) (by have := ((by decide : (0 : Int32).toInt = 0) : ((0 : Int32)).toInt = 0); show (a2).toInt - (((0 : Int32))).toInt < _; omega)) ⟨rfl, rfl, rfl, rfl, trivial⟩
def nX12_emitted : Nat := 0xb1f001b6640001111b2af001b69400112a1300a7f001b61b2a0b00a20001111b
theorem bX12_emitted : cX12_emitted.data.toList.map UInt8.toNat = x_un nX12_emitted 32 := by decide +kernel
def iX12_emitted : List (Nat × Jvm.ClassFile.Instr × Nat) := [(0, .iload_n 1, 1), (1, .sipush 256, 3), (4, .if_icmp .ge 11, 3), (7, .aload_n 0, 1), (8, .iload_n 1, 1), (9, .invokevirtual 496, 3), (12, .goto 19, 3), (15, .aload_n 0, 1), (16, .sipush 148, 3), (19, .invokevirtual 496, 3), (22, .aload_n 0, 1), (23, .iload_n 1, 1), (24, .sipush 256, 3), (27, .isub, 1), (28, .invokevirtual 496, 3), (31, .return_, 1)]
theorem dX12_emitted : x_il nX12_emitted 32 iX12_emitted = true := by decide +kernel
theorem aX12_emitted (k : Nat) {pc : Nat} {i : Jvm.ClassFile.Instr} {len : Nat} (hk : iX12_emitted[k]? = some (pc, i, len)) : x_at xMM 233 pc i len yX12_emitted 2 none := ⟨cX12_emitted, rfl, x_il_ok bX12_emitted dX12_emitted k hk⟩
set_option maxHeartbeats 4000000 in
set_option maxRecDepth 100000 in
theorem m_emitted {sk : xK} {base d n sl : Nat} {SH : Nat → Nat × Nat} {FI : Nat → Nat → Int32} {FL : Nat → Nat → Int64} {FR : Nat → Nat → Option Nat} (hS : h_S n SH) (hF : h_FR FR) (a1 : Int32) (g0 : 0 ≤ (FI 121 73).toInt ∧ (FI 121 73).toInt ≤ 900000) : hw sk base (d + 1) none 233 0 [(0, .ref (base + 121)), (1, .int (a1))] [] (n, sl, SH, FI, FL, FR) (h_V (fun s => ∃ FI' FL', s = (n, sl, SH, FI', FL', FR) ∧ h_fr FI FI' [73] [154] ∧ FL = FL' ∧ (((FI' 121 73)).toInt ≤ (FI 121 73).toInt + 2) ∧ ((FI 121 73).toInt ≤ ((FI' 121 73)).toInt))) := by
  have rg_a1 := i_rng a1
  refine xw_iloadn (aX12_emitted 0 rfl) rfl ?_
  refine hw_sp (v := (256 : Int32)) (aX12_emitted 1 rfl) (by decide) ?_
  refine hw_icge (tgt := 15) (aX12_emitted 2 rfl) (by decide) rfl (by decide : (256 : Int32).toInt = 256) (fun cd1 => ?_) (fun cd1 => ?_)
  · refine hw_aloadn (aX12_emitted 7 rfl) rfl ?_
    refine hw_sp (v := (148 : Int32)) (aX12_emitted 8 rfl) (by decide) ?_
    refine hw_callV (Bs := [.int ((148 : Int32))]) (rest := []) (aX12_emitted 9 rfl) wc_RX12_496 (by decide) rfl wi_yX12_emit wv_yX12_emit (c121 hS) (s121 hS) rfl rfl rfl (Nat.le_of_ble_eq_true rfl) (Nat.le_of_ble_eq_true rfl) (m_emit (d := d) hS hF ((148 : Int32)) (by show 0 ≤ ((FI) 121 73).toInt ∧ ((FI) 121 73).toInt ≤ 999999; rw [show (FI) 121 73 = FI 121 73 from rfl]; show 0 ≤ (FI 121 73).toInt ∧ (FI 121 73).toInt ≤ 999999; omega)) (fun v2 sv3 p4 => ?_)
    obtain ⟨rfl, FI6, FL7, rfl, f5I, rfl, t9⟩ := p4
    rw [show (FI) 121 73 = FI 121 73 from rfl] at t9
    show hw sk base _ none _ _ _ [] _ _
    refine hw_aloadn (aX12_emitted 10 rfl) rfl ?_
    refine xw_iloadn (aX12_emitted 11 rfl) rfl ?_
    refine hw_sp (v := (256 : Int32)) (aX12_emitted 12 rfl) (by decide) ?_
    refine xw_isub (aX12_emitted 13 rfl) ?_
    refine hw_tie (A := ((a1).toInt) - (256)) (i_sub rfl (by decide : (256 : Int32).toInt = 256) (by omega) (by omega)) (fun x10 e11 => ?_)
    refine hw_callV (Bs := [.int (x10)]) (rest := []) (aX12_emitted 14 rfl) wc_RX12_496 (by decide) rfl wi_yX12_emit wv_yX12_emit (c121 hS) (s121 hS) rfl rfl rfl (Nat.le_of_ble_eq_true rfl) (Nat.le_of_ble_eq_true rfl) (m_emit (d := d) hS hF (x10) (by show 0 ≤ ((FI6) 121 73).toInt ∧ ((FI6) 121 73).toInt ≤ 999999; rw [show (FI6) 121 73 = FI6 121 73 from rfl]; show 0 ≤ (FI6 121 73).toInt ∧ (FI6 121 73).toInt ≤ 999999; omega)) (fun v12 sv13 p14 => ?_)
    obtain ⟨rfl, FI16, FL17, rfl, f15I, rfl, t19⟩ := p14
    rw [show (FI6) 121 73 = FI6 121 73 from rfl] at t19
    show hw sk base _ none _ _ _ [] _ _
    refine xw_vret (aX12_emitted 15 rfl) rfl ?_
    exact ⟨rfl, _, _, rfl, (fr_tr (fr_tr fr_rf f5I (by decide) (by decide)) f15I (by decide) (by decide)), rfl, (by show ((FI16 121 73)).toInt ≤ (FI 121 73).toInt + 2; omega), (by show (FI 121 73).toInt ≤ ((FI16 121 73)).toInt; omega)⟩
  · refine hw_aloadn (aX12_emitted 3 rfl) rfl ?_
    refine xw_iloadn (aX12_emitted 4 rfl) rfl ?_
    refine hw_callV (Bs := [.int (a1)]) (rest := []) (aX12_emitted 5 rfl) wc_RX12_496 (by decide) rfl wi_yX12_emit wv_yX12_emit (c121 hS) (s121 hS) rfl rfl rfl (Nat.le_of_ble_eq_true rfl) (Nat.le_of_ble_eq_true rfl) (m_emit (d := d) hS hF (a1) (by show 0 ≤ ((FI) 121 73).toInt ∧ ((FI) 121 73).toInt ≤ 999999; rw [show (FI) 121 73 = FI 121 73 from rfl]; show 0 ≤ (FI 121 73).toInt ∧ (FI 121 73).toInt ≤ 999999; omega)) (fun v20 sv21 p22 => ?_)
    obtain ⟨rfl, FI24, FL25, rfl, f23I, rfl, t27⟩ := p22
    rw [show (FI) 121 73 = FI 121 73 from rfl] at t27
    show hw sk base _ none _ _ _ [] _ _
    refine xw_goto (tgt := 31) (aX12_emitted 6 rfl) (by decide) ?_
    refine xw_vret (aX12_emitted 15 rfl) rfl ?_
    exact ⟨rfl, _, _, rfl, (fr_tr fr_rf f23I (by decide) (by decide)), rfl, (by show ((FI24 121 73)).toInt ≤ (FI 121 73).toInt + 2; omega), (by show (FI 121 73).toInt ≤ ((FI24 121 73)).toInt; omega)⟩
def nX12_hold : Nat := 0xb14f05151b4200b42a50211b3f00b42a4f1c1b3c00b42a
theorem bX12_hold : cX12_hold.data.toList.map UInt8.toNat = x_un nX12_hold 23 := by decide +kernel
def iX12_hold : List (Nat × Jvm.ClassFile.Instr × Nat) := [(0, .aload_n 0, 1), (1, .getfield 60, 3), (4, .iload_n 1, 1), (5, .iload_n 2, 1), (6, .iastore, 1), (7, .aload_n 0, 1), (8, .getfield 63, 3), (11, .iload_n 1, 1), (12, .lload_n 3, 1), (13, .lastore, 1), (14, .aload_n 0, 1), (15, .getfield 66, 3), (18, .iload_n 1, 1), (19, .iload 5, 2), (21, .iastore, 1), (22, .return_, 1)]
theorem dX12_hold : x_il nX12_hold 23 iX12_hold = true := by decide +kernel
theorem aX12_hold (k : Nat) {pc : Nat} {i : Jvm.ClassFile.Instr} {len : Nat} (hk : iX12_hold[k]? = some (pc, i, len)) : x_at xMM 185 pc i len yX12_hold 6 none := ⟨cX12_hold, rfl, x_il_ok bX12_hold dX12_hold k hk⟩
set_option maxHeartbeats 4000000 in
set_option maxRecDepth 100000 in
theorem m_hold {sk : xK} {base d n sl : Nat} {SH : Nat → Nat × Nat} {FI : Nat → Nat → Int32} {FL : Nat → Nat → Int64} {FR : Nat → Nat → Option Nat} (hS : h_S n SH) (hF : h_FR FR) (a1 : Int32) (a2 : Int32) (a3 : Int64) (a4 : Int32) (g0 : (a2).toInt = 2 → 0 ≤ (a3).toInt ∧ (a3).toInt ≤ 31) (g1 : (a2).toInt = 4 → 0 ≤ (a3).toInt ∧ 0 ≤ (a4).toInt ∧ (a4).toInt ≤ 600 ∧ (a3).toInt + (a4).toInt ≤ 19200) (g2 : 0 ≤ (a1).toInt ∧ (a1).toInt ≤ 1) (rel_hold : rl_h 2 (FI 136) (FL 137) (FI 138)) : hw sk base d none 185 0 [(0, .ref (base + 121)), (1, .int (a1)), (2, .int (a2)), (3, .long (a3)), (5, .int (a4))] [] (n, sl, SH, FI, FL, FR) (h_V (fun s => ∃ FI' FL', s = (n, sl, SH, FI', FL', FR) ∧ h_fr FI FI' [] [136, 138] ∧ h_fr FL FL' [] [137] ∧ (rl_h 2 (FI' 136) (FL' 137) (FI' 138)))) := by
  have rg_a1 := i_rng a1
  have rg_a2 := i_rng a2
  have rg_a3 := l_rng a3
  have rg_a4 := i_rng a4
  refine hw_aloadn (aX12_hold 0 rfl) rfl ?_
  refine hw_get (v := .ref (base + 136)) (aX12_hold 1 rfl) wf_RX12_60 (c121 hS) (s121 hS) (by decide) (congrArg (fun r => va_rf (h_rf base r)) (r121_23 hF)) ?_
  refine xw_iloadn (aX12_hold 2 rfl) rfl ?_
  refine xw_iloadn (aX12_hold 3 rfl) rfl ?_
  refine hw_iast (aX12_hold 4 rfl) (c136 hS) (s136 hS) (h_in rfl (by omega) (by omega)) ?_
  refine hw_aloadn (aX12_hold 5 rfl) rfl ?_
  refine hw_get (v := .ref (base + 137)) (aX12_hold 6 rfl) wf_RX12_63 (c121 hS) (s121 hS) (by decide) (congrArg (fun r => va_rf (h_rf base r)) (r121_24 hF)) ?_
  refine xw_iloadn (aX12_hold 7 rfl) rfl ?_
  refine xw_lloadn (aX12_hold 8 rfl) rfl ?_
  refine hw_last (aX12_hold 9 rfl) (c137 hS) (s137 hS) (h_in rfl (by omega) (by omega)) ?_
  refine hw_aloadn (aX12_hold 10 rfl) rfl ?_
  refine hw_get (v := .ref (base + 138)) (aX12_hold 11 rfl) wf_RX12_66 (c121 hS) (s121 hS) (by decide) (congrArg (fun r => va_rf (h_rf base r)) (r121_25 hF)) ?_
  refine xw_iloadn (aX12_hold 12 rfl) rfl ?_
  refine xw_iload (aX12_hold 13 rfl) rfl ?_
  refine hw_iast (aX12_hold 14 rfl) (c138 hS) (s138 hS) (h_in rfl (by omega) (by omega)) ?_
  have rl1 : rl_h 2 ((h_up (h_up FI 136 (a1).toNatClampNeg (a2)) 138 (a1).toNatClampNeg (a4)) 136) ((h_up FL 137 (a1).toNatClampNeg (a3)) 137) ((h_up (h_up FI 136 (a1).toNatClampNeg (a2)) 138 (a1).toNatClampNeg (a4)) 138) := rl_h_up rel_hold g0 g1
  refine xw_vret (aX12_hold 15 rfl) rfl ?_
  exact ⟨rfl, _, _, rfl, (fr_ua (fr_ua fr_rf (by decide) (by decide)) (by decide) (by decide)), (fr_ua fr_rf (by decide) (by decide)), (show rl_h 2 ((h_up (h_up FI 136 (a1).toNatClampNeg (a2)) 138 (a1).toNatClampNeg (a4)) 136) ((h_up FL 137 (a1).toNatClampNeg (a3)) 137) ((h_up (h_up FI 136 (a1).toNatClampNeg (a2)) 138 (a1).toNatClampNeg (a4)) 138) from rl1)⟩
def nX12_clears : Nat := 0xb14f031b4e00b42a4f031b3c00b42a4f031b3900b42a4f031b2700b42a4f031b2400b42a
theorem bX12_clears : cX12_clears.data.toList.map UInt8.toNat = x_un nX12_clears 36 := by decide +kernel
def iX12_clears : List (Nat × Jvm.ClassFile.Instr × Nat) := [(0, .aload_n 0, 1), (1, .getfield 36, 3), (4, .iload_n 1, 1), (5, .iconst 0, 1), (6, .iastore, 1), (7, .aload_n 0, 1), (8, .getfield 39, 3), (11, .iload_n 1, 1), (12, .iconst 0, 1), (13, .iastore, 1), (14, .aload_n 0, 1), (15, .getfield 57, 3), (18, .iload_n 1, 1), (19, .iconst 0, 1), (20, .iastore, 1), (21, .aload_n 0, 1), (22, .getfield 60, 3), (25, .iload_n 1, 1), (26, .iconst 0, 1), (27, .iastore, 1), (28, .aload_n 0, 1), (29, .getfield 78, 3), (32, .iload_n 1, 1), (33, .iconst 0, 1), (34, .iastore, 1), (35, .return_, 1)]
theorem dX12_clears : x_il nX12_clears 36 iX12_clears = true := by decide +kernel
theorem aX12_clears (k : Nat) {pc : Nat} {i : Jvm.ClassFile.Instr} {len : Nat} (hk : iX12_clears[k]? = some (pc, i, len)) : x_at xMM 179 pc i len yX12_clears 2 none := ⟨cX12_clears, rfl, x_il_ok bX12_clears dX12_clears k hk⟩
set_option maxHeartbeats 4000000 in
set_option maxRecDepth 100000 in
theorem m_clears {sk : xK} {base d n sl : Nat} {SH : Nat → Nat × Nat} {FI : Nat → Nat → Int32} {FL : Nat → Nat → Int64} {FR : Nat → Nat → Option Nat} (hS : h_S n SH) (hF : h_FR FR) (a1 : Int32) (g0 : 0 ≤ (a1).toInt ∧ (a1).toInt ≤ 1) (ai128 : h_ai 128 2 0 128 FI) (ai129 : h_ai 129 2 0 16 FI) (ai135 : h_ai 135 2 0 4096 FI) (ai142 : h_ai 142 2 0 8 FI) (rel_hold : rl_h 2 (FI 136) (FL 137) (FI 138)) : hw sk base d none 179 0 [(0, .ref (base + 121)), (1, .int (a1))] [] (n, sl, SH, FI, FL, FR) (h_V (fun s => ∃ FI' FL', s = (n, sl, SH, FI', FL', FR) ∧ h_fr FI FI' [] [128, 129, 135, 136, 142] ∧ FL = FL' ∧ (FI' 142 (a1).toNatClampNeg = 0 ∧ FI' 128 (a1).toNatClampNeg = 0) ∧ (∀ j, j ≠ (a1).toNatClampNeg → FI' 142 j = FI 142 j) ∧ h_ai 128 2 0 128 FI' ∧ h_ai 129 2 0 16 FI' ∧ h_ai 135 2 0 4096 FI' ∧ h_ai 142 2 0 8 FI' ∧ (rl_h 2 (FI' 136) (FL' 137) (FI' 138)))) := by
  have rg_a1 := i_rng a1
  refine hw_aloadn (aX12_clears 0 rfl) rfl ?_
  refine hw_get (v := .ref (base + 128)) (aX12_clears 1 rfl) wf_RX12_36 (c121 hS) (s121 hS) (by decide) (congrArg (fun r => va_rf (h_rf base r)) (r121_15 hF)) ?_
  refine xw_iloadn (aX12_clears 2 rfl) rfl ?_
  refine hw_ic (v := (0 : Int32)) (aX12_clears 3 rfl) (by decide) ?_
  refine hw_iast (aX12_clears 4 rfl) (c128 hS) (s128 hS) (h_in rfl (by omega) (by omega)) ?_
  have e1 : h_ai 128 2 0 128 (h_up FI 128 (a1).toNatClampNeg ((0 : Int32))) := ai_up ai128 (by decide : (0 : Int32).toInt = 0) (by omega) (by omega)
  refine hw_aloadn (aX12_clears 5 rfl) rfl ?_
  refine hw_get (v := .ref (base + 129)) (aX12_clears 6 rfl) wf_RX12_39 (c121 hS) (s121 hS) (by decide) (congrArg (fun r => va_rf (h_rf base r)) (r121_16 hF)) ?_
  refine xw_iloadn (aX12_clears 7 rfl) rfl ?_
  refine hw_ic (v := (0 : Int32)) (aX12_clears 8 rfl) (by decide) ?_
  refine hw_iast (aX12_clears 9 rfl) (c129 hS) (s129 hS) (h_in rfl (by omega) (by omega)) ?_
  have e2 : h_ai 129 2 0 16 (h_up (h_up FI 128 (a1).toNatClampNeg ((0 : Int32))) 129 (a1).toNatClampNeg ((0 : Int32))) := ai_up (show h_ai 129 2 0 16 (h_up FI 128 (a1).toNatClampNeg ((0 : Int32))) from (ai_nc ai129 (by decide))) (by decide : (0 : Int32).toInt = 0) (by omega) (by omega)
  refine hw_aloadn (aX12_clears 10 rfl) rfl ?_
  refine hw_get (v := .ref (base + 135)) (aX12_clears 11 rfl) wf_RX12_57 (c121 hS) (s121 hS) (by decide) (congrArg (fun r => va_rf (h_rf base r)) (r121_22 hF)) ?_
  refine xw_iloadn (aX12_clears 12 rfl) rfl ?_
  refine hw_ic (v := (0 : Int32)) (aX12_clears 13 rfl) (by decide) ?_
  refine hw_iast (aX12_clears 14 rfl) (c135 hS) (s135 hS) (h_in rfl (by omega) (by omega)) ?_
  have e3 : h_ai 135 2 0 4096 (h_up (h_up (h_up FI 128 (a1).toNatClampNeg ((0 : Int32))) 129 (a1).toNatClampNeg ((0 : Int32))) 135 (a1).toNatClampNeg ((0 : Int32))) := ai_up (show h_ai 135 2 0 4096 (h_up (h_up FI 128 (a1).toNatClampNeg ((0 : Int32))) 129 (a1).toNatClampNeg ((0 : Int32))) from (ai_nc (ai_nc ai135 (by decide)) (by decide))) (by decide : (0 : Int32).toInt = 0) (by omega) (by omega)
  refine hw_aloadn (aX12_clears 15 rfl) rfl ?_
  refine hw_get (v := .ref (base + 136)) (aX12_clears 16 rfl) wf_RX12_60 (c121 hS) (s121 hS) (by decide) (congrArg (fun r => va_rf (h_rf base r)) (r121_23 hF)) ?_
  refine xw_iloadn (aX12_clears 17 rfl) rfl ?_
  refine hw_ic (v := (0 : Int32)) (aX12_clears 18 rfl) (by decide) ?_
  refine hw_iast (aX12_clears 19 rfl) (c136 hS) (s136 hS) (h_in rfl (by omega) (by omega)) ?_
  refine hw_aloadn (aX12_clears 20 rfl) rfl ?_
  refine hw_get (v := .ref (base + 142)) (aX12_clears 21 rfl) wf_RX12_78 (c121 hS) (s121 hS) (by decide) (congrArg (fun r => va_rf (h_rf base r)) (r121_45 hF)) ?_
  refine xw_iloadn (aX12_clears 22 rfl) rfl ?_
  refine hw_ic (v := (0 : Int32)) (aX12_clears 23 rfl) (by decide) ?_
  refine hw_iast (aX12_clears 24 rfl) (c142 hS) (s142 hS) (h_in rfl (by omega) (by omega)) ?_
  have e4 : h_ai 142 2 0 8 (h_up (h_up (h_up (h_up (h_up FI 128 (a1).toNatClampNeg ((0 : Int32))) 129 (a1).toNatClampNeg ((0 : Int32))) 135 (a1).toNatClampNeg ((0 : Int32))) 136 (a1).toNatClampNeg ((0 : Int32))) 142 (a1).toNatClampNeg ((0 : Int32))) := ai_up (show h_ai 142 2 0 8 (h_up (h_up (h_up (h_up FI 128 (a1).toNatClampNeg ((0 : Int32))) 129 (a1).toNatClampNeg ((0 : Int32))) 135 (a1).toNatClampNeg ((0 : Int32))) 136 (a1).toNatClampNeg ((0 : Int32))) from (ai_nc (ai_nc (ai_nc (ai_nc ai142 (by decide)) (by decide)) (by decide)) (by decide))) (by decide : (0 : Int32).toInt = 0) (by omega) (by omega)
  have rl5 : rl_h 2 ((h_up (h_up (h_up (h_up (h_up FI 128 (a1).toNatClampNeg ((0 : Int32))) 129 (a1).toNatClampNeg ((0 : Int32))) 135 (a1).toNatClampNeg ((0 : Int32))) 136 (a1).toNatClampNeg ((0 : Int32))) 142 (a1).toNatClampNeg ((0 : Int32))) 136) ((FL) 137) ((h_up (h_up (h_up (h_up (h_up FI 128 (a1).toNatClampNeg ((0 : Int32))) 129 (a1).toNatClampNeg ((0 : Int32))) 135 (a1).toNatClampNeg ((0 : Int32))) 136 (a1).toNatClampNeg ((0 : Int32))) 142 (a1).toNatClampNeg ((0 : Int32))) 138) := rl_h_k rel_hold (by decide) (by decide)
  refine xw_vret (aX12_clears 25 rfl) rfl ?_
  exact ⟨rfl, _, _, rfl, (fr_ua (fr_ua (fr_ua (fr_ua (fr_ua fr_rf (by decide) (by decide)) (by decide) (by decide)) (by decide) (by decide)) (by decide) (by decide)) (by decide) (by decide)), rfl, (by exact ⟨h_up_eq, by show va_up (FI 128) (a1).toNatClampNeg 0 (a1).toNatClampNeg = 0; simp [va_up]⟩), (by exact fun j hj => h_up_ne hj), (show h_ai 128 2 0 128 (h_up (h_up (h_up (h_up (h_up FI 128 (a1).toNatClampNeg ((0 : Int32))) 129 (a1).toNatClampNeg ((0 : Int32))) 135 (a1).toNatClampNeg ((0 : Int32))) 136 (a1).toNatClampNeg ((0 : Int32))) 142 (a1).toNatClampNeg ((0 : Int32))) from (ai_nc (ai_nc (ai_nc (ai_nc e1 (by decide)) (by decide)) (by decide)) (by decide))), (show h_ai 129 2 0 16 (h_up (h_up (h_up (h_up (h_up FI 128 (a1).toNatClampNeg ((0 : Int32))) 129 (a1).toNatClampNeg ((0 : Int32))) 135 (a1).toNatClampNeg ((0 : Int32))) 136 (a1).toNatClampNeg ((0 : Int32))) 142 (a1).toNatClampNeg ((0 : Int32))) from (ai_nc (ai_nc (ai_nc e2 (by decide)) (by decide)) (by decide))), (show h_ai 135 2 0 4096 (h_up (h_up (h_up (h_up (h_up FI 128 (a1).toNatClampNeg ((0 : Int32))) 129 (a1).toNatClampNeg ((0 : Int32))) 135 (a1).toNatClampNeg ((0 : Int32))) 136 (a1).toNatClampNeg ((0 : Int32))) 142 (a1).toNatClampNeg ((0 : Int32))) from (ai_nc (ai_nc e3 (by decide)) (by decide))), e4, (show rl_h 2 ((h_up (h_up (h_up (h_up (h_up FI 128 (a1).toNatClampNeg ((0 : Int32))) 129 (a1).toNatClampNeg ((0 : Int32))) 135 (a1).toNatClampNeg ((0 : Int32))) 136 (a1).toNatClampNeg ((0 : Int32))) 142 (a1).toNatClampNeg ((0 : Int32))) 136) ((FL) 137) ((h_up (h_up (h_up (h_up (h_up FI 128 (a1).toNatClampNeg ((0 : Int32))) 129 (a1).toNatClampNeg ((0 : Int32))) 135 (a1).toNatClampNeg ((0 : Int32))) 136 (a1).toNatClampNeg ((0 : Int32))) 142 (a1).toNatClampNeg ((0 : Int32))) 138) from rl5)⟩
def nX12_pushes : Nat := 0xac030400a7040700a09c00111b0a009f9700111b11009f9200111bac040500a38f00111b0c00a170101b1000a44f101b0900a130101bac040500a015101b09009f14101b0f00a412101b0900a108101b1b009f061b
theorem bX12_pushes : cX12_pushes.data.toList.map UInt8.toNat = x_un nX12_pushes 85 := by decide +kernel
def iX12_pushes : List (Nat × Jvm.ClassFile.Instr × Nat) := [(0, .iload_n 1, 1), (1, .iconst 3, 1), (2, .if_icmp .eq 27, 3), (5, .iload_n 1, 1), (6, .bipush 8, 2), (8, .if_icmp .lt 9, 3), (11, .iload_n 1, 1), (12, .bipush 18, 2), (14, .if_icmp .le 15, 3), (17, .iload_n 1, 1), (18, .bipush 20, 2), (20, .if_icmp .eq 9, 3), (23, .iload_n 1, 1), (24, .bipush 21, 2), (26, .if_icmp .ne 5, 3), (29, .iconst 1, 1), (30, .ireturn, 1), (31, .iload_n 1, 1), (32, .bipush 48, 2), (34, .if_icmp .lt 9, 3), (37, .iload_n 1, 1), (38, .bipush 79, 2), (40, .if_icmp .le 16, 3), (43, .iload_n 1, 1), (44, .bipush 112, 2), (46, .if_icmp .lt 12, 3), (49, .iload_n 1, 1), (50, .sipush 143, 3), (53, .if_icmp .gt 5, 3), (56, .iconst 1, 1), (57, .ireturn, 1), (58, .iload_n 1, 1), (59, .sipush 146, 3), (62, .if_icmp .eq 17, 3), (65, .iload_n 1, 1), (66, .sipush 151, 3), (69, .if_icmp .eq 10, 3), (72, .iload_n 1, 1), (73, .sipush 156, 3), (76, .if_icmp .ne 7, 3), (79, .iconst 1, 1), (80, .goto 4, 3), (83, .iconst 0, 1), (84, .ireturn, 1)]
theorem dX12_pushes : x_il nX12_pushes 85 iX12_pushes = true := by decide +kernel
theorem aX12_pushes (k : Nat) {pc : Nat} {i : Jvm.ClassFile.Instr} {len : Nat} (hk : iX12_pushes[k]? = some (pc, i, len)) : x_at xMM 174 pc i len yX12_pushes 2 (some .boolean) := ⟨cX12_pushes, rfl, x_il_ok bX12_pushes dX12_pushes k hk⟩
set_option maxHeartbeats 4000000 in
set_option maxRecDepth 100000 in
theorem m_pushes {sk : xK} {base d n sl : Nat} {SH : Nat → Nat × Nat} {FI : Nat → Nat → Int32} {FL : Nat → Nat → Int64} {FR : Nat → Nat → Option Nat} (hS : h_S n SH) (hF : h_FR FR) (a1 : Int32) : hw sk base d none 174 0 [(0, .ref (base + 121)), (1, .int (a1))] [] (n, sl, SH, FI, FL, FR) (h_I (fun r s => ∃ FI' FL', s = (n, sl, SH, FI', FL', FR) ∧ FI = FI' ∧ FL = FL' ∧ (hid (r.toInt = 1 → ((a1).toInt = 3 ∨ (8 ≤ (a1).toInt ∧ (a1).toInt ≤ 18) ∨ (a1).toInt = 20 ∨ (a1).toInt = 21 ∨ (48 ≤ (a1).toInt ∧ (a1).toInt ≤ 79) ∨ (112 ≤ (a1).toInt ∧ (a1).toInt ≤ 143) ∨ (a1).toInt = 146 ∨ (a1).toInt = 151 ∨ (a1).toInt = 156))) ∧ (hid (((a1).toInt = 3 ∨ (8 ≤ (a1).toInt ∧ (a1).toInt ≤ 18) ∨ (a1).toInt = 20 ∨ (a1).toInt = 21 ∨ (48 ≤ (a1).toInt ∧ (a1).toInt ≤ 79) ∨ (112 ≤ (a1).toInt ∧ (a1).toInt ≤ 143) ∨ (a1).toInt = 146 ∨ (a1).toInt = 151 ∨ (a1).toInt = 156) → r.toInt = 1)) ∧ (0 ≤ r.toInt ∧ r.toInt ≤ 1))) := by
  have rg_a1 := i_rng a1
  refine xw_iloadn (aX12_pushes 0 rfl) rfl ?_
  refine hw_ic (v := (3 : Int32)) (aX12_pushes 1 rfl) (by decide) ?_
  refine hw_iceq (tgt := 29) (aX12_pushes 2 rfl) (by decide) rfl (by decide : (3 : Int32).toInt = 3) (fun cd1 => ?_) (fun cd1 => ?_)
  · refine hw_ic (v := (1 : Int32)) (aX12_pushes 15 rfl) (by decide) ?_
    refine xw_iret (aX12_pushes 16 rfl) rfl (by decide) ?_
    have e2 : ((1 : Int32)).toInt = 1 := (by decide : (1 : Int32).toInt = 1)
    exact ⟨(1 : Int32), rfl, _, _, rfl, rfl, rfl, (by show (((1 : Int32)).toInt = 1 → ((a1).toInt = 3 ∨ (8 ≤ (a1).toInt ∧ (a1).toInt ≤ 18) ∨ (a1).toInt = 20 ∨ (a1).toInt = 21 ∨ (48 ≤ (a1).toInt ∧ (a1).toInt ≤ 79) ∨ (112 ≤ (a1).toInt ∧ (a1).toInt ≤ 143) ∨ (a1).toInt = 146 ∨ (a1).toInt = 151 ∨ (a1).toInt = 156)); omega), (by show (((a1).toInt = 3 ∨ (8 ≤ (a1).toInt ∧ (a1).toInt ≤ 18) ∨ (a1).toInt = 20 ∨ (a1).toInt = 21 ∨ (48 ≤ (a1).toInt ∧ (a1).toInt ≤ 79) ∨ (112 ≤ (a1).toInt ∧ (a1).toInt ≤ 143) ∨ (a1).toInt = 146 ∨ (a1).toInt = 151 ∨ (a1).toInt = 156) → ((1 : Int32)).toInt = 1); omega), (by show 0 ≤ ((1 : Int32)).toInt ∧ ((1 : Int32)).toInt ≤ 1; omega)⟩
  · refine xw_iloadn (aX12_pushes 3 rfl) rfl ?_
    refine hw_bp (v := (8 : Int32)) (aX12_pushes 4 rfl) (by decide) ?_
    refine hw_iclt (tgt := 17) (aX12_pushes 5 rfl) (by decide) rfl (by decide : (8 : Int32).toInt = 8) (fun cd3 => ?_) (fun cd3 => ?_)
    · refine xw_iloadn (aX12_pushes 9 rfl) rfl ?_
      refine hw_bp (v := (20 : Int32)) (aX12_pushes 10 rfl) (by decide) ?_
      refine hw_iceq (tgt := 29) (aX12_pushes 11 rfl) (by decide) rfl (by decide : (20 : Int32).toInt = 20) (fun cd4 => ?_) (fun cd4 => ?_)
      · omega
      · refine xw_iloadn (aX12_pushes 12 rfl) rfl ?_
        refine hw_bp (v := (21 : Int32)) (aX12_pushes 13 rfl) (by decide) ?_
        refine hw_icne (tgt := 31) (aX12_pushes 14 rfl) (by decide) rfl (by decide : (21 : Int32).toInt = 21) (fun cd5 => ?_) (fun cd5 => ?_)
        · refine xw_iloadn (aX12_pushes 17 rfl) rfl ?_
          refine hw_bp (v := (48 : Int32)) (aX12_pushes 18 rfl) (by decide) ?_
          refine hw_iclt (tgt := 43) (aX12_pushes 19 rfl) (by decide) rfl (by decide : (48 : Int32).toInt = 48) (fun cd6 => ?_) (fun cd6 => ?_)
          · refine xw_iloadn (aX12_pushes 23 rfl) rfl ?_
            refine hw_bp (v := (112 : Int32)) (aX12_pushes 24 rfl) (by decide) ?_
            refine hw_iclt (tgt := 58) (aX12_pushes 25 rfl) (by decide) rfl (by decide : (112 : Int32).toInt = 112) (fun cd7 => ?_) (fun cd7 => ?_)
            · refine xw_iloadn (aX12_pushes 31 rfl) rfl ?_
              refine hw_sp (v := (146 : Int32)) (aX12_pushes 32 rfl) (by decide) ?_
              refine hw_iceq (tgt := 79) (aX12_pushes 33 rfl) (by decide) rfl (by decide : (146 : Int32).toInt = 146) (fun cd8 => ?_) (fun cd8 => ?_)
              · omega
              · refine xw_iloadn (aX12_pushes 34 rfl) rfl ?_
                refine hw_sp (v := (151 : Int32)) (aX12_pushes 35 rfl) (by decide) ?_
                refine hw_iceq (tgt := 79) (aX12_pushes 36 rfl) (by decide) rfl (by decide : (151 : Int32).toInt = 151) (fun cd9 => ?_) (fun cd9 => ?_)
                · omega
                · refine xw_iloadn (aX12_pushes 37 rfl) rfl ?_
                  refine hw_sp (v := (156 : Int32)) (aX12_pushes 38 rfl) (by decide) ?_
                  refine hw_icne (tgt := 83) (aX12_pushes 39 rfl) (by decide) rfl (by decide : (156 : Int32).toInt = 156) (fun cd10 => ?_) (fun cd10 => ?_)
                  · refine hw_ic (v := (0 : Int32)) (aX12_pushes 42 rfl) (by decide) ?_
                    refine xw_iret (aX12_pushes 43 rfl) rfl (by decide) ?_
                    have e11 : ((0 : Int32)).toInt = 0 := (by decide : (0 : Int32).toInt = 0)
                    exact ⟨(0 : Int32), rfl, _, _, rfl, rfl, rfl, (by show (((0 : Int32)).toInt = 1 → ((a1).toInt = 3 ∨ (8 ≤ (a1).toInt ∧ (a1).toInt ≤ 18) ∨ (a1).toInt = 20 ∨ (a1).toInt = 21 ∨ (48 ≤ (a1).toInt ∧ (a1).toInt ≤ 79) ∨ (112 ≤ (a1).toInt ∧ (a1).toInt ≤ 143) ∨ (a1).toInt = 146 ∨ (a1).toInt = 151 ∨ (a1).toInt = 156)); omega), (by show (((a1).toInt = 3 ∨ (8 ≤ (a1).toInt ∧ (a1).toInt ≤ 18) ∨ (a1).toInt = 20 ∨ (a1).toInt = 21 ∨ (48 ≤ (a1).toInt ∧ (a1).toInt ≤ 79) ∨ (112 ≤ (a1).toInt ∧ (a1).toInt ≤ 143) ∨ (a1).toInt = 146 ∨ (a1).toInt = 151 ∨ (a1).toInt = 156) → ((0 : Int32)).toInt = 1); omega), (by show 0 ≤ ((0 : Int32)).toInt ∧ ((0 : Int32)).toInt ≤ 1; omega)⟩
                  · omega
            · omega
          · omega
        · omega
    · refine xw_iloadn (aX12_pushes 6 rfl) rfl ?_
      refine hw_bp (v := (18 : Int32)) (aX12_pushes 7 rfl) (by decide) ?_
      refine hw_icle (tgt := 29) (aX12_pushes 8 rfl) (by decide) rfl (by decide : (18 : Int32).toInt = 18) (fun cd12 => ?_) (fun cd12 => ?_)
      · refine hw_ic (v := (1 : Int32)) (aX12_pushes 15 rfl) (by decide) ?_
        refine xw_iret (aX12_pushes 16 rfl) rfl (by decide) ?_
        have e13 : ((1 : Int32)).toInt = 1 := (by decide : (1 : Int32).toInt = 1)
        exact ⟨(1 : Int32), rfl, _, _, rfl, rfl, rfl, (by show (((1 : Int32)).toInt = 1 → ((a1).toInt = 3 ∨ (8 ≤ (a1).toInt ∧ (a1).toInt ≤ 18) ∨ (a1).toInt = 20 ∨ (a1).toInt = 21 ∨ (48 ≤ (a1).toInt ∧ (a1).toInt ≤ 79) ∨ (112 ≤ (a1).toInt ∧ (a1).toInt ≤ 143) ∨ (a1).toInt = 146 ∨ (a1).toInt = 151 ∨ (a1).toInt = 156)); omega), (by show (((a1).toInt = 3 ∨ (8 ≤ (a1).toInt ∧ (a1).toInt ≤ 18) ∨ (a1).toInt = 20 ∨ (a1).toInt = 21 ∨ (48 ≤ (a1).toInt ∧ (a1).toInt ≤ 79) ∨ (112 ≤ (a1).toInt ∧ (a1).toInt ≤ 143) ∨ (a1).toInt = 146 ∨ (a1).toInt = 151 ∨ (a1).toInt = 156) → ((1 : Int32)).toInt = 1); omega), (by show 0 ≤ ((1 : Int32)).toInt ∧ ((1 : Int32)).toInt ≤ 1; omega)⟩
      · refine xw_iloadn (aX12_pushes 9 rfl) rfl ?_
        refine hw_bp (v := (20 : Int32)) (aX12_pushes 10 rfl) (by decide) ?_
        refine hw_iceq (tgt := 29) (aX12_pushes 11 rfl) (by decide) rfl (by decide : (20 : Int32).toInt = 20) (fun cd14 => ?_) (fun cd14 => ?_)
        · refine hw_ic (v := (1 : Int32)) (aX12_pushes 15 rfl) (by decide) ?_
          refine xw_iret (aX12_pushes 16 rfl) rfl (by decide) ?_
          have e15 : ((1 : Int32)).toInt = 1 := (by decide : (1 : Int32).toInt = 1)
          exact ⟨(1 : Int32), rfl, _, _, rfl, rfl, rfl, (by show (((1 : Int32)).toInt = 1 → ((a1).toInt = 3 ∨ (8 ≤ (a1).toInt ∧ (a1).toInt ≤ 18) ∨ (a1).toInt = 20 ∨ (a1).toInt = 21 ∨ (48 ≤ (a1).toInt ∧ (a1).toInt ≤ 79) ∨ (112 ≤ (a1).toInt ∧ (a1).toInt ≤ 143) ∨ (a1).toInt = 146 ∨ (a1).toInt = 151 ∨ (a1).toInt = 156)); omega), (by show (((a1).toInt = 3 ∨ (8 ≤ (a1).toInt ∧ (a1).toInt ≤ 18) ∨ (a1).toInt = 20 ∨ (a1).toInt = 21 ∨ (48 ≤ (a1).toInt ∧ (a1).toInt ≤ 79) ∨ (112 ≤ (a1).toInt ∧ (a1).toInt ≤ 143) ∨ (a1).toInt = 146 ∨ (a1).toInt = 151 ∨ (a1).toInt = 156) → ((1 : Int32)).toInt = 1); omega), (by show 0 ≤ ((1 : Int32)).toInt ∧ ((1 : Int32)).toInt ≤ 1; omega)⟩
        · refine xw_iloadn (aX12_pushes 12 rfl) rfl ?_
          refine hw_bp (v := (21 : Int32)) (aX12_pushes 13 rfl) (by decide) ?_
          refine hw_icne (tgt := 31) (aX12_pushes 14 rfl) (by decide) rfl (by decide : (21 : Int32).toInt = 21) (fun cd16 => ?_) (fun cd16 => ?_)
          · refine xw_iloadn (aX12_pushes 17 rfl) rfl ?_
            refine hw_bp (v := (48 : Int32)) (aX12_pushes 18 rfl) (by decide) ?_
            refine hw_iclt (tgt := 43) (aX12_pushes 19 rfl) (by decide) rfl (by decide : (48 : Int32).toInt = 48) (fun cd17 => ?_) (fun cd17 => ?_)
            · refine xw_iloadn (aX12_pushes 23 rfl) rfl ?_
              refine hw_bp (v := (112 : Int32)) (aX12_pushes 24 rfl) (by decide) ?_
              refine hw_iclt (tgt := 58) (aX12_pushes 25 rfl) (by decide) rfl (by decide : (112 : Int32).toInt = 112) (fun cd18 => ?_) (fun cd18 => ?_)
              · refine xw_iloadn (aX12_pushes 31 rfl) rfl ?_
                refine hw_sp (v := (146 : Int32)) (aX12_pushes 32 rfl) (by decide) ?_
                refine hw_iceq (tgt := 79) (aX12_pushes 33 rfl) (by decide) rfl (by decide : (146 : Int32).toInt = 146) (fun cd19 => ?_) (fun cd19 => ?_)
                · omega
                · refine xw_iloadn (aX12_pushes 34 rfl) rfl ?_
                  refine hw_sp (v := (151 : Int32)) (aX12_pushes 35 rfl) (by decide) ?_
                  refine hw_iceq (tgt := 79) (aX12_pushes 36 rfl) (by decide) rfl (by decide : (151 : Int32).toInt = 151) (fun cd20 => ?_) (fun cd20 => ?_)
                  · omega
                  · refine xw_iloadn (aX12_pushes 37 rfl) rfl ?_
                    refine hw_sp (v := (156 : Int32)) (aX12_pushes 38 rfl) (by decide) ?_
                    refine hw_icne (tgt := 83) (aX12_pushes 39 rfl) (by decide) rfl (by decide : (156 : Int32).toInt = 156) (fun cd21 => ?_) (fun cd21 => ?_)
                    · refine hw_ic (v := (0 : Int32)) (aX12_pushes 42 rfl) (by decide) ?_
                      refine xw_iret (aX12_pushes 43 rfl) rfl (by decide) ?_
                      have e22 : ((0 : Int32)).toInt = 0 := (by decide : (0 : Int32).toInt = 0)
                      exact ⟨(0 : Int32), rfl, _, _, rfl, rfl, rfl, (by show (((0 : Int32)).toInt = 1 → ((a1).toInt = 3 ∨ (8 ≤ (a1).toInt ∧ (a1).toInt ≤ 18) ∨ (a1).toInt = 20 ∨ (a1).toInt = 21 ∨ (48 ≤ (a1).toInt ∧ (a1).toInt ≤ 79) ∨ (112 ≤ (a1).toInt ∧ (a1).toInt ≤ 143) ∨ (a1).toInt = 146 ∨ (a1).toInt = 151 ∨ (a1).toInt = 156)); omega), (by show (((a1).toInt = 3 ∨ (8 ≤ (a1).toInt ∧ (a1).toInt ≤ 18) ∨ (a1).toInt = 20 ∨ (a1).toInt = 21 ∨ (48 ≤ (a1).toInt ∧ (a1).toInt ≤ 79) ∨ (112 ≤ (a1).toInt ∧ (a1).toInt ≤ 143) ∨ (a1).toInt = 146 ∨ (a1).toInt = 151 ∨ (a1).toInt = 156) → ((0 : Int32)).toInt = 1); omega), (by show 0 ≤ ((0 : Int32)).toInt ∧ ((0 : Int32)).toInt ≤ 1; omega)⟩
                    · omega
              · omega
            · refine xw_iloadn (aX12_pushes 20 rfl) rfl ?_
              refine hw_bp (v := (79 : Int32)) (aX12_pushes 21 rfl) (by decide) ?_
              refine hw_icle (tgt := 56) (aX12_pushes 22 rfl) (by decide) rfl (by decide : (79 : Int32).toInt = 79) (fun cd23 => ?_) (fun cd23 => ?_)
              · refine hw_ic (v := (1 : Int32)) (aX12_pushes 29 rfl) (by decide) ?_
                refine xw_iret (aX12_pushes 30 rfl) rfl (by decide) ?_
                have e24 : ((1 : Int32)).toInt = 1 := (by decide : (1 : Int32).toInt = 1)
                exact ⟨(1 : Int32), rfl, _, _, rfl, rfl, rfl, (by show (((1 : Int32)).toInt = 1 → ((a1).toInt = 3 ∨ (8 ≤ (a1).toInt ∧ (a1).toInt ≤ 18) ∨ (a1).toInt = 20 ∨ (a1).toInt = 21 ∨ (48 ≤ (a1).toInt ∧ (a1).toInt ≤ 79) ∨ (112 ≤ (a1).toInt ∧ (a1).toInt ≤ 143) ∨ (a1).toInt = 146 ∨ (a1).toInt = 151 ∨ (a1).toInt = 156)); omega), (by show (((a1).toInt = 3 ∨ (8 ≤ (a1).toInt ∧ (a1).toInt ≤ 18) ∨ (a1).toInt = 20 ∨ (a1).toInt = 21 ∨ (48 ≤ (a1).toInt ∧ (a1).toInt ≤ 79) ∨ (112 ≤ (a1).toInt ∧ (a1).toInt ≤ 143) ∨ (a1).toInt = 146 ∨ (a1).toInt = 151 ∨ (a1).toInt = 156) → ((1 : Int32)).toInt = 1); omega), (by show 0 ≤ ((1 : Int32)).toInt ∧ ((1 : Int32)).toInt ≤ 1; omega)⟩
              · refine xw_iloadn (aX12_pushes 23 rfl) rfl ?_
                refine hw_bp (v := (112 : Int32)) (aX12_pushes 24 rfl) (by decide) ?_
                refine hw_iclt (tgt := 58) (aX12_pushes 25 rfl) (by decide) rfl (by decide : (112 : Int32).toInt = 112) (fun cd25 => ?_) (fun cd25 => ?_)
                · refine xw_iloadn (aX12_pushes 31 rfl) rfl ?_
                  refine hw_sp (v := (146 : Int32)) (aX12_pushes 32 rfl) (by decide) ?_
                  refine hw_iceq (tgt := 79) (aX12_pushes 33 rfl) (by decide) rfl (by decide : (146 : Int32).toInt = 146) (fun cd26 => ?_) (fun cd26 => ?_)
                  · omega
                  · refine xw_iloadn (aX12_pushes 34 rfl) rfl ?_
                    refine hw_sp (v := (151 : Int32)) (aX12_pushes 35 rfl) (by decide) ?_
                    refine hw_iceq (tgt := 79) (aX12_pushes 36 rfl) (by decide) rfl (by decide : (151 : Int32).toInt = 151) (fun cd27 => ?_) (fun cd27 => ?_)
                    · omega
                    · refine xw_iloadn (aX12_pushes 37 rfl) rfl ?_
                      refine hw_sp (v := (156 : Int32)) (aX12_pushes 38 rfl) (by decide) ?_
                      refine hw_icne (tgt := 83) (aX12_pushes 39 rfl) (by decide) rfl (by decide : (156 : Int32).toInt = 156) (fun cd28 => ?_) (fun cd28 => ?_)
                      · refine hw_ic (v := (0 : Int32)) (aX12_pushes 42 rfl) (by decide) ?_
                        refine xw_iret (aX12_pushes 43 rfl) rfl (by decide) ?_
                        have e29 : ((0 : Int32)).toInt = 0 := (by decide : (0 : Int32).toInt = 0)
                        exact ⟨(0 : Int32), rfl, _, _, rfl, rfl, rfl, (by show (((0 : Int32)).toInt = 1 → ((a1).toInt = 3 ∨ (8 ≤ (a1).toInt ∧ (a1).toInt ≤ 18) ∨ (a1).toInt = 20 ∨ (a1).toInt = 21 ∨ (48 ≤ (a1).toInt ∧ (a1).toInt ≤ 79) ∨ (112 ≤ (a1).toInt ∧ (a1).toInt ≤ 143) ∨ (a1).toInt = 146 ∨ (a1).toInt = 151 ∨ (a1).toInt = 156)); omega), (by show (((a1).toInt = 3 ∨ (8 ≤ (a1).toInt ∧ (a1).toInt ≤ 18) ∨ (a1).toInt = 20 ∨ (a1).toInt = 21 ∨ (48 ≤ (a1).toInt ∧ (a1).toInt ≤ 79) ∨ (112 ≤ (a1).toInt ∧ (a1).toInt ≤ 143) ∨ (a1).toInt = 146 ∨ (a1).toInt = 151 ∨ (a1).toInt = 156) → ((0 : Int32)).toInt = 1); omega), (by show 0 ≤ ((0 : Int32)).toInt ∧ ((0 : Int32)).toInt ≤ 1; omega)⟩
                      · omega
                · refine xw_iloadn (aX12_pushes 26 rfl) rfl ?_
                  refine hw_sp (v := (143 : Int32)) (aX12_pushes 27 rfl) (by decide) ?_
                  refine hw_icgt (tgt := 58) (aX12_pushes 28 rfl) (by decide) rfl (by decide : (143 : Int32).toInt = 143) (fun cd30 => ?_) (fun cd30 => ?_)
                  · refine xw_iloadn (aX12_pushes 31 rfl) rfl ?_
                    refine hw_sp (v := (146 : Int32)) (aX12_pushes 32 rfl) (by decide) ?_
                    refine hw_iceq (tgt := 79) (aX12_pushes 33 rfl) (by decide) rfl (by decide : (146 : Int32).toInt = 146) (fun cd31 => ?_) (fun cd31 => ?_)
                    · refine hw_ic (v := (1 : Int32)) (aX12_pushes 40 rfl) (by decide) ?_
                      refine xw_goto (tgt := 84) (aX12_pushes 41 rfl) (by decide) ?_
                      refine xw_iret (aX12_pushes 43 rfl) rfl (by decide) ?_
                      have e32 : ((1 : Int32)).toInt = 1 := (by decide : (1 : Int32).toInt = 1)
                      exact ⟨(1 : Int32), rfl, _, _, rfl, rfl, rfl, (by show (((1 : Int32)).toInt = 1 → ((a1).toInt = 3 ∨ (8 ≤ (a1).toInt ∧ (a1).toInt ≤ 18) ∨ (a1).toInt = 20 ∨ (a1).toInt = 21 ∨ (48 ≤ (a1).toInt ∧ (a1).toInt ≤ 79) ∨ (112 ≤ (a1).toInt ∧ (a1).toInt ≤ 143) ∨ (a1).toInt = 146 ∨ (a1).toInt = 151 ∨ (a1).toInt = 156)); omega), (by show (((a1).toInt = 3 ∨ (8 ≤ (a1).toInt ∧ (a1).toInt ≤ 18) ∨ (a1).toInt = 20 ∨ (a1).toInt = 21 ∨ (48 ≤ (a1).toInt ∧ (a1).toInt ≤ 79) ∨ (112 ≤ (a1).toInt ∧ (a1).toInt ≤ 143) ∨ (a1).toInt = 146 ∨ (a1).toInt = 151 ∨ (a1).toInt = 156) → ((1 : Int32)).toInt = 1); omega), (by show 0 ≤ ((1 : Int32)).toInt ∧ ((1 : Int32)).toInt ≤ 1; omega)⟩
                    · refine xw_iloadn (aX12_pushes 34 rfl) rfl ?_
                      refine hw_sp (v := (151 : Int32)) (aX12_pushes 35 rfl) (by decide) ?_
                      refine hw_iceq (tgt := 79) (aX12_pushes 36 rfl) (by decide) rfl (by decide : (151 : Int32).toInt = 151) (fun cd33 => ?_) (fun cd33 => ?_)
                      · refine hw_ic (v := (1 : Int32)) (aX12_pushes 40 rfl) (by decide) ?_
                        refine xw_goto (tgt := 84) (aX12_pushes 41 rfl) (by decide) ?_
                        refine xw_iret (aX12_pushes 43 rfl) rfl (by decide) ?_
                        have e34 : ((1 : Int32)).toInt = 1 := (by decide : (1 : Int32).toInt = 1)
                        exact ⟨(1 : Int32), rfl, _, _, rfl, rfl, rfl, (by show (((1 : Int32)).toInt = 1 → ((a1).toInt = 3 ∨ (8 ≤ (a1).toInt ∧ (a1).toInt ≤ 18) ∨ (a1).toInt = 20 ∨ (a1).toInt = 21 ∨ (48 ≤ (a1).toInt ∧ (a1).toInt ≤ 79) ∨ (112 ≤ (a1).toInt ∧ (a1).toInt ≤ 143) ∨ (a1).toInt = 146 ∨ (a1).toInt = 151 ∨ (a1).toInt = 156)); omega), (by show (((a1).toInt = 3 ∨ (8 ≤ (a1).toInt ∧ (a1).toInt ≤ 18) ∨ (a1).toInt = 20 ∨ (a1).toInt = 21 ∨ (48 ≤ (a1).toInt ∧ (a1).toInt ≤ 79) ∨ (112 ≤ (a1).toInt ∧ (a1).toInt ≤ 143) ∨ (a1).toInt = 146 ∨ (a1).toInt = 151 ∨ (a1).toInt = 156) → ((1 : Int32)).toInt = 1); omega), (by show 0 ≤ ((1 : Int32)).toInt ∧ ((1 : Int32)).toInt ≤ 1; omega)⟩
                      · refine xw_iloadn (aX12_pushes 37 rfl) rfl ?_
                        refine hw_sp (v := (156 : Int32)) (aX12_pushes 38 rfl) (by decide) ?_
                        refine hw_icne (tgt := 83) (aX12_pushes 39 rfl) (by decide) rfl (by decide : (156 : Int32).toInt = 156) (fun cd35 => ?_) (fun cd35 => ?_)
                        · refine hw_ic (v := (0 : Int32)) (aX12_pushes 42 rfl) (by decide) ?_
                          refine xw_iret (aX12_pushes 43 rfl) rfl (by decide) ?_
                          have e36 : ((0 : Int32)).toInt = 0 := (by decide : (0 : Int32).toInt = 0)
                          exact ⟨(0 : Int32), rfl, _, _, rfl, rfl, rfl, (by show (((0 : Int32)).toInt = 1 → ((a1).toInt = 3 ∨ (8 ≤ (a1).toInt ∧ (a1).toInt ≤ 18) ∨ (a1).toInt = 20 ∨ (a1).toInt = 21 ∨ (48 ≤ (a1).toInt ∧ (a1).toInt ≤ 79) ∨ (112 ≤ (a1).toInt ∧ (a1).toInt ≤ 143) ∨ (a1).toInt = 146 ∨ (a1).toInt = 151 ∨ (a1).toInt = 156)); omega), (by show (((a1).toInt = 3 ∨ (8 ≤ (a1).toInt ∧ (a1).toInt ≤ 18) ∨ (a1).toInt = 20 ∨ (a1).toInt = 21 ∨ (48 ≤ (a1).toInt ∧ (a1).toInt ≤ 79) ∨ (112 ≤ (a1).toInt ∧ (a1).toInt ≤ 143) ∨ (a1).toInt = 146 ∨ (a1).toInt = 151 ∨ (a1).toInt = 156) → ((0 : Int32)).toInt = 1); omega), (by show 0 ≤ ((0 : Int32)).toInt ∧ ((0 : Int32)).toInt ≤ 1; omega)⟩
                        · refine hw_ic (v := (1 : Int32)) (aX12_pushes 40 rfl) (by decide) ?_
                          refine xw_goto (tgt := 84) (aX12_pushes 41 rfl) (by decide) ?_
                          refine xw_iret (aX12_pushes 43 rfl) rfl (by decide) ?_
                          have e37 : ((1 : Int32)).toInt = 1 := (by decide : (1 : Int32).toInt = 1)
                          exact ⟨(1 : Int32), rfl, _, _, rfl, rfl, rfl, (by show (((1 : Int32)).toInt = 1 → ((a1).toInt = 3 ∨ (8 ≤ (a1).toInt ∧ (a1).toInt ≤ 18) ∨ (a1).toInt = 20 ∨ (a1).toInt = 21 ∨ (48 ≤ (a1).toInt ∧ (a1).toInt ≤ 79) ∨ (112 ≤ (a1).toInt ∧ (a1).toInt ≤ 143) ∨ (a1).toInt = 146 ∨ (a1).toInt = 151 ∨ (a1).toInt = 156)); omega), (by show (((a1).toInt = 3 ∨ (8 ≤ (a1).toInt ∧ (a1).toInt ≤ 18) ∨ (a1).toInt = 20 ∨ (a1).toInt = 21 ∨ (48 ≤ (a1).toInt ∧ (a1).toInt ≤ 79) ∨ (112 ≤ (a1).toInt ∧ (a1).toInt ≤ 143) ∨ (a1).toInt = 146 ∨ (a1).toInt = 151 ∨ (a1).toInt = 156) → ((1 : Int32)).toInt = 1); omega), (by show 0 ≤ ((1 : Int32)).toInt ∧ ((1 : Int32)).toInt ≤ 1; omega)⟩
                  · refine hw_ic (v := (1 : Int32)) (aX12_pushes 29 rfl) (by decide) ?_
                    refine xw_iret (aX12_pushes 30 rfl) rfl (by decide) ?_
                    have e38 : ((1 : Int32)).toInt = 1 := (by decide : (1 : Int32).toInt = 1)
                    exact ⟨(1 : Int32), rfl, _, _, rfl, rfl, rfl, (by show (((1 : Int32)).toInt = 1 → ((a1).toInt = 3 ∨ (8 ≤ (a1).toInt ∧ (a1).toInt ≤ 18) ∨ (a1).toInt = 20 ∨ (a1).toInt = 21 ∨ (48 ≤ (a1).toInt ∧ (a1).toInt ≤ 79) ∨ (112 ≤ (a1).toInt ∧ (a1).toInt ≤ 143) ∨ (a1).toInt = 146 ∨ (a1).toInt = 151 ∨ (a1).toInt = 156)); omega), (by show (((a1).toInt = 3 ∨ (8 ≤ (a1).toInt ∧ (a1).toInt ≤ 18) ∨ (a1).toInt = 20 ∨ (a1).toInt = 21 ∨ (48 ≤ (a1).toInt ∧ (a1).toInt ≤ 79) ∨ (112 ≤ (a1).toInt ∧ (a1).toInt ≤ 143) ∨ (a1).toInt = 146 ∨ (a1).toInt = 151 ∨ (a1).toInt = 156) → ((1 : Int32)).toInt = 1); omega), (by show 0 ≤ ((1 : Int32)).toInt ∧ ((1 : Int32)).toInt ≤ 1; omega)⟩
          · refine hw_ic (v := (1 : Int32)) (aX12_pushes 15 rfl) (by decide) ?_
            refine xw_iret (aX12_pushes 16 rfl) rfl (by decide) ?_
            have e39 : ((1 : Int32)).toInt = 1 := (by decide : (1 : Int32).toInt = 1)
            exact ⟨(1 : Int32), rfl, _, _, rfl, rfl, rfl, (by show (((1 : Int32)).toInt = 1 → ((a1).toInt = 3 ∨ (8 ≤ (a1).toInt ∧ (a1).toInt ≤ 18) ∨ (a1).toInt = 20 ∨ (a1).toInt = 21 ∨ (48 ≤ (a1).toInt ∧ (a1).toInt ≤ 79) ∨ (112 ≤ (a1).toInt ∧ (a1).toInt ≤ 143) ∨ (a1).toInt = 146 ∨ (a1).toInt = 151 ∨ (a1).toInt = 156)); omega), (by show (((a1).toInt = 3 ∨ (8 ≤ (a1).toInt ∧ (a1).toInt ≤ 18) ∨ (a1).toInt = 20 ∨ (a1).toInt = 21 ∨ (48 ≤ (a1).toInt ∧ (a1).toInt ≤ 79) ∨ (112 ≤ (a1).toInt ∧ (a1).toInt ≤ 143) ∨ (a1).toInt = 146 ∨ (a1).toInt = 151 ∨ (a1).toInt = 156) → ((1 : Int32)).toInt = 1); omega), (by show 0 ≤ ((1 : Int32)).toInt ∧ ((1 : Int32)).toInt ≤ 1; omega)⟩
