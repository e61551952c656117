def nX12_read : Nat := 0xad0416e5ffa7ff0684043781852e600615881f0d00b42a79081004161c009b0615063664041d043709
theorem bX12_read : cX12_read.data.toList.map UInt8.toNat = x_un nX12_read 41 := by decide +kernel
def iX12_read : List (Nat × Jvm.ClassFile.Instr × Nat) := [(0, .lconst 0, 1), (1, .lstore 4, 2), (3, .iload_n 3, 1), (4, .iconst 1, 1), (5, .isub, 1), (6, .istore 6, 2), (8, .iload 6, 2), (10, .ifCond .lt 28, 3), (13, .lload 4, 2), (15, .bipush 8, 2), (17, .lshl, 1), (18, .aload_n 0, 1), (19, .getfield 13, 3), (22, .lload_n 1, 1), (23, .l2i, 1), (24, .iload 6, 2), (26, .iadd, 1), (27, .iaload, 1), (28, .i2l, 1), (29, .lor, 1), (30, .lstore 4, 2), (32, .iinc 6 (-1), 3), (35, .goto (-27), 3), (38, .lload 4, 2), (40, .lreturn, 1)]
theorem dX12_read : x_il nX12_read 41 iX12_read = true := by decide +kernel
theorem aX12_read (k : Nat) {pc : Nat} {i : Jvm.ClassFile.Instr} {len : Nat} (hk : iX12_read[k]? = some (pc, i, len)) : x_at xMM 167 pc i len yX12_read 7 (some .long) := ⟨cX12_read, rfl, x_il_ok bX12_read dX12_read k hk⟩
set_option maxHeartbeats 4000000 in
set_option maxRecDepth 100000 in
theorem m_read {base d n sl : Nat} {SH : Nat → Nat × Nat} {FI : Nat → Nat → Int32} {FL : Nat → Nat → Int64} {FR : Nat → Nat → Option Nat} (hS : h_S n SH) (hF : h_FR FR) (a1 : Int64) (a2 : Int32) (g0 : (a1).toInt + (a2).toInt ≤ 4096) (g1 : 0 ≤ (a1).toInt ∧ (a1).toInt ≤ 4096) (g2 : 1 ≤ (a2).toInt ∧ (a2).toInt ≤ 8) : hw base d none 167 0 [(0, .ref (base + 121)), (1, .long (a1)), (3, .int (a2))] [] (n, sl, SH, FI, FL, FR) (h_J (fun r s => ∃ FI' FL', s = (n, sl, SH, FI', FL', FR) ∧ h_fr FI FI' [] [] ∧ h_fr FL FL' [] [])) := by
  have rg_a1 := l_rng a1
  have rg_a2 := i_rng a2
  refine hw_lc (v := (0 : Int64)) (aX12_read 0 rfl) (by decide) ?_
  refine xw_lstore (L2 := [(4, .long ((0 : Int64))), (0, .ref (base + 121)), (1, .long (a1)), (3, .int (a2))]) (aX12_read 1 rfl) (by decide) rfl ?_
  refine xw_iloadn (aX12_read 2 rfl) rfl ?_
  refine hw_ic (v := (1 : Int32)) (aX12_read 3 rfl) (by decide) ?_
  refine xw_isub (aX12_read 4 rfl) ?_
  refine hw_tie (A := ((a2).toInt) - (1)) (i_sub rfl (by decide : (1 : Int32).toInt = 1) (by omega) (by omega)) (fun x1 e2 => ?_)
  refine xw_istore (L2 := [(6, .int (x1)), (4, .long ((0 : Int64))), (0, .ref (base + 121)), (1, .long (a1)), (3, .int (a2))]) (aX12_read 5 rfl) (by decide) rfl ?_
  have lp3 : ∀ (m : Nat) (v : Int64) (i : Int32) , (-1 ≤ (i).toInt) → ((i).toInt < (a2).toInt) → (i).toInt + 1 < m → hw base d none 167 8 [(6, .int (i)), (4, .long (v)), (0, .ref (base + 121)), (1, .long (a1)), (3, .int (a2))] [] (n, sl, SH, FI, FL, FR) (h_J (fun r s => ∃ FI' FL', s = (n, sl, SH, FI', FL', FR) ∧ h_fr FI FI' [] [] ∧ h_fr FL FL' [] [])) := by
    intro m
    induction m with
    | zero => intro v i  iv4 iv5 hm; omega
    | succ m ih =>
      intro v i  iv4 iv5 hm
      have rg_v := l_rng v
      have rg_i := i_rng i
      refine xw_iload (aX12_read 6 rfl) rfl ?_
      refine hw_iflt (tgt := 38) (aX12_read 7 rfl) (by decide) rfl (fun c6 => ?_) (fun c6 => ?_)
      · refine xw_lload (aX12_read 23 rfl) rfl ?_
        refine xw_lret (aX12_read 24 rfl) rfl ?_
        have e7 : (v).toInt = (v).toInt := rfl
        exact ⟨v, rfl, _, _, rfl, fr_rf, fr_rf⟩
      · refine xw_lload (aX12_read 8 rfl) rfl ?_
        refine hw_bp (v := (8 : Int32)) (aX12_read 9 rfl) (by decide) ?_
        refine xw_lshl (aX12_read 10 rfl) ?_
        refine hw_tl (fun x8 => ?_)
        have b9 := l_rng x8
        refine hw_aloadn (aX12_read 11 rfl) rfl ?_
        refine hw_get (v := .ref (base + 123)) (aX12_read 12 rfl) wf_RX12_13 (c121 hS) (s121 hS) (by decide) (congrArg (fun r => va_rf (h_rf base r)) (r121_2 hF)) ?_
        refine xw_lloadn (aX12_read 13 rfl) rfl ?_
        refine xw_l2i (aX12_read 14 rfl) ?_
        refine hw_tie (A := (a1).toInt) (l_2i rfl (by omega) (by omega)) (fun x10 e11 => ?_)
        refine xw_iload (aX12_read 15 rfl) rfl ?_
        refine xw_iadd (aX12_read 16 rfl) ?_
        refine hw_tie (A := ((a1).toInt) + ((i).toInt)) (i_add e11 rfl (by omega) (by omega)) (fun x12 e13 => ?_)
        refine hw_iald (v := FI 123 (x12).toNatClampNeg) (aX12_read 17 rfl) (c123 hS) (s123 hS) (h_in e13 (by omega) (by omega)) rfl ?_
        refine hw_ti (fun x14 => ?_)
        have b15 := i_rng x14
        refine xw_i2l (aX12_read 18 rfl) ?_
        refine hw_tle (A := (x14).toInt) (i_2l rfl) (fun x16 e17 => ?_)
        refine xw_lor (aX12_read 19 rfl) ?_
        refine hw_tl (fun x18 => ?_)
        have b19 := l_rng x18
        refine xw_lstore (L2 := [(4, .long (x18)), (6, .int (i)), (0, .ref (base + 121)), (1, .long (a1)), (3, .int (a2))]) (aX12_read 20 rfl) (by decide) rfl ?_
        obtain ⟨x20, q22⟩ : ∃ y : Int32, i + Int32.ofInt (-1) = y := ⟨_, rfl⟩
        have e21 : (x20).toInt = (i).toInt + (-1) := by rw [← q22]; exact i_add rfl (by decide) (by omega) (by omega)
        refine xw_iinc (L2 := [(6, .int (x20)), (4, .long (x18)), (0, .ref (base + 121)), (1, .long (a1)), (3, .int (a2))]) (aX12_read 21 rfl) rfl (by decide) (by rw [q22]; rfl) ?_
        refine xw_goto (tgt := 8) (aX12_read 22 rfl) (by decide) ?_
        exact ih (x18) (x20) (by have := (e21 : (x20).toInt = (i).toInt + (-1)); show -1 ≤ ((x20)).toInt; omega) (by have := (e21 : (x20).toInt = (i).toInt + (-1)); show ((x20)).toInt < (a2).toInt; omega) (by have := (e21 : (x20).toInt = (i).toInt + (-1)); show ((x20)).toInt + 1 < _; omega)
  exact lp3 ((((x1)).toInt + 1).toNat + 1) ((0 : Int64)) (x1) (by have := ((by decide : (0 : Int64).toInt = 0) : ((0 : Int64)).toInt = 0); have := (e2 : (x1).toInt = ((a2).toInt) - (1)); show -1 ≤ ((x1)).toInt; omega) (by have := ((by decide : (0 : Int64).toInt = 0) : ((0 : Int64)).toInt = 0); have := (e2 : (x1).toInt = ((a2).toInt) - (1)); show ((x1)).toInt < (a2).toInt; omega) (by have := ((by decide : (0 : Int64).toInt = 0) : ((0 : Int64)).toInt = 0); have := (e2 : (x1).toInt = ((a2).toInt) - (1)); show ((x1)).toInt + 1 < _; omega)
