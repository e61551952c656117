def nX12_fixed : Nat := 0xad04160500a77b64681b081040107964681b0810401004161800a208101b1e00991cdf00b5601bdf00b42a2ae3ffa7ff0684043781852e600615df00b42a1100b42a79081004161e009b0615063664041b043709ad09dc00b5042a0a00a41d601bdf00b42aad09050099dc00b42a
theorem bX12_fixed : cX12_fixed.data.toList.map UInt8.toNat = x_un nX12_fixed 110 := by decide +kernel
def iX12_fixed : List (Nat × Jvm.ClassFile.Instr × Nat) := [(0, .aload_n 0, 1), (1, .getfield 220, 3), (4, .ifCond .eq 5, 3), (7, .lconst 0, 1), (8, .lreturn, 1), (9, .aload_n 0, 1), (10, .getfield 223, 3), (13, .iload_n 1, 1), (14, .iadd, 1), (15, .iload_n 3, 1), (16, .if_icmp .le 10, 3), (19, .aload_n 0, 1), (20, .iconst 1, 1), (21, .putfield 220, 3), (24, .lconst 0, 1), (25, .lreturn, 1), (26, .lconst 0, 1), (27, .lstore 4, 2), (29, .iload_n 1, 1), (30, .iconst 1, 1), (31, .isub, 1), (32, .istore 6, 2), (34, .iload 6, 2), (36, .ifCond .lt 30, 3), (39, .lload 4, 2), (41, .bipush 8, 2), (43, .lshl, 1), (44, .aload_n 0, 1), (45, .getfield 17, 3), (48, .aload_n 0, 1), (49, .getfield 223, 3), (52, .iload 6, 2), (54, .iadd, 1), (55, .iaload, 1), (56, .i2l, 1), (57, .lor, 1), (58, .lstore 4, 2), (60, .iinc 6 (-1), 3), (63, .goto (-29), 3), (66, .aload_n 0, 1), (67, .aload_n 0, 1), (68, .getfield 223, 3), (71, .iload_n 1, 1), (72, .iadd, 1), (73, .putfield 223, 3), (76, .iload_n 2, 1), (77, .ifCond .eq 30, 3), (80, .iload_n 1, 1), (81, .bipush 8, 2), (83, .if_icmp .ge 24, 3), (86, .lload 4, 2), (88, .bipush 64, 2), (90, .bipush 8, 2), (92, .iload_n 1, 1), (93, .imul, 1), (94, .isub, 1), (95, .lshl, 1), (96, .bipush 64, 2), (98, .bipush 8, 2), (100, .iload_n 1, 1), (101, .imul, 1), (102, .isub, 1), (103, .lshr, 1), (104, .goto 5, 3), (107, .lload 4, 2), (109, .lreturn, 1)]
theorem dX12_fixed : x_il nX12_fixed 110 iX12_fixed = true := by decide +kernel
theorem aX12_fixed (k : Nat) {pc : Nat} {i : Jvm.ClassFile.Instr} {len : Nat} (hk : iX12_fixed[k]? = some (pc, i, len)) : x_at xMM 168 pc i len yX12_fixed 7 (some .long) := ⟨cX12_fixed, rfl, x_il_ok bX12_fixed dX12_fixed k hk⟩
set_option maxHeartbeats 4000000 in
set_option maxRecDepth 100000 in
theorem m_fixed4 {sk : xK} {base d n sl : Nat} {SH : Nat → Nat × Nat} {FI : Nat → Nat → Int32} {FL : Nat → Nat → Int64} {FR : Nat → Nat → Option Nat} (hS : h_S n SH) (hF : h_FR FR) (a1 : Int32) (a2 : Int32) (a3 : Int32) (g0 : (FI 121 37).toInt ≤ (a3).toInt) (g1 : 0 ≤ (a2).toInt ∧ (a2).toInt ≤ 1) (g2 : 1 ≤ (a1).toInt ∧ (a1).toInt ≤ 4) (g3 : 0 ≤ (a3).toInt ∧ (a3).toInt ≤ 19200) (g4 : 0 ≤ (FI 121 37).toInt ∧ (FI 121 37).toInt ≤ 19200) (ai124 : h_ai 124 19200 0 255 FI) : hw sk base d none 168 0 [(0, .ref (base + 121)), (1, .int (a1)), (2, .int (a2)), (3, .int (a3))] [] (n, sl, SH, FI, FL, FR) (h_J (fun r s => ∃ FI' FL', s = (n, sl, SH, FI', FL', FR) ∧ h_fr FI FI' [37, 38] [] ∧ FL = FL' ∧ (((FI' 121 37)).toInt ≤ (a3).toInt) ∧ ((FI 121 37).toInt ≤ ((FI' 121 37)).toInt) ∧ (((FI' 121 37)).toInt ≤ (FI 121 37).toInt + 8) ∧ ((a2).toInt = 0 → 0 ≤ r.toInt) ∧ ((a1).toInt = 1 ∧ (a2).toInt = 0 → r.toInt ≤ 255) ∧ (((FI' 121 38)).toInt ≠ 0 → r.toInt = 0))) := by
  have rg_a1 := i_rng a1
  have rg_a2 := i_rng a2
  have rg_a3 := i_rng a3
  refine hw_aloadn (aX12_fixed 0 rfl) rfl ?_
  refine hw_get (v := .int (FI 121 38)) (aX12_fixed 1 rfl) wf_RX12_220 (c121 hS) (s121 hS) (by decide) (congrArg Value.int (show FI 121 38 = FI 121 38 from rfl)) ?_
  have e1 := i_rng (FI 121 38)
  refine hw_ifeq (tgt := 9) (aX12_fixed 2 rfl) (by decide) rfl (fun cd2 => ?_) (fun cd2 => ?_)
  · refine hw_aloadn (aX12_fixed 5 rfl) rfl ?_
    refine hw_get (v := .int (FI 121 37)) (aX12_fixed 6 rfl) wf_RX12_223 (c121 hS) (s121 hS) (by decide) (congrArg Value.int (show FI 121 37 = FI 121 37 from rfl)) ?_
    refine xw_iloadn (aX12_fixed 7 rfl) rfl ?_
    refine xw_iadd (aX12_fixed 8 rfl) ?_
    refine hw_tie (A := ((FI 121 37).toInt) + ((a1).toInt)) (i_add rfl rfl (by omega) (by omega)) (fun x3 e4 => ?_)
    refine xw_iloadn (aX12_fixed 9 rfl) rfl ?_
    refine hw_icle (tgt := 26) (aX12_fixed 10 rfl) (by decide) e4 rfl (fun cd5 => ?_) (fun cd5 => ?_)
    · refine hw_lc (v := (0 : Int64)) (aX12_fixed 16 rfl) (by decide) ?_
      refine xw_lstore (L2 := [(4, .long ((0 : Int64))), (0, .ref (base + 121)), (1, .int (a1)), (2, .int (a2)), (3, .int (a3))]) (aX12_fixed 17 rfl) (by decide) rfl ?_
      refine xw_iloadn (aX12_fixed 18 rfl) rfl ?_
      refine hw_ic (v := (1 : Int32)) (aX12_fixed 19 rfl) (by decide) ?_
      refine xw_isub (aX12_fixed 20 rfl) ?_
      refine hw_tie (A := ((a1).toInt) - (1)) (i_sub rfl (by decide : (1 : Int32).toInt = 1) (by omega) (by omega)) (fun x6 e7 => ?_)
      refine xw_istore (L2 := [(6, .int (x6)), (4, .long ((0 : Int64))), (0, .ref (base + 121)), (1, .int (a1)), (2, .int (a2)), (3, .int (a3))]) (aX12_fixed 21 rfl) (by decide) rfl ?_
      have lp8 : ∀ (m : Nat) (v : Int64) (i : Int32) , (-1 ≤ (i).toInt) → ((i).toInt < (a1).toInt) → (0 ≤ (v).toInt) → ((v).toInt ≤ 4294967295) → ((i).toInt = (a1).toInt - 1 → (v).toInt = 0) → ((i).toInt = (a1).toInt - 2 → (v).toInt ≤ 255) → ((i).toInt = (a1).toInt - 3 → (v).toInt ≤ 65535) → ((i).toInt = (a1).toInt - 4 → (v).toInt ≤ 16777215) → (i).toInt + 1 < m → hw sk base d none 168 34 [(6, .int (i)), (4, .long (v)), (0, .ref (base + 121)), (1, .int (a1)), (2, .int (a2))] [] (n, sl, SH, FI, FL, FR) (h_J (fun r s => ∃ FI' FL', s = (n, sl, SH, FI', FL', FR) ∧ h_fr FI FI' [37, 38] [] ∧ FL = FL' ∧ (((FI' 121 37)).toInt ≤ (a3).toInt) ∧ ((FI 121 37).toInt ≤ ((FI' 121 37)).toInt) ∧ (((FI' 121 37)).toInt ≤ (FI 121 37).toInt + 8) ∧ ((a2).toInt = 0 → 0 ≤ r.toInt) ∧ ((a1).toInt = 1 ∧ (a2).toInt = 0 → r.toInt ≤ 255) ∧ (((FI' 121 38)).toInt ≠ 0 → r.toInt = 0))) := by
        intro m
        induction m with
        | zero => intro v i  iv9 iv10 iv11 iv12 iv13 iv14 iv15 iv16 hm; omega
        | succ m ih =>
          intro v i  iv9 iv10 iv11 iv12 iv13 iv14 iv15 iv16 hm
          have rg_v := l_rng v
          have rg_i := i_rng i
          refine xw_iload (aX12_fixed 22 rfl) rfl ?_
          refine hw_iflt (tgt := 66) (aX12_fixed 23 rfl) (by decide) rfl (fun cd17 => ?_) (fun cd17 => ?_)
          · refine hw_aloadn (aX12_fixed 39 rfl) rfl ?_
            refine hw_aloadn (aX12_fixed 40 rfl) rfl ?_
            refine hw_get (v := .int (FI 121 37)) (aX12_fixed 41 rfl) wf_RX12_223 (c121 hS) (s121 hS) (by decide) (congrArg Value.int (show FI 121 37 = FI 121 37 from rfl)) ?_
            refine xw_iloadn (aX12_fixed 42 rfl) rfl ?_
            refine xw_iadd (aX12_fixed 43 rfl) ?_
            refine hw_tie (A := ((FI 121 37).toInt) + ((a1).toInt)) (i_add rfl rfl (by omega) (by omega)) (fun x18 e19 => ?_)
            refine hw_puti (aX12_fixed 44 rfl) wf_RX12_223 (c121 hS) (s121 hS) (by decide) rfl rfl ?_
            refine xw_iloadn (aX12_fixed 45 rfl) rfl ?_
            refine hw_ifeq (tgt := 107) (aX12_fixed 46 rfl) (by decide) rfl (fun cd20 => ?_) (fun cd20 => ?_)
            · refine xw_lload (aX12_fixed 64 rfl) rfl ?_
              refine xw_lret (aX12_fixed 65 rfl) rfl ?_
              have e21 : (v).toInt = (v).toInt := rfl
              have e22 : (x18).toInt = ((FI 121 37).toInt) + ((a1).toInt) := e19
              exact ⟨v, rfl, _, _, rfl, (fr_up fr_rf (by decide)), rfl, (by show ((x18)).toInt ≤ (a3).toInt; omega), (by show (FI 121 37).toInt ≤ ((x18)).toInt; omega), (by show ((x18)).toInt ≤ (FI 121 37).toInt + 8; omega), (by show (a2).toInt = 0 → 0 ≤ (v).toInt; omega), (by show (a1).toInt = 1 ∧ (a2).toInt = 0 → (v).toInt ≤ 255; omega), (by show ((FI 121 38)).toInt ≠ 0 → (v).toInt = 0; omega)⟩
            · refine xw_iloadn (aX12_fixed 47 rfl) rfl ?_
              refine hw_bp (v := (8 : Int32)) (aX12_fixed 48 rfl) (by decide) ?_
              refine hw_icge (tgt := 107) (aX12_fixed 49 rfl) (by decide) rfl (by decide : (8 : Int32).toInt = 8) (fun cd23 => ?_) (fun cd23 => ?_)
              · omega
              · refine xw_lload (aX12_fixed 50 rfl) rfl ?_
                refine hw_bp (v := (64 : Int32)) (aX12_fixed 51 rfl) (by decide) ?_
                refine hw_bp (v := (8 : Int32)) (aX12_fixed 52 rfl) (by decide) ?_
                refine xw_iloadn (aX12_fixed 53 rfl) rfl ?_
                refine xw_imul (aX12_fixed 54 rfl) ?_
                refine hw_tie (A := (8) * ((a1).toInt)) (i_mul (by decide : (8 : Int32).toInt = 8) rfl (by omega) (by omega)) (fun x24 e25 => ?_)
                refine xw_isub (aX12_fixed 55 rfl) ?_
                refine hw_tie (A := (64) - ((8) * ((a1).toInt))) (i_sub (by decide : (64 : Int32).toInt = 64) e25 (by omega) (by omega)) (fun x26 e27 => ?_)
                refine xw_lshl (aX12_fixed 56 rfl) ?_
                refine hw_tl (fun x28 => ?_)
                have b29 := l_rng x28
                refine hw_bp (v := (64 : Int32)) (aX12_fixed 57 rfl) (by decide) ?_
                refine hw_bp (v := (8 : Int32)) (aX12_fixed 58 rfl) (by decide) ?_
                refine xw_iloadn (aX12_fixed 59 rfl) rfl ?_
                refine xw_imul (aX12_fixed 60 rfl) ?_
                refine hw_tie (A := (8) * ((a1).toInt)) (i_mul (by decide : (8 : Int32).toInt = 8) rfl (by omega) (by omega)) (fun x30 e31 => ?_)
                refine xw_isub (aX12_fixed 61 rfl) ?_
                refine hw_tie (A := (64) - ((8) * ((a1).toInt))) (i_sub (by decide : (64 : Int32).toInt = 64) e31 (by omega) (by omega)) (fun x32 e33 => ?_)
                refine xw_lshr (aX12_fixed 62 rfl) ?_
                refine hw_tl (fun x34 => ?_)
                have b35 := l_rng x34
                refine xw_goto (tgt := 109) (aX12_fixed 63 rfl) (by decide) ?_
                refine xw_lret (aX12_fixed 65 rfl) rfl ?_
                have e36 : (x34).toInt = (x34).toInt := rfl
                have e37 : (x18).toInt = ((FI 121 37).toInt) + ((a1).toInt) := e19
                exact ⟨x34, rfl, _, _, rfl, (fr_up fr_rf (by decide)), rfl, (by show ((x18)).toInt ≤ (a3).toInt; omega), (by show (FI 121 37).toInt ≤ ((x18)).toInt; omega), (by show ((x18)).toInt ≤ (FI 121 37).toInt + 8; omega), (by show (a2).toInt = 0 → 0 ≤ (x34).toInt; omega), (by show (a1).toInt = 1 ∧ (a2).toInt = 0 → (x34).toInt ≤ 255; omega), (by show ((FI 121 38)).toInt ≠ 0 → (x34).toInt = 0; omega)⟩
          · refine xw_lload (aX12_fixed 24 rfl) rfl ?_
            refine hw_bp (v := (8 : Int32)) (aX12_fixed 25 rfl) (by decide) ?_
            refine xw_lshl (aX12_fixed 26 rfl) ?_
            refine hw_tle (A := ((v).toInt) * 256) (l_shl8 rfl (by omega) (by omega)) (fun x38 e39 => ?_)
            refine hw_aloadn (aX12_fixed 27 rfl) rfl ?_
            refine hw_get (v := .ref (base + 124)) (aX12_fixed 28 rfl) wf_RX12_17 (c121 hS) (s121 hS) (by decide) (congrArg (fun r => va_rf (h_rf base r)) (r121_3 hF)) ?_
            refine hw_aloadn (aX12_fixed 29 rfl) rfl ?_
            refine hw_get (v := .int (FI 121 37)) (aX12_fixed 30 rfl) wf_RX12_223 (c121 hS) (s121 hS) (by decide) (congrArg Value.int (show FI 121 37 = FI 121 37 from rfl)) ?_
            refine xw_iload (aX12_fixed 31 rfl) rfl ?_
            refine xw_iadd (aX12_fixed 32 rfl) ?_
            refine hw_tie (A := ((FI 121 37).toInt) + ((i).toInt)) (i_add rfl rfl (by omega) (by omega)) (fun x40 e41 => ?_)
            refine hw_iald (v := FI 124 (x40).toNatClampNeg) (aX12_fixed 33 rfl) (c124 hS) (s124 hS) (h_in e41 (by omega) (by omega)) rfl ?_
            have e42 : 0 ≤ (FI 124 (x40).toNatClampNeg).toInt ∧ (FI 124 (x40).toNatClampNeg).toInt ≤ 255 := ai_at ai124 e41 (by omega) (by omega)
            refine xw_i2l (aX12_fixed 34 rfl) ?_
            refine hw_tle (A := (FI 124 (x40).toNatClampNeg).toInt) (i_2l rfl) (fun x43 e44 => ?_)
            refine xw_lor (aX12_fixed 35 rfl) ?_
            refine hw_tle (A := ((v).toInt) * 256 + ((FI 124 (x40).toNatClampNeg).toInt)) (l_or8 e39 e44 (by omega) (by omega) (by omega) (by omega)) (fun x45 e46 => ?_)
            refine xw_lstore (L2 := [(4, .long (x45)), (6, .int (i)), (0, .ref (base + 121)), (1, .int (a1)), (2, .int (a2))]) (aX12_fixed 36 rfl) (by decide) rfl ?_
            obtain ⟨x47, q49⟩ : ∃ y : Int32, i + Int32.ofInt (-1) = y := ⟨_, rfl⟩
            have e48 : (x47).toInt = (i).toInt + (-1) := by rw [← q49]; exact i_add rfl (by decide) (by omega) (by omega)
            refine xw_iinc (L2 := [(6, .int (x47)), (4, .long (x45)), (0, .ref (base + 121)), (1, .int (a1)), (2, .int (a2))]) (aX12_fixed 37 rfl) rfl (by decide) (by rw [q49]; rfl) ?_
            refine xw_goto (tgt := 34) (aX12_fixed 38 rfl) (by decide) ?_
            exact hw_L (ih (x45) (x47) (by have := (e46 : (x45).toInt = ((v).toInt) * 256 + ((FI 124 (x40).toNatClampNeg).toInt)); have := (e48 : (x47).toInt = (i).toInt + (-1)); show -1 ≤ ((x47)).toInt; omega) (by have := (e46 : (x45).toInt = ((v).toInt) * 256 + ((FI 124 (x40).toNatClampNeg).toInt)); have := (e48 : (x47).toInt = (i).toInt + (-1)); show ((x47)).toInt < (a1).toInt; omega) (by have := (e46 : (x45).toInt = ((v).toInt) * 256 + ((FI 124 (x40).toNatClampNeg).toInt)); have := (e48 : (x47).toInt = (i).toInt + (-1)); show 0 ≤ ((x45)).toInt; omega) (by have := (e46 : (x45).toInt = ((v).toInt) * 256 + ((FI 124 (x40).toNatClampNeg).toInt)); have := (e48 : (x47).toInt = (i).toInt + (-1)); show ((x45)).toInt ≤ 4294967295; omega) (by have := (e46 : (x45).toInt = ((v).toInt) * 256 + ((FI 124 (x40).toNatClampNeg).toInt)); have := (e48 : (x47).toInt = (i).toInt + (-1)); show ((x47)).toInt = (a1).toInt - 1 → ((x45)).toInt = 0; omega) (by have := (e46 : (x45).toInt = ((v).toInt) * 256 + ((FI 124 (x40).toNatClampNeg).toInt)); have := (e48 : (x47).toInt = (i).toInt + (-1)); show ((x47)).toInt = (a1).toInt - 2 → ((x45)).toInt ≤ 255; omega) (by have := (e46 : (x45).toInt = ((v).toInt) * 256 + ((FI 124 (x40).toNatClampNeg).toInt)); have := (e48 : (x47).toInt = (i).toInt + (-1)); show ((x47)).toInt = (a1).toInt - 3 → ((x45)).toInt ≤ 65535; omega) (by have := (e46 : (x45).toInt = ((v).toInt) * 256 + ((FI 124 (x40).toNatClampNeg).toInt)); have := (e48 : (x47).toInt = (i).toInt + (-1)); show ((x47)).toInt = (a1).toInt - 4 → ((x45)).toInt ≤ 16777215; omega) (by have := (e46 : (x45).toInt = ((v).toInt) * 256 + ((FI 124 (x40).toNatClampNeg).toInt)); have := (e48 : (x47).toInt = (i).toInt + (-1)); show ((x47)).toInt + 1 < _; omega)) ⟨rfl, rfl, rfl, rfl, rfl, trivial⟩
      exact hw_L (lp8 ((((x6)).toInt + 1).toNat + 1) ((0 : Int64)) (x6) (by have := ((by decide : (0 : Int64).toInt = 0) : ((0 : Int64)).toInt = 0); have := (e7 : (x6).toInt = ((a1).toInt) - (1)); show -1 ≤ ((x6)).toInt; omega) (by have := ((by decide : (0 : Int64).toInt = 0) : ((0 : Int64)).toInt = 0); have := (e7 : (x6).toInt = ((a1).toInt) - (1)); show ((x6)).toInt < (a1).toInt; omega) (by have := ((by decide : (0 : Int64).toInt = 0) : ((0 : Int64)).toInt = 0); have := (e7 : (x6).toInt = ((a1).toInt) - (1)); show 0 ≤ (((0 : Int64))).toInt; omega) (by have := ((by decide : (0 : Int64).toInt = 0) : ((0 : Int64)).toInt = 0); have := (e7 : (x6).toInt = ((a1).toInt) - (1)); show (((0 : Int64))).toInt ≤ 4294967295; omega) (by have := ((by decide : (0 : Int64).toInt = 0) : ((0 : Int64)).toInt = 0); have := (e7 : (x6).toInt = ((a1).toInt) - (1)); show ((x6)).toInt = (a1).toInt - 1 → (((0 : Int64))).toInt = 0; omega) (by have := ((by decide : (0 : Int64).toInt = 0) : ((0 : Int64)).toInt = 0); have := (e7 : (x6).toInt = ((a1).toInt) - (1)); show ((x6)).toInt = (a1).toInt - 2 → (((0 : Int64))).toInt ≤ 255; omega) (by have := ((by decide : (0 : Int64).toInt = 0) : ((0 : Int64)).toInt = 0); have := (e7 : (x6).toInt = ((a1).toInt) - (1)); show ((x6)).toInt = (a1).toInt - 3 → (((0 : Int64))).toInt ≤ 65535; omega) (by have := ((by decide : (0 : Int64).toInt = 0) : ((0 : Int64)).toInt = 0); have := (e7 : (x6).toInt = ((a1).toInt) - (1)); show ((x6)).toInt = (a1).toInt - 4 → (((0 : Int64))).toInt ≤ 16777215; omega) (by have := ((by decide : (0 : Int64).toInt = 0) : ((0 : Int64)).toInt = 0); have := (e7 : (x6).toInt = ((a1).toInt) - (1)); show ((x6)).toInt + 1 < _; omega)) ⟨rfl, rfl, rfl, rfl, rfl, trivial⟩
    · refine hw_aloadn (aX12_fixed 11 rfl) rfl ?_
      refine hw_ic (v := (1 : Int32)) (aX12_fixed 12 rfl) (by decide) ?_
      refine hw_puti (aX12_fixed 13 rfl) wf_RX12_220 (c121 hS) (s121 hS) (by decide) rfl rfl ?_
      refine hw_lc (v := (0 : Int64)) (aX12_fixed 14 rfl) (by decide) ?_
      refine xw_lret (aX12_fixed 15 rfl) rfl ?_
      have e50 : ((0 : Int64)).toInt = 0 := (by decide : (0 : Int64).toInt = 0)
      have e51 : ((1 : Int32)).toInt = 1 := (by decide : (1 : Int32).toInt = 1)
      exact ⟨(0 : Int64), rfl, _, _, rfl, (fr_up fr_rf (by decide)), rfl, (by show ((FI 121 37)).toInt ≤ (a3).toInt; omega), (by show (FI 121 37).toInt ≤ ((FI 121 37)).toInt; omega), (by show ((FI 121 37)).toInt ≤ (FI 121 37).toInt + 8; omega), (by show (a2).toInt = 0 → 0 ≤ ((0 : Int64)).toInt; omega), (by show (a1).toInt = 1 ∧ (a2).toInt = 0 → ((0 : Int64)).toInt ≤ 255; omega), (by show (((1 : Int32))).toInt ≠ 0 → ((0 : Int64)).toInt = 0; omega)⟩
  · refine hw_lc (v := (0 : Int64)) (aX12_fixed 3 rfl) (by decide) ?_
    refine xw_lret (aX12_fixed 4 rfl) rfl ?_
    have e52 : ((0 : Int64)).toInt = 0 := (by decide : (0 : Int64).toInt = 0)
    exact ⟨(0 : Int64), rfl, _, _, rfl, fr_rf, rfl, (by show ((FI 121 37)).toInt ≤ (a3).toInt; omega), (by show (FI 121 37).toInt ≤ ((FI 121 37)).toInt; omega), (by show ((FI 121 37)).toInt ≤ (FI 121 37).toInt + 8; omega), (by show (a2).toInt = 0 → 0 ≤ ((0 : Int64)).toInt; omega), (by show (a1).toInt = 1 ∧ (a2).toInt = 0 → ((0 : Int64)).toInt ≤ 255; omega), (by show ((FI 121 38)).toInt ≠ 0 → ((0 : Int64)).toInt = 0; omega)⟩
set_option maxHeartbeats 4000000 in
set_option maxRecDepth 100000 in
theorem m_fixed8 {sk : xK} {base d n sl : Nat} {SH : Nat → Nat × Nat} {FI : Nat → Nat → Int32} {FL : Nat → Nat → Int64} {FR : Nat → Nat → Option Nat} (hS : h_S n SH) (hF : h_FR FR) (a1 : Int32) (a2 : Int32) (a3 : Int32) (g0 : (FI 121 37).toInt ≤ (a3).toInt) (g1 : 0 ≤ (a2).toInt ∧ (a2).toInt ≤ 1) (g2 : 5 ≤ (a1).toInt ∧ (a1).toInt ≤ 8) (g3 : 0 ≤ (a3).toInt ∧ (a3).toInt ≤ 19200) (g4 : 0 ≤ (FI 121 37).toInt ∧ (FI 121 37).toInt ≤ 19200) (ai124 : h_ai 124 19200 0 255 FI) : hw sk base d none 168 0 [(0, .ref (base + 121)), (1, .int (a1)), (2, .int (a2)), (3, .int (a3))] [] (n, sl, SH, FI, FL, FR) (h_J (fun r s => ∃ FI' FL', s = (n, sl, SH, FI', FL', FR) ∧ h_fr FI FI' [37, 38] [] ∧ FL = FL' ∧ (((FI' 121 37)).toInt ≤ (a3).toInt) ∧ ((FI 121 37).toInt ≤ ((FI' 121 37)).toInt) ∧ (((FI' 121 37)).toInt ≤ (FI 121 37).toInt + 8) ∧ (((FI' 121 38)).toInt ≠ 0 → r.toInt = 0))) := by
  have rg_a1 := i_rng a1
  have rg_a2 := i_rng a2
  have rg_a3 := i_rng a3
  refine hw_aloadn (aX12_fixed 0 rfl) rfl ?_
  refine hw_get (v := .int (FI 121 38)) (aX12_fixed 1 rfl) wf_RX12_220 (c121 hS) (s121 hS) (by decide) (congrArg Value.int (show FI 121 38 = FI 121 38 from rfl)) ?_
  have e1 := i_rng (FI 121 38)
  refine hw_ifeq (tgt := 9) (aX12_fixed 2 rfl) (by decide) rfl (fun cd2 => ?_) (fun cd2 => ?_)
  · refine hw_aloadn (aX12_fixed 5 rfl) rfl ?_
    refine hw_get (v := .int (FI 121 37)) (aX12_fixed 6 rfl) wf_RX12_223 (c121 hS) (s121 hS) (by decide) (congrArg Value.int (show FI 121 37 = FI 121 37 from rfl)) ?_
    refine xw_iloadn (aX12_fixed 7 rfl) rfl ?_
    refine xw_iadd (aX12_fixed 8 rfl) ?_
    refine hw_tie (A := ((FI 121 37).toInt) + ((a1).toInt)) (i_add rfl rfl (by omega) (by omega)) (fun x3 e4 => ?_)
    refine xw_iloadn (aX12_fixed 9 rfl) rfl ?_
    refine hw_icle (tgt := 26) (aX12_fixed 10 rfl) (by decide) e4 rfl (fun cd5 => ?_) (fun cd5 => ?_)
    · refine hw_lc (v := (0 : Int64)) (aX12_fixed 16 rfl) (by decide) ?_
      refine xw_lstore (L2 := [(4, .long ((0 : Int64))), (0, .ref (base + 121)), (1, .int (a1)), (2, .int (a2)), (3, .int (a3))]) (aX12_fixed 17 rfl) (by decide) rfl ?_
      refine xw_iloadn (aX12_fixed 18 rfl) rfl ?_
      refine hw_ic (v := (1 : Int32)) (aX12_fixed 19 rfl) (by decide) ?_
      refine xw_isub (aX12_fixed 20 rfl) ?_
      refine hw_tie (A := ((a1).toInt) - (1)) (i_sub rfl (by decide : (1 : Int32).toInt = 1) (by omega) (by omega)) (fun x6 e7 => ?_)
      refine xw_istore (L2 := [(6, .int (x6)), (4, .long ((0 : Int64))), (0, .ref (base + 121)), (1, .int (a1)), (2, .int (a2)), (3, .int (a3))]) (aX12_fixed 21 rfl) (by decide) rfl ?_
      have lp8 : ∀ (m : Nat) (v : Int64) (i : Int32) , (-1 ≤ (i).toInt) → ((i).toInt < (a1).toInt) → (i).toInt + 1 < m → hw sk base d none 168 34 [(6, .int (i)), (4, .long (v)), (0, .ref (base + 121)), (1, .int (a1)), (2, .int (a2))] [] (n, sl, SH, FI, FL, FR) (h_J (fun r s => ∃ FI' FL', s = (n, sl, SH, FI', FL', FR) ∧ h_fr FI FI' [37, 38] [] ∧ FL = FL' ∧ (((FI' 121 37)).toInt ≤ (a3).toInt) ∧ ((FI 121 37).toInt ≤ ((FI' 121 37)).toInt) ∧ (((FI' 121 37)).toInt ≤ (FI 121 37).toInt + 8) ∧ (((FI' 121 38)).toInt ≠ 0 → r.toInt = 0))) := by
        intro m
        induction m with
        | zero => intro v i  iv9 iv10 hm; omega
        | succ m ih =>
          intro v i  iv9 iv10 hm
          have rg_v := l_rng v
          have rg_i := i_rng i
          refine xw_iload (aX12_fixed 22 rfl) rfl ?_
          refine hw_iflt (tgt := 66) (aX12_fixed 23 rfl) (by decide) rfl (fun cd11 => ?_) (fun cd11 => ?_)
          · refine hw_aloadn (aX12_fixed 39 rfl) rfl ?_
            refine hw_aloadn (aX12_fixed 40 rfl) rfl ?_
            refine hw_get (v := .int (FI 121 37)) (aX12_fixed 41 rfl) wf_RX12_223 (c121 hS) (s121 hS) (by decide) (congrArg Value.int (show FI 121 37 = FI 121 37 from rfl)) ?_
            refine xw_iloadn (aX12_fixed 42 rfl) rfl ?_
            refine xw_iadd (aX12_fixed 43 rfl) ?_
            refine hw_tie (A := ((FI 121 37).toInt) + ((a1).toInt)) (i_add rfl rfl (by omega) (by omega)) (fun x12 e13 => ?_)
            refine hw_puti (aX12_fixed 44 rfl) wf_RX12_223 (c121 hS) (s121 hS) (by decide) rfl rfl ?_
            refine xw_iloadn (aX12_fixed 45 rfl) rfl ?_
            refine hw_ifeq (tgt := 107) (aX12_fixed 46 rfl) (by decide) rfl (fun cd14 => ?_) (fun cd14 => ?_)
            · refine xw_lload (aX12_fixed 64 rfl) rfl ?_
              refine xw_lret (aX12_fixed 65 rfl) rfl ?_
              have e15 : (v).toInt = (v).toInt := rfl
              have e16 : (x12).toInt = ((FI 121 37).toInt) + ((a1).toInt) := e13
              exact ⟨v, rfl, _, _, rfl, (fr_up fr_rf (by decide)), rfl, (by show ((x12)).toInt ≤ (a3).toInt; omega), (by show (FI 121 37).toInt ≤ ((x12)).toInt; omega), (by show ((x12)).toInt ≤ (FI 121 37).toInt + 8; omega), (by show ((FI 121 38)).toInt ≠ 0 → (v).toInt = 0; omega)⟩
            · refine xw_iloadn (aX12_fixed 47 rfl) rfl ?_
              refine hw_bp (v := (8 : Int32)) (aX12_fixed 48 rfl) (by decide) ?_
              refine hw_icge (tgt := 107) (aX12_fixed 49 rfl) (by decide) rfl (by decide : (8 : Int32).toInt = 8) (fun cd17 => ?_) (fun cd17 => ?_)
              · refine xw_lload (aX12_fixed 64 rfl) rfl ?_
                refine xw_lret (aX12_fixed 65 rfl) rfl ?_
                have e18 : (v).toInt = (v).toInt := rfl
                have e19 : (x12).toInt = ((FI 121 37).toInt) + ((a1).toInt) := e13
                exact ⟨v, rfl, _, _, rfl, (fr_up fr_rf (by decide)), rfl, (by show ((x12)).toInt ≤ (a3).toInt; omega), (by show (FI 121 37).toInt ≤ ((x12)).toInt; omega), (by show ((x12)).toInt ≤ (FI 121 37).toInt + 8; omega), (by show ((FI 121 38)).toInt ≠ 0 → (v).toInt = 0; omega)⟩
              · refine xw_lload (aX12_fixed 50 rfl) rfl ?_
                refine hw_bp (v := (64 : Int32)) (aX12_fixed 51 rfl) (by decide) ?_
                refine hw_bp (v := (8 : Int32)) (aX12_fixed 52 rfl) (by decide) ?_
                refine xw_iloadn (aX12_fixed 53 rfl) rfl ?_
                refine xw_imul (aX12_fixed 54 rfl) ?_
                refine hw_tie (A := (8) * ((a1).toInt)) (i_mul (by decide : (8 : Int32).toInt = 8) rfl (by omega) (by omega)) (fun x20 e21 => ?_)
                refine xw_isub (aX12_fixed 55 rfl) ?_
                refine hw_tie (A := (64) - ((8) * ((a1).toInt))) (i_sub (by decide : (64 : Int32).toInt = 64) e21 (by omega) (by omega)) (fun x22 e23 => ?_)
                refine xw_lshl (aX12_fixed 56 rfl) ?_
                refine hw_tl (fun x24 => ?_)
                have b25 := l_rng x24
                refine hw_bp (v := (64 : Int32)) (aX12_fixed 57 rfl) (by decide) ?_
                refine hw_bp (v := (8 : Int32)) (aX12_fixed 58 rfl) (by decide) ?_
                refine xw_iloadn (aX12_fixed 59 rfl) rfl ?_
                refine xw_imul (aX12_fixed 60 rfl) ?_
                refine hw_tie (A := (8) * ((a1).toInt)) (i_mul (by decide : (8 : Int32).toInt = 8) rfl (by omega) (by omega)) (fun x26 e27 => ?_)
                refine xw_isub (aX12_fixed 61 rfl) ?_
                refine hw_tie (A := (64) - ((8) * ((a1).toInt))) (i_sub (by decide : (64 : Int32).toInt = 64) e27 (by omega) (by omega)) (fun x28 e29 => ?_)
                refine xw_lshr (aX12_fixed 62 rfl) ?_
                refine hw_tl (fun x30 => ?_)
                have b31 := l_rng x30
                refine xw_goto (tgt := 109) (aX12_fixed 63 rfl) (by decide) ?_
                refine xw_lret (aX12_fixed 65 rfl) rfl ?_
                have e32 : (x30).toInt = (x30).toInt := rfl
                have e33 : (x12).toInt = ((FI 121 37).toInt) + ((a1).toInt) := e13
                exact ⟨x30, rfl, _, _, rfl, (fr_up fr_rf (by decide)), rfl, (by show ((x12)).toInt ≤ (a3).toInt; omega), (by show (FI 121 37).toInt ≤ ((x12)).toInt; omega), (by show ((x12)).toInt ≤ (FI 121 37).toInt + 8; omega), (by show ((FI 121 38)).toInt ≠ 0 → (x30).toInt = 0; omega)⟩
          · refine xw_lload (aX12_fixed 24 rfl) rfl ?_
            refine hw_bp (v := (8 : Int32)) (aX12_fixed 25 rfl) (by decide) ?_
            refine xw_lshl (aX12_fixed 26 rfl) ?_
            refine hw_tl (fun x34 => ?_)
            have b35 := l_rng x34
            refine hw_aloadn (aX12_fixed 27 rfl) rfl ?_
            refine hw_get (v := .ref (base + 124)) (aX12_fixed 28 rfl) wf_RX12_17 (c121 hS) (s121 hS) (by decide) (congrArg (fun r => va_rf (h_rf base r)) (r121_3 hF)) ?_
            refine hw_aloadn (aX12_fixed 29 rfl) rfl ?_
            refine hw_get (v := .int (FI 121 37)) (aX12_fixed 30 rfl) wf_RX12_223 (c121 hS) (s121 hS) (by decide) (congrArg Value.int (show FI 121 37 = FI 121 37 from rfl)) ?_
            refine xw_iload (aX12_fixed 31 rfl) rfl ?_
            refine xw_iadd (aX12_fixed 32 rfl) ?_
            refine hw_tie (A := ((FI 121 37).toInt) + ((i).toInt)) (i_add rfl rfl (by omega) (by omega)) (fun x36 e37 => ?_)
            refine hw_iald (v := FI 124 (x36).toNatClampNeg) (aX12_fixed 33 rfl) (c124 hS) (s124 hS) (h_in e37 (by omega) (by omega)) rfl ?_
            have e38 : 0 ≤ (FI 124 (x36).toNatClampNeg).toInt ∧ (FI 124 (x36).toNatClampNeg).toInt ≤ 255 := ai_at ai124 e37 (by omega) (by omega)
            refine xw_i2l (aX12_fixed 34 rfl) ?_
            refine hw_tle (A := (FI 124 (x36).toNatClampNeg).toInt) (i_2l rfl) (fun x39 e40 => ?_)
            refine xw_lor (aX12_fixed 35 rfl) ?_
            refine hw_tl (fun x41 => ?_)
            have b42 := l_rng x41
            refine xw_lstore (L2 := [(4, .long (x41)), (6, .int (i)), (0, .ref (base + 121)), (1, .int (a1)), (2, .int (a2))]) (aX12_fixed 36 rfl) (by decide) rfl ?_
            obtain ⟨x43, q45⟩ : ∃ y : Int32, i + Int32.ofInt (-1) = y := ⟨_, rfl⟩
            have e44 : (x43).toInt = (i).toInt + (-1) := by rw [← q45]; exact i_add rfl (by decide) (by omega) (by omega)
            refine xw_iinc (L2 := [(6, .int (x43)), (4, .long (x41)), (0, .ref (base + 121)), (1, .int (a1)), (2, .int (a2))]) (aX12_fixed 37 rfl) rfl (by decide) (by rw [q45]; rfl) ?_
            refine xw_goto (tgt := 34) (aX12_fixed 38 rfl) (by decide) ?_
            exact hw_L (ih (x41) (x43) (by have := (e44 : (x43).toInt = (i).toInt + (-1)); show -1 ≤ ((x43)).toInt; omega) (by have := (e44 : (x43).toInt = (i).toInt + (-1)); show ((x43)).toInt < (a1).toInt; omega) (by have := (e44 : (x43).toInt = (i).toInt + (-1)); show ((x43)).toInt + 1 < _; omega)) ⟨rfl, rfl, rfl, rfl, rfl, trivial⟩
      exact hw_L (lp8 ((((x6)).toInt + 1).toNat + 1) ((0 : Int64)) (x6) (by have := ((by decide : (0 : Int64).toInt = 0) : ((0 : Int64)).toInt = 0); have := (e7 : (x6).toInt = ((a1).toInt) - (1)); show -1 ≤ ((x6)).toInt; omega) (by have := ((by decide : (0 : Int64).toInt = 0) : ((0 : Int64)).toInt = 0); have := (e7 : (x6).toInt = ((a1).toInt) - (1)); show ((x6)).toInt < (a1).toInt; omega) (by have := ((by decide : (0 : Int64).toInt = 0) : ((0 : Int64)).toInt = 0); have := (e7 : (x6).toInt = ((a1).toInt) - (1)); show ((x6)).toInt + 1 < _; omega)) ⟨rfl, rfl, rfl, rfl, rfl, trivial⟩
    · refine hw_aloadn (aX12_fixed 11 rfl) rfl ?_
      refine hw_ic (v := (1 : Int32)) (aX12_fixed 12 rfl) (by decide) ?_
      refine hw_puti (aX12_fixed 13 rfl) wf_RX12_220 (c121 hS) (s121 hS) (by decide) rfl rfl ?_
      refine hw_lc (v := (0 : Int64)) (aX12_fixed 14 rfl) (by decide) ?_
      refine xw_lret (aX12_fixed 15 rfl) rfl ?_
      have e46 : ((0 : Int64)).toInt = 0 := (by decide : (0 : Int64).toInt = 0)
      have e47 : ((1 : Int32)).toInt = 1 := (by decide : (1 : Int32).toInt = 1)
      exact ⟨(0 : Int64), rfl, _, _, rfl, (fr_up fr_rf (by decide)), rfl, (by show ((FI 121 37)).toInt ≤ (a3).toInt; omega), (by show (FI 121 37).toInt ≤ ((FI 121 37)).toInt; omega), (by show ((FI 121 37)).toInt ≤ (FI 121 37).toInt + 8; omega), (by show (((1 : Int32))).toInt ≠ 0 → ((0 : Int64)).toInt = 0; omega)⟩
  · refine hw_lc (v := (0 : Int64)) (aX12_fixed 3 rfl) (by decide) ?_
    refine xw_lret (aX12_fixed 4 rfl) rfl ?_
    have e48 : ((0 : Int64)).toInt = 0 := (by decide : (0 : Int64).toInt = 0)
    exact ⟨(0 : Int64), rfl, _, _, rfl, fr_rf, rfl, (by show ((FI 121 37)).toInt ≤ (a3).toInt; omega), (by show (FI 121 37).toInt ≤ ((FI 121 37)).toInt; omega), (by show ((FI 121 37)).toInt ≤ (FI 121 37).toInt + 8; omega), (by show ((FI 121 38)).toInt ≠ 0 → ((0 : Int64)).toInt = 0; omega)⟩
def nX12_leb : Nat := 0xad09dc00b50f102a94ffa7ad214281796805150710e20014210f00997e401006151700a2401068051507102100991b2700a280001106150536600405154281796805150710857e7f10061521df00b56004df00b42a2a06362edf00b42a1100b42aad09dc00b5042a0a00a11cdf00b42a6b00a20a1005150536034209ad09050099dc00b42a
theorem bX12_leb : cX12_leb.data.toList.map UInt8.toNat = x_un nX12_leb 133 := by decide +kernel
def iX12_leb : List (Nat × Jvm.ClassFile.Instr × Nat) := [(0, .aload_n 0, 1), (1, .getfield 220, 3), (4, .ifCond .eq 5, 3), (7, .lconst 0, 1), (8, .lreturn, 1), (9, .lconst 0, 1), (10, .lstore_n 3, 1), (11, .iconst 0, 1), (12, .istore 5, 2), (14, .iload 5, 2), (16, .bipush 10, 2), (18, .if_icmp .ge 107, 3), (21, .aload_n 0, 1), (22, .getfield 223, 3), (25, .iload_n 2, 1), (26, .if_icmp .lt 10, 3), (29, .aload_n 0, 1), (30, .iconst 1, 1), (31, .putfield 220, 3), (34, .lconst 0, 1), (35, .lreturn, 1), (36, .aload_n 0, 1), (37, .getfield 17, 3), (40, .aload_n 0, 1), (41, .getfield 223, 3), (44, .iaload, 1), (45, .istore 6, 2), (47, .aload_n 0, 1), (48, .aload_n 0, 1), (49, .getfield 223, 3), (52, .iconst 1, 1), (53, .iadd, 1), (54, .putfield 223, 3), (57, .lload_n 3, 1), (58, .iload 6, 2), (60, .bipush 127, 2), (62, .iand, 1), (63, .i2l, 1), (64, .bipush 7, 2), (66, .iload 5, 2), (68, .imul, 1), (69, .lshl, 1), (70, .lor, 1), (71, .lstore_n 3, 1), (72, .iload 5, 2), (74, .iconst 1, 1), (75, .iadd, 1), (76, .istore 5, 2), (78, .iload 6, 2), (80, .sipush 128, 3), (83, .if_icmp .ge 39, 3), (86, .iload_n 1, 1), (87, .ifCond .eq 33, 3), (90, .bipush 7, 2), (92, .iload 5, 2), (94, .imul, 1), (95, .bipush 64, 2), (97, .if_icmp .ge 23, 3), (100, .iload 6, 2), (102, .bipush 64, 2), (104, .iand, 1), (105, .ifCond .eq 15, 3), (108, .lload_n 3, 1), (109, .ldc2_w 226, 3), (112, .bipush 7, 2), (114, .iload 5, 2), (116, .imul, 1), (117, .lshl, 1), (118, .lor, 1), (119, .lstore_n 3, 1), (120, .lload_n 3, 1), (121, .lreturn, 1), (122, .goto (-108), 3), (125, .aload_n 0, 1), (126, .bipush 15, 2), (128, .putfield 220, 3), (131, .lconst 0, 1), (132, .lreturn, 1)]
theorem dX12_leb : x_il nX12_leb 133 iX12_leb = true := by decide +kernel
theorem aX12_leb (k : Nat) {pc : Nat} {i : Jvm.ClassFile.Instr} {len : Nat} (hk : iX12_leb[k]? = some (pc, i, len)) : x_at xMM 169 pc i len yX12_leb 7 (some .long) := ⟨cX12_leb, rfl, x_il_ok bX12_leb dX12_leb k hk⟩
set_option maxHeartbeats 4000000 in
set_option maxRecDepth 100000 in
theorem m_leb {sk : xK} {base d n sl : Nat} {SH : Nat → Nat × Nat} {FI : Nat → Nat → Int32} {FL : Nat → Nat → Int64} {FR : Nat → Nat → Option Nat} (hS : h_S n SH) (hF : h_FR FR) (a1 : Int32) (a2 : Int32) (g0 : (FI 121 37).toInt ≤ (a2).toInt) (g1 : 0 ≤ (a1).toInt ∧ (a1).toInt ≤ 1) (g2 : 0 ≤ (a2).toInt ∧ (a2).toInt ≤ 19200) (g3 : 0 ≤ (FI 121 37).toInt ∧ (FI 121 37).toInt ≤ 19200) (ai124 : h_ai 124 19200 0 255 FI) : hw sk base d none 169 0 [(0, .ref (base + 121)), (1, .int (a1)), (2, .int (a2))] [] (n, sl, SH, FI, FL, FR) (h_J (fun r s => ∃ FI' FL', s = (n, sl, SH, FI', FL', FR) ∧ h_fr FI FI' [37, 38] [] ∧ FL = FL' ∧ (((FI' 121 37)).toInt ≤ (a2).toInt) ∧ ((FI 121 37).toInt ≤ ((FI' 121 37)).toInt) ∧ (((FI' 121 37)).toInt ≤ (FI 121 37).toInt + 10))) := by
  have rg_a1 := i_rng a1
  have rg_a2 := i_rng a2
  refine hw_aloadn (aX12_leb 0 rfl) rfl ?_
  refine hw_get (v := .int (FI 121 38)) (aX12_leb 1 rfl) wf_RX12_220 (c121 hS) (s121 hS) (by decide) (congrArg Value.int (show FI 121 38 = FI 121 38 from rfl)) ?_
  have e1 := i_rng (FI 121 38)
  refine hw_ifeq (tgt := 9) (aX12_leb 2 rfl) (by decide) rfl (fun cd2 => ?_) (fun cd2 => ?_)
  · refine hw_lc (v := (0 : Int64)) (aX12_leb 5 rfl) (by decide) ?_
    refine xw_lstoren (L2 := [(3, .long ((0 : Int64))), (0, .ref (base + 121)), (1, .int (a1)), (2, .int (a2))]) (aX12_leb 6 rfl) (by decide) rfl ?_
    refine hw_ic (v := (0 : Int32)) (aX12_leb 7 rfl) (by decide) ?_
    refine xw_istore (L2 := [(5, .int ((0 : Int32))), (3, .long ((0 : Int64))), (0, .ref (base + 121)), (1, .int (a1)), (2, .int (a2))]) (aX12_leb 8 rfl) (by decide) rfl ?_
    have lp3 : ∀ (m : Nat) (v : Int64) (k : Int32) (FIv4 : Nat → Nat → Int32), (h_fr FI FIv4 [37, 38] []) → (0 ≤ (k).toInt) → ((k).toInt ≤ 10) → ((FI 121 37).toInt ≤ ((FIv4 121 37)).toInt) → (((FIv4 121 37)).toInt ≤ (FI 121 37).toInt + (k).toInt) → (((FIv4 121 37)).toInt ≤ (a2).toInt) → 10 - (k).toInt < m → hw sk base d none 169 14 [(5, .int (k)), (3, .long (v)), (0, .ref (base + 121)), (1, .int (a1)), (2, .int (a2))] [] (n, sl, SH, FIv4, FL, FR) (h_J (fun r s => ∃ FI' FL', s = (n, sl, SH, FI', FL', FR) ∧ h_fr FI FI' [37, 38] [] ∧ FL = FL' ∧ (((FI' 121 37)).toInt ≤ (a2).toInt) ∧ ((FI 121 37).toInt ≤ ((FI' 121 37)).toInt) ∧ (((FI' 121 37)).toInt ≤ (FI 121 37).toInt + 10))) := by
      intro m
      induction m with
      | zero => intro v k FIv4 frI iv5 iv6 iv7 iv8 iv9 hm; omega
      | succ m ih =>
        intro v k FIv4 frI iv5 iv6 iv7 iv8 iv9 hm
        have rg_v := l_rng v
        have rg_k := i_rng k
        refine xw_iload (aX12_leb 9 rfl) rfl ?_
        refine hw_bp (v := (10 : Int32)) (aX12_leb 10 rfl) (by decide) ?_
        refine hw_icge (tgt := 125) (aX12_leb 11 rfl) (by decide) rfl (by decide : (10 : Int32).toInt = 10) (fun cd10 => ?_) (fun cd10 => ?_)
        · refine hw_aloadn (aX12_leb 73 rfl) rfl ?_
          refine hw_bp (v := (15 : Int32)) (aX12_leb 74 rfl) (by decide) ?_
          refine hw_puti (aX12_leb 75 rfl) wf_RX12_220 (c121 hS) (s121 hS) (by decide) rfl rfl ?_
          refine hw_lc (v := (0 : Int64)) (aX12_leb 76 rfl) (by decide) ?_
          refine xw_lret (aX12_leb 77 rfl) rfl ?_
          have e11 : ((0 : Int64)).toInt = 0 := (by decide : (0 : Int64).toInt = 0)
          exact ⟨(0 : Int64), rfl, _, _, rfl, (fr_up frI (by decide)), rfl, (by show ((FIv4 121 37)).toInt ≤ (a2).toInt; omega), (by show (FI 121 37).toInt ≤ ((FIv4 121 37)).toInt; omega), (by show ((FIv4 121 37)).toInt ≤ (FI 121 37).toInt + 10; omega)⟩
        · refine hw_aloadn (aX12_leb 12 rfl) rfl ?_
          refine hw_get (v := .int (FIv4 121 37)) (aX12_leb 13 rfl) wf_RX12_223 (c121 hS) (s121 hS) (by decide) (congrArg Value.int (show FIv4 121 37 = FIv4 121 37 from rfl)) ?_
          refine xw_iloadn (aX12_leb 14 rfl) rfl ?_
          refine hw_iclt (tgt := 36) (aX12_leb 15 rfl) (by decide) rfl rfl (fun cd12 => ?_) (fun cd12 => ?_)
          · refine hw_aloadn (aX12_leb 21 rfl) rfl ?_
            refine hw_get (v := .ref (base + 124)) (aX12_leb 22 rfl) wf_RX12_17 (c121 hS) (s121 hS) (by decide) (congrArg (fun r => va_rf (h_rf base r)) (r121_3 hF)) ?_
            refine hw_aloadn (aX12_leb 23 rfl) rfl ?_
            refine hw_get (v := .int (FIv4 121 37)) (aX12_leb 24 rfl) wf_RX12_223 (c121 hS) (s121 hS) (by decide) (congrArg Value.int (show FIv4 121 37 = FIv4 121 37 from rfl)) ?_
            refine hw_iald (v := FIv4 124 (FIv4 121 37).toNatClampNeg) (aX12_leb 25 rfl) (c124 hS) (s124 hS) (h_in rfl (by omega) (by omega)) rfl ?_
            refine hw_ti (fun x13 => ?_)
            have b14 := i_rng x13
            refine xw_istore (L2 := [(6, .int (x13)), (5, .int (k)), (3, .long (v)), (0, .ref (base + 121)), (1, .int (a1)), (2, .int (a2))]) (aX12_leb 26 rfl) (by decide) rfl ?_
            refine hw_aloadn (aX12_leb 27 rfl) rfl ?_
            refine hw_aloadn (aX12_leb 28 rfl) rfl ?_
            refine hw_get (v := .int (FIv4 121 37)) (aX12_leb 29 rfl) wf_RX12_223 (c121 hS) (s121 hS) (by decide) (congrArg Value.int (show FIv4 121 37 = FIv4 121 37 from rfl)) ?_
            refine hw_ic (v := (1 : Int32)) (aX12_leb 30 rfl) (by decide) ?_
            refine xw_iadd (aX12_leb 31 rfl) ?_
            refine hw_tie (A := ((FIv4 121 37).toInt) + (1)) (i_add rfl (by decide : (1 : Int32).toInt = 1) (by omega) (by omega)) (fun x15 e16 => ?_)
            refine hw_puti (aX12_leb 32 rfl) wf_RX12_223 (c121 hS) (s121 hS) (by decide) rfl rfl ?_
            refine xw_lloadn (aX12_leb 33 rfl) rfl ?_
            refine xw_iload (aX12_leb 34 rfl) rfl ?_
            refine hw_bp (v := (127 : Int32)) (aX12_leb 35 rfl) (by decide) ?_
            refine xw_iand (aX12_leb 36 rfl) ?_
            refine hw_tib (lo := 0) (hi := 127) (i_and (x := x13) (m := (127 : Int32)) (M := 127) (by decide) (by decide)) (fun x17 b18 => ?_)
            refine xw_i2l (aX12_leb 37 rfl) ?_
            refine hw_tle (A := (x17).toInt) (i_2l rfl) (fun x19 e20 => ?_)
            refine hw_bp (v := (7 : Int32)) (aX12_leb 38 rfl) (by decide) ?_
            refine xw_iload (aX12_leb 39 rfl) rfl ?_
            refine xw_imul (aX12_leb 40 rfl) ?_
            refine hw_tie (A := (7) * ((k).toInt)) (i_mul (by decide : (7 : Int32).toInt = 7) rfl (by omega) (by omega)) (fun x21 e22 => ?_)
            refine xw_lshl (aX12_leb 41 rfl) ?_
            refine hw_tl (fun x23 => ?_)
            have b24 := l_rng x23
            refine xw_lor (aX12_leb 42 rfl) ?_
            refine hw_tl (fun x25 => ?_)
            have b26 := l_rng x25
            refine xw_lstoren (L2 := [(3, .long (x25)), (6, .int (x13)), (5, .int (k)), (0, .ref (base + 121)), (1, .int (a1)), (2, .int (a2))]) (aX12_leb 43 rfl) (by decide) rfl ?_
            refine xw_iload (aX12_leb 44 rfl) rfl ?_
            refine hw_ic (v := (1 : Int32)) (aX12_leb 45 rfl) (by decide) ?_
            refine xw_iadd (aX12_leb 46 rfl) ?_
            refine hw_tie (A := ((k).toInt) + (1)) (i_add rfl (by decide : (1 : Int32).toInt = 1) (by omega) (by omega)) (fun x27 e28 => ?_)
            refine xw_istore (L2 := [(5, .int (x27)), (3, .long (x25)), (6, .int (x13)), (0, .ref (base + 121)), (1, .int (a1)), (2, .int (a2))]) (aX12_leb 47 rfl) (by decide) rfl ?_
            refine xw_iload (aX12_leb 48 rfl) rfl ?_
            refine hw_sp (v := (128 : Int32)) (aX12_leb 49 rfl) (by decide) ?_
            refine hw_icge (tgt := 122) (aX12_leb 50 rfl) (by decide) rfl (by decide : (128 : Int32).toInt = 128) (fun cd29 => ?_) (fun cd29 => ?_)
            · refine xw_goto (tgt := 14) (aX12_leb 72 rfl) (by decide) ?_
              exact hw_L (ih (x25) (x27) (h_up FIv4 121 37 (x15)) (fr_up frI (by decide)) (by have := (e28 : (x27).toInt = ((k).toInt) + (1)); show 0 ≤ ((x27)).toInt; omega) (by have := (e28 : (x27).toInt = ((k).toInt) + (1)); show ((x27)).toInt ≤ 10; omega) (by have := (e28 : (x27).toInt = ((k).toInt) + (1)); have := (e16 : (x15).toInt = ((FIv4 121 37).toInt) + (1)); show (FI 121 37).toInt ≤ ((x15)).toInt; omega) (by have := (e28 : (x27).toInt = ((k).toInt) + (1)); have := (e16 : (x15).toInt = ((FIv4 121 37).toInt) + (1)); show ((x15)).toInt ≤ (FI 121 37).toInt + ((x27)).toInt; omega) (by have := (e28 : (x27).toInt = ((k).toInt) + (1)); have := (e16 : (x15).toInt = ((FIv4 121 37).toInt) + (1)); show ((x15)).toInt ≤ (a2).toInt; omega) (by have := (e28 : (x27).toInt = ((k).toInt) + (1)); show 10 - ((x27)).toInt < _; omega)) ⟨rfl, rfl, rfl, rfl, rfl, trivial⟩
            · refine xw_iloadn (aX12_leb 51 rfl) rfl ?_
              refine hw_ifeq (tgt := 120) (aX12_leb 52 rfl) (by decide) rfl (fun cd30 => ?_) (fun cd30 => ?_)
              · refine xw_lloadn (aX12_leb 70 rfl) rfl ?_
                refine xw_lret (aX12_leb 71 rfl) rfl ?_
                have e31 : (x25).toInt = (x25).toInt := rfl
                have e32 : (x15).toInt = ((FIv4 121 37).toInt) + (1) := e16
                exact ⟨x25, rfl, _, _, rfl, (fr_up frI (by decide)), rfl, (by show ((x15)).toInt ≤ (a2).toInt; omega), (by show (FI 121 37).toInt ≤ ((x15)).toInt; omega), (by show ((x15)).toInt ≤ (FI 121 37).toInt + 10; omega)⟩
              · refine hw_bp (v := (7 : Int32)) (aX12_leb 53 rfl) (by decide) ?_
                refine xw_iload (aX12_leb 54 rfl) rfl ?_
                refine xw_imul (aX12_leb 55 rfl) ?_
                refine hw_tie (A := (7) * (((k).toInt) + (1))) (i_mul (by decide : (7 : Int32).toInt = 7) e28 (by omega) (by omega)) (fun x33 e34 => ?_)
                refine hw_bp (v := (64 : Int32)) (aX12_leb 56 rfl) (by decide) ?_
                refine hw_icge (tgt := 120) (aX12_leb 57 rfl) (by decide) e34 (by decide : (64 : Int32).toInt = 64) (fun cd35 => ?_) (fun cd35 => ?_)
                · refine xw_lloadn (aX12_leb 70 rfl) rfl ?_
                  refine xw_lret (aX12_leb 71 rfl) rfl ?_
                  have e36 : (x25).toInt = (x25).toInt := rfl
                  have e37 : (x15).toInt = ((FIv4 121 37).toInt) + (1) := e16
                  exact ⟨x25, rfl, _, _, rfl, (fr_up frI (by decide)), rfl, (by show ((x15)).toInt ≤ (a2).toInt; omega), (by show (FI 121 37).toInt ≤ ((x15)).toInt; omega), (by show ((x15)).toInt ≤ (FI 121 37).toInt + 10; omega)⟩
                · refine xw_iload (aX12_leb 58 rfl) rfl ?_
                  refine hw_bp (v := (64 : Int32)) (aX12_leb 59 rfl) (by decide) ?_
                  refine xw_iand (aX12_leb 60 rfl) ?_
                  refine hw_tib (lo := 0) (hi := 64) (i_and (x := x13) (m := (64 : Int32)) (M := 64) (by decide) (by decide)) (fun x38 b39 => ?_)
                  refine hw_ifeq (tgt := 120) (aX12_leb 61 rfl) (by decide) rfl (fun cd40 => ?_) (fun cd40 => ?_)
                  · refine xw_lloadn (aX12_leb 70 rfl) rfl ?_
                    refine xw_lret (aX12_leb 71 rfl) rfl ?_
                    have e41 : (x25).toInt = (x25).toInt := rfl
                    have e42 : (x15).toInt = ((FIv4 121 37).toInt) + (1) := e16
                    exact ⟨x25, rfl, _, _, rfl, (fr_up frI (by decide)), rfl, (by show ((x15)).toInt ≤ (a2).toInt; omega), (by show (FI 121 37).toInt ≤ ((x15)).toInt; omega), (by show ((x15)).toInt ≤ (FI 121 37).toInt + 10; omega)⟩
                  · refine xw_lloadn (aX12_leb 62 rfl) rfl ?_
                    refine xw_ldc2 (aX12_leb 63 rfl) wk_RX12_226 ?_
                    refine hw_bp (v := (7 : Int32)) (aX12_leb 64 rfl) (by decide) ?_
                    refine xw_iload (aX12_leb 65 rfl) rfl ?_
                    refine xw_imul (aX12_leb 66 rfl) ?_
                    refine hw_tie (A := (7) * (((k).toInt) + (1))) (i_mul (by decide : (7 : Int32).toInt = 7) e28 (by omega) (by omega)) (fun x43 e44 => ?_)
                    refine xw_lshl (aX12_leb 67 rfl) ?_
                    refine hw_tl (fun x45 => ?_)
                    have b46 := l_rng x45
                    refine xw_lor (aX12_leb 68 rfl) ?_
                    refine hw_tl (fun x47 => ?_)
                    have b48 := l_rng x47
                    refine xw_lstoren (L2 := [(3, .long (x47)), (5, .int (x27)), (6, .int (x13)), (0, .ref (base + 121)), (1, .int (a1)), (2, .int (a2))]) (aX12_leb 69 rfl) (by decide) rfl ?_
                    refine xw_lloadn (aX12_leb 70 rfl) rfl ?_
                    refine xw_lret (aX12_leb 71 rfl) rfl ?_
                    have e49 : (x47).toInt = (x47).toInt := rfl
                    have e50 : (x15).toInt = ((FIv4 121 37).toInt) + (1) := e16
                    exact ⟨x47, rfl, _, _, rfl, (fr_up frI (by decide)), rfl, (by show ((x15)).toInt ≤ (a2).toInt; omega), (by show (FI 121 37).toInt ≤ ((x15)).toInt; omega), (by show ((x15)).toInt ≤ (FI 121 37).toInt + 10; omega)⟩
          · refine hw_aloadn (aX12_leb 16 rfl) rfl ?_
            refine hw_ic (v := (1 : Int32)) (aX12_leb 17 rfl) (by decide) ?_
            refine hw_puti (aX12_leb 18 rfl) wf_RX12_220 (c121 hS) (s121 hS) (by decide) rfl rfl ?_
            refine hw_lc (v := (0 : Int64)) (aX12_leb 19 rfl) (by decide) ?_
            refine xw_lret (aX12_leb 20 rfl) rfl ?_
            have e51 : ((0 : Int64)).toInt = 0 := (by decide : (0 : Int64).toInt = 0)
            exact ⟨(0 : Int64), rfl, _, _, rfl, (fr_up frI (by decide)), rfl, (by show ((FIv4 121 37)).toInt ≤ (a2).toInt; omega), (by show (FI 121 37).toInt ≤ ((FIv4 121 37)).toInt; omega), (by show ((FIv4 121 37)).toInt ≤ (FI 121 37).toInt + 10; omega)⟩
    exact hw_L (lp3 ((10 - (((0 : Int32))).toInt).toNat + 1) ((0 : Int64)) ((0 : Int32)) (FI) fr_rf (by have := ((by decide : (0 : Int64).toInt = 0) : ((0 : Int64)).toInt = 0); have := ((by decide : (0 : Int32).toInt = 0) : ((0 : Int32)).toInt = 0); show 0 ≤ (((0 : Int32))).toInt; omega) (by have := ((by decide : (0 : Int64).toInt = 0) : ((0 : Int64)).toInt = 0); have := ((by decide : (0 : Int32).toInt = 0) : ((0 : Int32)).toInt = 0); show (((0 : Int32))).toInt ≤ 10; omega) (by have := ((by decide : (0 : Int64).toInt = 0) : ((0 : Int64)).toInt = 0); have := ((by decide : (0 : Int32).toInt = 0) : ((0 : Int32)).toInt = 0); show (FI 121 37).toInt ≤ ((FI 121 37)).toInt; omega) (by have := ((by decide : (0 : Int64).toInt = 0) : ((0 : Int64)).toInt = 0); have := ((by decide : (0 : Int32).toInt = 0) : ((0 : Int32)).toInt = 0); show ((FI 121 37)).toInt ≤ (FI 121 37).toInt + (((0 : Int32))).toInt; omega) (by have := ((by decide : (0 : Int64).toInt = 0) : ((0 : Int64)).toInt = 0); have := ((by decide : (0 : Int32).toInt = 0) : ((0 : Int32)).toInt = 0); show ((FI 121 37)).toInt ≤ (a2).toInt; omega) (by have := ((by decide : (0 : Int64).toInt = 0) : ((0 : Int64)).toInt = 0); have := ((by decide : (0 : Int32).toInt = 0) : ((0 : Int32)).toInt = 0); show 10 - (((0 : Int32))).toInt < _; omega)) ⟨rfl, rfl, rfl, rfl, rfl, trivial⟩
  · refine hw_lc (v := (0 : Int64)) (aX12_leb 3 rfl) (by decide) ?_
    refine xw_lret (aX12_leb 4 rfl) rfl ?_
    have e52 : ((0 : Int64)).toInt = 0 := (by decide : (0 : Int64).toInt = 0)
    exact ⟨(0 : Int64), rfl, _, _, rfl, fr_rf, rfl, (by show ((FI 121 37)).toInt ≤ (a2).toInt; omega), (by show (FI 121 37).toInt ≤ ((FI 121 37)).toInt; omega), (by show ((FI 121 37)).toInt ≤ (FI 121 37).toInt + 10; omega)⟩
def nX12_operands : Nat := 0xb1df00b56088e400b42adf00b42a2ae700b585df00b42a2a1a009adc00b42adc00b5042a08009e948564df00b42a1ce400b42a12009b9409e400b42a20009adc00b42ae400b5ee00b61c032a2a4f00a09e00111b5600a7e700b5ee00b61c032a2ae400b5ee00b61c032a2a1a00a09d00111b7400a7e700b5ee00b61c042a2ae400b5ee00b61c032a2a1a00a09200111b9200a7e400b5ee00b61c042a2a1000a09100111b0a00a48f00111b0a00a170101b17009f11101bb900a7e400b5ee00b61c032a2a1000a09300111b0a009f9000111b11009f23101b17009f10101be000a7e400b5ea00b61c04072a2a1100a00d101bf400a7e400b5ea00b61c03072a2a1100a09900111b0a009f0c101b0f01a7e400b5ea00b61c04052a2a1100a02f101b09009f28101b0f009f0b101b2f01a7e400b5ea00b61c03052a2a1100a09800111b0a009f0a101b4a01a7e400b5ea00b61c04042a2a1100a009101b5e01a7e400b5ea00b61c03042a2a1100a09400111b0a009f15101b10009f08101b7f01a7e400b5ea00b61c0308102a2a1200a00f101b09009f0e101b0f009f061be700b5092ae400b5092adc00b5032a
theorem bX12_operands : cX12_operands.data.toList.map UInt8.toNat = x_un nX12_operands 428 := by decide +kernel
def iX12_operands : List (Nat × Jvm.ClassFile.Instr × Nat) := [(0, .aload_n 0, 1), (1, .iconst 0, 1), (2, .putfield 220, 3), (5, .aload_n 0, 1), (6, .lconst 0, 1), (7, .putfield 228, 3), (10, .aload_n 0, 1), (11, .lconst 0, 1), (12, .putfield 231, 3), (15, .iload_n 1, 1), (16, .iconst 3, 1), (17, .if_icmp .eq 15, 3), (20, .iload_n 1, 1), (21, .bipush 14, 2), (23, .if_icmp .eq 9, 3), (26, .iload_n 1, 1), (27, .bipush 15, 2), (29, .if_icmp .ne 18, 3), (32, .aload_n 0, 1), (33, .aload_n 0, 1), (34, .bipush 8, 2), (36, .iconst 0, 1), (37, .iload_n 2, 1), (38, .invokevirtual 234, 3), (41, .putfield 228, 3), (44, .goto 383, 3), (47, .iload_n 1, 1), (48, .bipush 8, 2), (50, .if_icmp .eq 16, 3), (53, .iload_n 1, 1), (54, .bipush 21, 2), (56, .if_icmp .eq 10, 3), (59, .iload_n 1, 1), (60, .sipush 148, 3), (63, .if_icmp .ne 17, 3), (66, .aload_n 0, 1), (67, .aload_n 0, 1), (68, .iconst 1, 1), (69, .iconst 0, 1), (70, .iload_n 2, 1), (71, .invokevirtual 234, 3), (74, .putfield 228, 3), (77, .goto 350, 3), (80, .iload_n 1, 1), (81, .bipush 9, 2), (83, .if_icmp .ne 17, 3), (86, .aload_n 0, 1), (87, .aload_n 0, 1), (88, .iconst 1, 1), (89, .iconst 1, 1), (90, .iload_n 2, 1), (91, .invokevirtual 234, 3), (94, .putfield 228, 3), (97, .goto 330, 3), (100, .iload_n 1, 1), (101, .bipush 10, 2), (103, .if_icmp .eq 10, 3), (106, .iload_n 1, 1), (107, .sipush 152, 3), (110, .if_icmp .ne 17, 3), (113, .aload_n 0, 1), (114, .aload_n 0, 1), (115, .iconst 2, 1), (116, .iconst 0, 1), (117, .iload_n 2, 1), (118, .invokevirtual 234, 3), (121, .putfield 228, 3), (124, .goto 303, 3), (127, .iload_n 1, 1), (128, .bipush 11, 2), (130, .if_icmp .eq 15, 3), (133, .iload_n 1, 1), (134, .bipush 40, 2), (136, .if_icmp .eq 9, 3), (139, .iload_n 1, 1), (140, .bipush 47, 2), (142, .if_icmp .ne 17, 3), (145, .aload_n 0, 1), (146, .aload_n 0, 1), (147, .iconst 2, 1), (148, .iconst 1, 1), (149, .iload_n 2, 1), (150, .invokevirtual 234, 3), (153, .putfield 228, 3), (156, .goto 271, 3), (159, .iload_n 1, 1), (160, .bipush 12, 2), (162, .if_icmp .eq 10, 3), (165, .iload_n 1, 1), (166, .sipush 153, 3), (169, .if_icmp .ne 17, 3), (172, .aload_n 0, 1), (173, .aload_n 0, 1), (174, .iconst 4, 1), (175, .iconst 0, 1), (176, .iload_n 2, 1), (177, .invokevirtual 234, 3), (180, .putfield 228, 3), (183, .goto 244, 3), (186, .iload_n 1, 1), (187, .bipush 13, 2), (189, .if_icmp .ne 17, 3), (192, .aload_n 0, 1), (193, .aload_n 0, 1), (194, .iconst 4, 1), (195, .iconst 1, 1), (196, .iload_n 2, 1), (197, .invokevirtual 234, 3), (200, .putfield 228, 3), (203, .goto 224, 3), (206, .iload_n 1, 1), (207, .bipush 16, 2), (209, .if_icmp .eq 23, 3), (212, .iload_n 1, 1), (213, .bipush 35, 2), (215, .if_icmp .eq 17, 3), (218, .iload_n 1, 1), (219, .sipush 144, 3), (222, .if_icmp .eq 10, 3), (225, .iload_n 1, 1), (226, .sipush 147, 3), (229, .if_icmp .ne 16, 3), (232, .aload_n 0, 1), (233, .aload_n 0, 1), (234, .iconst 0, 1), (235, .iload_n 2, 1), (236, .invokevirtual 238, 3), (239, .putfield 228, 3), (242, .goto 185, 3), (245, .iload_n 1, 1), (246, .bipush 17, 2), (248, .if_icmp .eq 23, 3), (251, .iload_n 1, 1), (252, .bipush 112, 2), (254, .if_icmp .lt 10, 3), (257, .iload_n 1, 1), (258, .sipush 143, 3), (261, .if_icmp .le 10, 3), (264, .iload_n 1, 1), (265, .sipush 145, 3), (268, .if_icmp .ne 16, 3), (271, .aload_n 0, 1), (272, .aload_n 0, 1), (273, .iconst 1, 1), (274, .iload_n 2, 1), (275, .invokevirtual 238, 3), (278, .putfield 228, 3), (281, .goto 146, 3), (284, .iload_n 1, 1), (285, .sipush 146, 3), (288, .if_icmp .ne 26, 3), (291, .aload_n 0, 1), (292, .aload_n 0, 1), (293, .iconst 0, 1), (294, .iload_n 2, 1), (295, .invokevirtual 238, 3), (298, .putfield 228, 3), (301, .aload_n 0, 1), (302, .aload_n 0, 1), (303, .iconst 1, 1), (304, .iload_n 2, 1), (305, .invokevirtual 238, 3), (308, .putfield 231, 3), (311, .goto 116, 3), (314, .iload_n 1, 1), (315, .sipush 157, 3), (318, .if_icmp .ne 26, 3), (321, .aload_n 0, 1), (322, .aload_n 0, 1), (323, .iconst 0, 1), (324, .iload_n 2, 1), (325, .invokevirtual 238, 3), (328, .putfield 228, 3), (331, .aload_n 0, 1), (332, .aload_n 0, 1), (333, .iconst 0, 1), (334, .iload_n 2, 1), (335, .invokevirtual 238, 3), (338, .putfield 231, 3), (341, .goto 86, 3), (344, .iload_n 1, 1), (345, .sipush 158, 3), (348, .if_icmp .ne 79, 3), (351, .aload_n 0, 1), (352, .aload_n 0, 1), (353, .iconst 0, 1), (354, .iload_n 2, 1), (355, .invokevirtual 238, 3), (358, .putfield 228, 3), (361, .aload_n 0, 1), (362, .getfield 220, 3), (365, .ifCond .ne 32, 3), (368, .aload_n 0, 1), (369, .getfield 228, 3), (372, .lconst 0, 1), (373, .lcmp, 1), (374, .ifCond .lt 18, 3), (377, .aload_n 0, 1), (378, .getfield 228, 3), (381, .iload_n 2, 1), (382, .aload_n 0, 1), (383, .getfield 223, 3), (386, .isub, 1), (387, .i2l, 1), (388, .lcmp, 1), (389, .ifCond .le 8, 3), (392, .aload_n 0, 1), (393, .iconst 1, 1), (394, .putfield 220, 3), (397, .aload_n 0, 1), (398, .getfield 220, 3), (401, .ifCond .ne 26, 3), (404, .aload_n 0, 1), (405, .aload_n 0, 1), (406, .getfield 223, 3), (409, .i2l, 1), (410, .putfield 231, 3), (413, .aload_n 0, 1), (414, .aload_n 0, 1), (415, .getfield 223, 3), (418, .aload_n 0, 1), (419, .getfield 228, 3), (422, .l2i, 1), (423, .iadd, 1), (424, .putfield 223, 3), (427, .return_, 1)]
theorem dX12_operands : x_il nX12_operands 428 iX12_operands = true := by decide +kernel
theorem aX12_operands (k : Nat) {pc : Nat} {i : Jvm.ClassFile.Instr} {len : Nat} (hk : iX12_operands[k]? = some (pc, i, len)) : x_at xMM 171 pc i len yX12_operands 3 none := ⟨cX12_operands, rfl, x_il_ok bX12_operands dX12_operands k hk⟩
set_option maxHeartbeats 4000000 in
set_option maxRecDepth 100000 in
theorem m_operands {sk : xK} {base d n sl : Nat} {SH : Nat → Nat × Nat} {FI : Nat → Nat → Int32} {FL : Nat → Nat → Int64} {FR : Nat → Nat → Option Nat} (hS : h_S n SH) (hF : h_FR FR) (a1 : Int32) (a2 : Int32) (g0 : (FI 121 37).toInt ≤ (a2).toInt) (g1 : 0 ≤ (a2).toInt ∧ (a2).toInt ≤ 19200) (g2 : 0 ≤ (FI 121 37).toInt ∧ (FI 121 37).toInt ≤ 19200) (ai124 : h_ai 124 19200 0 255 FI) : hw sk base (d + 1) none 171 0 [(0, .ref (base + 121)), (1, .int (a1)), (2, .int (a2))] [] (n, sl, SH, FI, FL, FR) (h_V (fun s => ∃ FI' FL', s = (n, sl, SH, FI', FL', FR) ∧ h_fr FI FI' [37, 38] [] ∧ h_fr FL FL' [35, 36] [] ∧ (((FI' 121 38)).toInt = 0 → (FI 121 37).toInt ≤ ((FI' 121 37)).toInt ∧ ((FI' 121 37)).toInt ≤ (a2).toInt) ∧ ((a1).toInt = 21 → 0 ≤ ((FL' 121 35)).toInt ∧ ((FL' 121 35)).toInt ≤ 255) ∧ ((a1).toInt = 152 ∨ (a1).toInt = 153 → 0 ≤ ((FL' 121 35)).toInt) ∧ ((a1).toInt = 158 ∧ ((FI' 121 38)).toInt = 0 → 0 ≤ ((FL' 121 35)).toInt ∧ (FI 121 37).toInt ≤ ((FL' 121 36)).toInt ∧ ((FL' 121 36)).toInt + ((FL' 121 35)).toInt ≤ (a2).toInt))) := by
  have rg_a1 := i_rng a1
  have rg_a2 := i_rng a2
  refine hw_aloadn (aX12_operands 0 rfl) rfl ?_
  refine hw_ic (v := (0 : Int32)) (aX12_operands 1 rfl) (by decide) ?_
  refine hw_puti (aX12_operands 2 rfl) wf_RX12_220 (c121 hS) (s121 hS) (by decide) rfl rfl ?_
  refine hw_aloadn (aX12_operands 3 rfl) rfl ?_
  refine hw_lc (v := (0 : Int64)) (aX12_operands 4 rfl) (by decide) ?_
  refine hw_putl (aX12_operands 5 rfl) wf_RX12_228 (c121 hS) (s121 hS) (by decide) rfl rfl ?_
  refine hw_aloadn (aX12_operands 6 rfl) rfl ?_
  refine hw_lc (v := (0 : Int64)) (aX12_operands 7 rfl) (by decide) ?_
  refine hw_putl (aX12_operands 8 rfl) wf_RX12_231 (c121 hS) (s121 hS) (by decide) rfl rfl ?_
  refine xw_iloadn (aX12_operands 9 rfl) rfl ?_
  refine hw_ic (v := (3 : Int32)) (aX12_operands 10 rfl) (by decide) ?_
  refine hw_iceq (tgt := 32) (aX12_operands 11 rfl) (by decide) rfl (by decide : (3 : Int32).toInt = 3) (fun cd1 => ?_) (fun cd1 => ?_)
  · refine hw_aloadn (aX12_operands 18 rfl) rfl ?_
    refine hw_aloadn (aX12_operands 19 rfl) rfl ?_
    refine hw_bp (v := (8 : Int32)) (aX12_operands 20 rfl) (by decide) ?_
    refine hw_ic (v := (0 : Int32)) (aX12_operands 21 rfl) (by decide) ?_
    refine xw_iloadn (aX12_operands 22 rfl) rfl ?_
    refine hw_callV (Bs := [.int ((8 : Int32)), .int ((0 : Int32)), .int (a2)]) (rest := [.ref (base + 121)]) (aX12_operands 23 rfl) wc_RX12_234 (by decide) rfl wi_yX12_fixed wv_yX12_fixed (c121 hS) (s121 hS) rfl rfl rfl (Nat.le_of_ble_eq_true rfl) (Nat.le_of_ble_eq_true rfl) (m_fixed8 (d := d) hS hF ((8 : Int32)) ((0 : Int32)) (a2) (by show ((h_up FI 121 38 ((0 : Int32))) 121 37).toInt ≤ (a2).toInt; rw [show (h_up FI 121 38 ((0 : Int32))) 121 37 = FI 121 37 from rfl]; show (FI 121 37).toInt ≤ (a2).toInt; omega) (by have := ((by decide : (0 : Int32).toInt = 0) : ((0 : Int32)).toInt = 0); show 0 ≤ ((0 : Int32)).toInt ∧ ((0 : Int32)).toInt ≤ 1; omega) (by have := ((by decide : (8 : Int32).toInt = 8) : ((8 : Int32)).toInt = 8); show 5 ≤ ((8 : Int32)).toInt ∧ ((8 : Int32)).toInt ≤ 8; omega) (by show 0 ≤ (a2).toInt ∧ (a2).toInt ≤ 19200; omega) (by show 0 ≤ ((h_up FI 121 38 ((0 : Int32))) 121 37).toInt ∧ ((h_up FI 121 38 ((0 : Int32))) 121 37).toInt ≤ 19200; rw [show (h_up FI 121 38 ((0 : Int32))) 121 37 = FI 121 37 from rfl]; show 0 ≤ (FI 121 37).toInt ∧ (FI 121 37).toInt ≤ 19200; omega) (show h_ai 124 19200 0 255 (h_up FI 121 38 ((0 : Int32))) from (show h_ai 124 19200 0 255 (h_up FI 121 38 ((0 : Int32))) from (ai_nc ai124 (by decide))))) (fun v2 sv3 p4 => ?_)
    obtain ⟨r8, rfl, FI6, FL7, rfl, f5I, rfl, t9, t10, t11, t12⟩ := p4
    have rg_r8 := l_rng r8
    rw [show (h_up FI 121 38 ((0 : Int32))) 121 37 = FI 121 37 from rfl] at t10
    rw [show (h_up FI 121 38 ((0 : Int32))) 121 37 = FI 121 37 from rfl] at t11
    show hw sk base _ none _ _ _ [.long (r8), .ref (base + 121)] _ _
    refine hw_putl (aX12_operands 24 rfl) wf_RX12_228 (c121 hS) (s121 hS) (by decide) rfl rfl ?_
    refine xw_goto (tgt := 427) (aX12_operands 25 rfl) (by decide) ?_
    refine xw_vret (aX12_operands 225 rfl) rfl ?_
    have e13 : ((0 : Int64)).toInt = 0 := (by decide : (0 : Int64).toInt = 0)
    exact ⟨rfl, _, _, rfl, (fr_tr (fr_up fr_rf (by decide)) f5I (by decide) (by decide)), (fr_up (fr_up (fr_up fr_rf (by decide)) (by decide)) (by decide)), (by show ((FI6 121 38)).toInt = 0 → (FI 121 37).toInt ≤ ((FI6 121 37)).toInt ∧ ((FI6 121 37)).toInt ≤ (a2).toInt; omega), (by show (a1).toInt = 21 → 0 ≤ ((r8)).toInt ∧ ((r8)).toInt ≤ 255; omega), (by show (a1).toInt = 152 ∨ (a1).toInt = 153 → 0 ≤ ((r8)).toInt; omega), (by show (a1).toInt = 158 ∧ ((FI6 121 38)).toInt = 0 → 0 ≤ ((r8)).toInt ∧ (FI 121 37).toInt ≤ (((0 : Int64))).toInt ∧ (((0 : Int64))).toInt + ((r8)).toInt ≤ (a2).toInt; omega)⟩
  · refine xw_iloadn (aX12_operands 12 rfl) rfl ?_
    refine hw_bp (v := (14 : Int32)) (aX12_operands 13 rfl) (by decide) ?_
    refine hw_iceq (tgt := 32) (aX12_operands 14 rfl) (by decide) rfl (by decide : (14 : Int32).toInt = 14) (fun cd14 => ?_) (fun cd14 => ?_)
    · refine hw_aloadn (aX12_operands 18 rfl) rfl ?_
      refine hw_aloadn (aX12_operands 19 rfl) rfl ?_
      refine hw_bp (v := (8 : Int32)) (aX12_operands 20 rfl) (by decide) ?_
      refine hw_ic (v := (0 : Int32)) (aX12_operands 21 rfl) (by decide) ?_
      refine xw_iloadn (aX12_operands 22 rfl) rfl ?_
      refine hw_callV (Bs := [.int ((8 : Int32)), .int ((0 : Int32)), .int (a2)]) (rest := [.ref (base + 121)]) (aX12_operands 23 rfl) wc_RX12_234 (by decide) rfl wi_yX12_fixed wv_yX12_fixed (c121 hS) (s121 hS) rfl rfl rfl (Nat.le_of_ble_eq_true rfl) (Nat.le_of_ble_eq_true rfl) (m_fixed8 (d := d) hS hF ((8 : Int32)) ((0 : Int32)) (a2) (by show ((h_up FI 121 38 ((0 : Int32))) 121 37).toInt ≤ (a2).toInt; rw [show (h_up FI 121 38 ((0 : Int32))) 121 37 = FI 121 37 from rfl]; show (FI 121 37).toInt ≤ (a2).toInt; omega) (by have := ((by decide : (0 : Int32).toInt = 0) : ((0 : Int32)).toInt = 0); show 0 ≤ ((0 : Int32)).toInt ∧ ((0 : Int32)).toInt ≤ 1; omega) (by have := ((by decide : (8 : Int32).toInt = 8) : ((8 : Int32)).toInt = 8); show 5 ≤ ((8 : Int32)).toInt ∧ ((8 : Int32)).toInt ≤ 8; omega) (by show 0 ≤ (a2).toInt ∧ (a2).toInt ≤ 19200; omega) (by show 0 ≤ ((h_up FI 121 38 ((0 : Int32))) 121 37).toInt ∧ ((h_up FI 121 38 ((0 : Int32))) 121 37).toInt ≤ 19200; rw [show (h_up FI 121 38 ((0 : Int32))) 121 37 = FI 121 37 from rfl]; show 0 ≤ (FI 121 37).toInt ∧ (FI 121 37).toInt ≤ 19200; omega) (show h_ai 124 19200 0 255 (h_up FI 121 38 ((0 : Int32))) from (show h_ai 124 19200 0 255 (h_up FI 121 38 ((0 : Int32))) from (ai_nc ai124 (by decide))))) (fun v15 sv16 p17 => ?_)
      obtain ⟨r21, rfl, FI19, FL20, rfl, f18I, rfl, t22, t23, t24, t25⟩ := p17
      have rg_r21 := l_rng r21
      rw [show (h_up FI 121 38 ((0 : Int32))) 121 37 = FI 121 37 from rfl] at t23
      rw [show (h_up FI 121 38 ((0 : Int32))) 121 37 = FI 121 37 from rfl] at t24
      show hw sk base _ none _ _ _ [.long (r21), .ref (base + 121)] _ _
      refine hw_putl (aX12_operands 24 rfl) wf_RX12_228 (c121 hS) (s121 hS) (by decide) rfl rfl ?_
      refine xw_goto (tgt := 427) (aX12_operands 25 rfl) (by decide) ?_
      refine xw_vret (aX12_operands 225 rfl) rfl ?_
      have e26 : ((0 : Int64)).toInt = 0 := (by decide : (0 : Int64).toInt = 0)
      exact ⟨rfl, _, _, rfl, (fr_tr (fr_up fr_rf (by decide)) f18I (by decide) (by decide)), (fr_up (fr_up (fr_up fr_rf (by decide)) (by decide)) (by decide)), (by show ((FI19 121 38)).toInt = 0 → (FI 121 37).toInt ≤ ((FI19 121 37)).toInt ∧ ((FI19 121 37)).toInt ≤ (a2).toInt; omega), (by show (a1).toInt = 21 → 0 ≤ ((r21)).toInt ∧ ((r21)).toInt ≤ 255; omega), (by show (a1).toInt = 152 ∨ (a1).toInt = 153 → 0 ≤ ((r21)).toInt; omega), (by show (a1).toInt = 158 ∧ ((FI19 121 38)).toInt = 0 → 0 ≤ ((r21)).toInt ∧ (FI 121 37).toInt ≤ (((0 : Int64))).toInt ∧ (((0 : Int64))).toInt + ((r21)).toInt ≤ (a2).toInt; omega)⟩
    · refine xw_iloadn (aX12_operands 15 rfl) rfl ?_
      refine hw_bp (v := (15 : Int32)) (aX12_operands 16 rfl) (by decide) ?_
      refine hw_icne (tgt := 47) (aX12_operands 17 rfl) (by decide) rfl (by decide : (15 : Int32).toInt = 15) (fun cd27 => ?_) (fun cd27 => ?_)
      · refine xw_iloadn (aX12_operands 26 rfl) rfl ?_
        refine hw_bp (v := (8 : Int32)) (aX12_operands 27 rfl) (by decide) ?_
        refine hw_iceq (tgt := 66) (aX12_operands 28 rfl) (by decide) rfl (by decide : (8 : Int32).toInt = 8) (fun cd28 => ?_) (fun cd28 => ?_)
        · refine hw_aloadn (aX12_operands 35 rfl) rfl ?_
          refine hw_aloadn (aX12_operands 36 rfl) rfl ?_
          refine hw_ic (v := (1 : Int32)) (aX12_operands 37 rfl) (by decide) ?_
          refine hw_ic (v := (0 : Int32)) (aX12_operands 38 rfl) (by decide) ?_
          refine xw_iloadn (aX12_operands 39 rfl) rfl ?_
          refine hw_callV (Bs := [.int ((1 : Int32)), .int ((0 : Int32)), .int (a2)]) (rest := [.ref (base + 121)]) (aX12_operands 40 rfl) wc_RX12_234 (by decide) rfl wi_yX12_fixed wv_yX12_fixed (c121 hS) (s121 hS) rfl rfl rfl (Nat.le_of_ble_eq_true rfl) (Nat.le_of_ble_eq_true rfl) (m_fixed4 (d := d) hS hF ((1 : Int32)) ((0 : Int32)) (a2) (by show ((h_up FI 121 38 ((0 : Int32))) 121 37).toInt ≤ (a2).toInt; rw [show (h_up FI 121 38 ((0 : Int32))) 121 37 = FI 121 37 from rfl]; show (FI 121 37).toInt ≤ (a2).toInt; omega) (by have := ((by decide : (0 : Int32).toInt = 0) : ((0 : Int32)).toInt = 0); show 0 ≤ ((0 : Int32)).toInt ∧ ((0 : Int32)).toInt ≤ 1; omega) (by have := ((by decide : (1 : Int32).toInt = 1) : ((1 : Int32)).toInt = 1); show 1 ≤ ((1 : Int32)).toInt ∧ ((1 : Int32)).toInt ≤ 4; omega) (by show 0 ≤ (a2).toInt ∧ (a2).toInt ≤ 19200; omega) (by show 0 ≤ ((h_up FI 121 38 ((0 : Int32))) 121 37).toInt ∧ ((h_up FI 121 38 ((0 : Int32))) 121 37).toInt ≤ 19200; rw [show (h_up FI 121 38 ((0 : Int32))) 121 37 = FI 121 37 from rfl]; show 0 ≤ (FI 121 37).toInt ∧ (FI 121 37).toInt ≤ 19200; omega) (show h_ai 124 19200 0 255 (h_up FI 121 38 ((0 : Int32))) from (show h_ai 124 19200 0 255 (h_up FI 121 38 ((0 : Int32))) from (ai_nc ai124 (by decide))))) (fun v29 sv30 p31 => ?_)
          obtain ⟨r35, rfl, FI33, FL34, rfl, f32I, rfl, t36, t37, t38, t39, t40, t41⟩ := p31
          have rg_r35 := l_rng r35
          rw [show (h_up FI 121 38 ((0 : Int32))) 121 37 = FI 121 37 from rfl] at t37
          rw [show (h_up FI 121 38 ((0 : Int32))) 121 37 = FI 121 37 from rfl] at t38
          have e42 : ((0 : Int32)).toInt = 0 := (by decide : (0 : Int32).toInt = 0)
          have e43 : ((1 : Int32)).toInt = 1 := (by decide : (1 : Int32).toInt = 1)
          have e44 : ((0 : Int32)).toInt = 0 := (by decide : (0 : Int32).toInt = 0)
          show hw sk base _ none _ _ _ [.long (r35), .ref (base + 121)] _ _
          refine hw_putl (aX12_operands 41 rfl) wf_RX12_228 (c121 hS) (s121 hS) (by decide) rfl rfl ?_
          refine xw_goto (tgt := 427) (aX12_operands 42 rfl) (by decide) ?_
          refine xw_vret (aX12_operands 225 rfl) rfl ?_
          have e45 : ((0 : Int64)).toInt = 0 := (by decide : (0 : Int64).toInt = 0)
          exact ⟨rfl, _, _, rfl, (fr_tr (fr_up fr_rf (by decide)) f32I (by decide) (by decide)), (fr_up (fr_up (fr_up fr_rf (by decide)) (by decide)) (by decide)), (by show ((FI33 121 38)).toInt = 0 → (FI 121 37).toInt ≤ ((FI33 121 37)).toInt ∧ ((FI33 121 37)).toInt ≤ (a2).toInt; omega), (by show (a1).toInt = 21 → 0 ≤ ((r35)).toInt ∧ ((r35)).toInt ≤ 255; omega), (by show (a1).toInt = 152 ∨ (a1).toInt = 153 → 0 ≤ ((r35)).toInt; omega), (by show (a1).toInt = 158 ∧ ((FI33 121 38)).toInt = 0 → 0 ≤ ((r35)).toInt ∧ (FI 121 37).toInt ≤ (((0 : Int64))).toInt ∧ (((0 : Int64))).toInt + ((r35)).toInt ≤ (a2).toInt; omega)⟩
        · refine xw_iloadn (aX12_operands 29 rfl) rfl ?_
          refine hw_bp (v := (21 : Int32)) (aX12_operands 30 rfl) (by decide) ?_
          refine hw_iceq (tgt := 66) (aX12_operands 31 rfl) (by decide) rfl (by decide : (21 : Int32).toInt = 21) (fun cd46 => ?_) (fun cd46 => ?_)
          · refine hw_aloadn (aX12_operands 35 rfl) rfl ?_
            refine hw_aloadn (aX12_operands 36 rfl) rfl ?_
            refine hw_ic (v := (1 : Int32)) (aX12_operands 37 rfl) (by decide) ?_
            refine hw_ic (v := (0 : Int32)) (aX12_operands 38 rfl) (by decide) ?_
            refine xw_iloadn (aX12_operands 39 rfl) rfl ?_
            refine hw_callV (Bs := [.int ((1 : Int32)), .int ((0 : Int32)), .int (a2)]) (rest := [.ref (base + 121)]) (aX12_operands 40 rfl) wc_RX12_234 (by decide) rfl wi_yX12_fixed wv_yX12_fixed (c121 hS) (s121 hS) rfl rfl rfl (Nat.le_of_ble_eq_true rfl) (Nat.le_of_ble_eq_true rfl) (m_fixed4 (d := d) hS hF ((1 : Int32)) ((0 : Int32)) (a2) (by show ((h_up FI 121 38 ((0 : Int32))) 121 37).toInt ≤ (a2).toInt; rw [show (h_up FI 121 38 ((0 : Int32))) 121 37 = FI 121 37 from rfl]; show (FI 121 37).toInt ≤ (a2).toInt; omega) (by have := ((by decide : (0 : Int32).toInt = 0) : ((0 : Int32)).toInt = 0); show 0 ≤ ((0 : Int32)).toInt ∧ ((0 : Int32)).toInt ≤ 1; omega) (by have := ((by decide : (1 : Int32).toInt = 1) : ((1 : Int32)).toInt = 1); show 1 ≤ ((1 : Int32)).toInt ∧ ((1 : Int32)).toInt ≤ 4; omega) (by show 0 ≤ (a2).toInt ∧ (a2).toInt ≤ 19200; omega) (by show 0 ≤ ((h_up FI 121 38 ((0 : Int32))) 121 37).toInt ∧ ((h_up FI 121 38 ((0 : Int32))) 121 37).toInt ≤ 19200; rw [show (h_up FI 121 38 ((0 : Int32))) 121 37 = FI 121 37 from rfl]; show 0 ≤ (FI 121 37).toInt ∧ (FI 121 37).toInt ≤ 19200; omega) (show h_ai 124 19200 0 255 (h_up FI 121 38 ((0 : Int32))) from (show h_ai 124 19200 0 255 (h_up FI 121 38 ((0 : Int32))) from (ai_nc ai124 (by decide))))) (fun v47 sv48 p49 => ?_)
            obtain ⟨r53, rfl, FI51, FL52, rfl, f50I, rfl, t54, t55, t56, t57, t58, t59⟩ := p49
            have rg_r53 := l_rng r53
            rw [show (h_up FI 121 38 ((0 : Int32))) 121 37 = FI 121 37 from rfl] at t55
            rw [show (h_up FI 121 38 ((0 : Int32))) 121 37 = FI 121 37 from rfl] at t56
            have e60 : ((0 : Int32)).toInt = 0 := (by decide : (0 : Int32).toInt = 0)
            have e61 : ((1 : Int32)).toInt = 1 := (by decide : (1 : Int32).toInt = 1)
            have e62 : ((0 : Int32)).toInt = 0 := (by decide : (0 : Int32).toInt = 0)
            show hw sk base _ none _ _ _ [.long (r53), .ref (base + 121)] _ _
            refine hw_putl (aX12_operands 41 rfl) wf_RX12_228 (c121 hS) (s121 hS) (by decide) rfl rfl ?_
            refine xw_goto (tgt := 427) (aX12_operands 42 rfl) (by decide) ?_
            refine xw_vret (aX12_operands 225 rfl) rfl ?_
            have e63 : ((0 : Int64)).toInt = 0 := (by decide : (0 : Int64).toInt = 0)
            exact ⟨rfl, _, _, rfl, (fr_tr (fr_up fr_rf (by decide)) f50I (by decide) (by decide)), (fr_up (fr_up (fr_up fr_rf (by decide)) (by decide)) (by decide)), (by show ((FI51 121 38)).toInt = 0 → (FI 121 37).toInt ≤ ((FI51 121 37)).toInt ∧ ((FI51 121 37)).toInt ≤ (a2).toInt; omega), (by show (a1).toInt = 21 → 0 ≤ ((r53)).toInt ∧ ((r53)).toInt ≤ 255; omega), (by show (a1).toInt = 152 ∨ (a1).toInt = 153 → 0 ≤ ((r53)).toInt; omega), (by show (a1).toInt = 158 ∧ ((FI51 121 38)).toInt = 0 → 0 ≤ ((r53)).toInt ∧ (FI 121 37).toInt ≤ (((0 : Int64))).toInt ∧ (((0 : Int64))).toInt + ((r53)).toInt ≤ (a2).toInt; omega)⟩
          · refine xw_iloadn (aX12_operands 32 rfl) rfl ?_
            refine hw_sp (v := (148 : Int32)) (aX12_operands 33 rfl) (by decide) ?_
            refine hw_icne (tgt := 80) (aX12_operands 34 rfl) (by decide) rfl (by decide : (148 : Int32).toInt = 148) (fun cd64 => ?_) (fun cd64 => ?_)
            · refine xw_iloadn (aX12_operands 43 rfl) rfl ?_
              refine hw_bp (v := (9 : Int32)) (aX12_operands 44 rfl) (by decide) ?_
              refine hw_icne (tgt := 100) (aX12_operands 45 rfl) (by decide) rfl (by decide : (9 : Int32).toInt = 9) (fun cd65 => ?_) (fun cd65 => ?_)
              · refine xw_iloadn (aX12_operands 54 rfl) rfl ?_
                refine hw_bp (v := (10 : Int32)) (aX12_operands 55 rfl) (by decide) ?_
                refine hw_iceq (tgt := 113) (aX12_operands 56 rfl) (by decide) rfl (by decide : (10 : Int32).toInt = 10) (fun cd66 => ?_) (fun cd66 => ?_)
                · refine hw_aloadn (aX12_operands 60 rfl) rfl ?_
                  refine hw_aloadn (aX12_operands 61 rfl) rfl ?_
                  refine hw_ic (v := (2 : Int32)) (aX12_operands 62 rfl) (by decide) ?_
                  refine hw_ic (v := (0 : Int32)) (aX12_operands 63 rfl) (by decide) ?_
                  refine xw_iloadn (aX12_operands 64 rfl) rfl ?_
                  refine hw_callV (Bs := [.int ((2 : Int32)), .int ((0 : Int32)), .int (a2)]) (rest := [.ref (base + 121)]) (aX12_operands 65 rfl) wc_RX12_234 (by decide) rfl wi_yX12_fixed wv_yX12_fixed (c121 hS) (s121 hS) rfl rfl rfl (Nat.le_of_ble_eq_true rfl) (Nat.le_of_ble_eq_true rfl) (m_fixed4 (d := d) hS hF ((2 : Int32)) ((0 : Int32)) (a2) (by show ((h_up FI 121 38 ((0 : Int32))) 121 37).toInt ≤ (a2).toInt; rw [show (h_up FI 121 38 ((0 : Int32))) 121 37 = FI 121 37 from rfl]; show (FI 121 37).toInt ≤ (a2).toInt; omega) (by have := ((by decide : (0 : Int32).toInt = 0) : ((0 : Int32)).toInt = 0); show 0 ≤ ((0 : Int32)).toInt ∧ ((0 : Int32)).toInt ≤ 1; omega) (by have := ((by decide : (2 : Int32).toInt = 2) : ((2 : Int32)).toInt = 2); show 1 ≤ ((2 : Int32)).toInt ∧ ((2 : Int32)).toInt ≤ 4; omega) (by show 0 ≤ (a2).toInt ∧ (a2).toInt ≤ 19200; omega) (by show 0 ≤ ((h_up FI 121 38 ((0 : Int32))) 121 37).toInt ∧ ((h_up FI 121 38 ((0 : Int32))) 121 37).toInt ≤ 19200; rw [show (h_up FI 121 38 ((0 : Int32))) 121 37 = FI 121 37 from rfl]; show 0 ≤ (FI 121 37).toInt ∧ (FI 121 37).toInt ≤ 19200; omega) (show h_ai 124 19200 0 255 (h_up FI 121 38 ((0 : Int32))) from (show h_ai 124 19200 0 255 (h_up FI 121 38 ((0 : Int32))) from (ai_nc ai124 (by decide))))) (fun v67 sv68 p69 => ?_)
                  obtain ⟨r73, rfl, FI71, FL72, rfl, f70I, rfl, t74, t75, t76, t77, t78, t79⟩ := p69
                  have rg_r73 := l_rng r73
                  rw [show (h_up FI 121 38 ((0 : Int32))) 121 37 = FI 121 37 from rfl] at t75
                  rw [show (h_up FI 121 38 ((0 : Int32))) 121 37 = FI 121 37 from rfl] at t76
                  have e80 : ((0 : Int32)).toInt = 0 := (by decide : (0 : Int32).toInt = 0)
                  have e81 : ((2 : Int32)).toInt = 2 := (by decide : (2 : Int32).toInt = 2)
                  have e82 : ((0 : Int32)).toInt = 0 := (by decide : (0 : Int32).toInt = 0)
                  show hw sk base _ none _ _ _ [.long (r73), .ref (base + 121)] _ _
                  refine hw_putl (aX12_operands 66 rfl) wf_RX12_228 (c121 hS) (s121 hS) (by decide) rfl rfl ?_
                  refine xw_goto (tgt := 427) (aX12_operands 67 rfl) (by decide) ?_
                  refine xw_vret (aX12_operands 225 rfl) rfl ?_
                  have e83 : ((0 : Int64)).toInt = 0 := (by decide : (0 : Int64).toInt = 0)
                  exact ⟨rfl, _, _, rfl, (fr_tr (fr_up fr_rf (by decide)) f70I (by decide) (by decide)), (fr_up (fr_up (fr_up fr_rf (by decide)) (by decide)) (by decide)), (by show ((FI71 121 38)).toInt = 0 → (FI 121 37).toInt ≤ ((FI71 121 37)).toInt ∧ ((FI71 121 37)).toInt ≤ (a2).toInt; omega), (by show (a1).toInt = 21 → 0 ≤ ((r73)).toInt ∧ ((r73)).toInt ≤ 255; omega), (by show (a1).toInt = 152 ∨ (a1).toInt = 153 → 0 ≤ ((r73)).toInt; omega), (by show (a1).toInt = 158 ∧ ((FI71 121 38)).toInt = 0 → 0 ≤ ((r73)).toInt ∧ (FI 121 37).toInt ≤ (((0 : Int64))).toInt ∧ (((0 : Int64))).toInt + ((r73)).toInt ≤ (a2).toInt; omega)⟩
                · refine xw_iloadn (aX12_operands 57 rfl) rfl ?_
                  refine hw_sp (v := (152 : Int32)) (aX12_operands 58 rfl) (by decide) ?_
                  refine hw_icne (tgt := 127) (aX12_operands 59 rfl) (by decide) rfl (by decide : (152 : Int32).toInt = 152) (fun cd84 => ?_) (fun cd84 => ?_)
                  · refine xw_iloadn (aX12_operands 68 rfl) rfl ?_
                    refine hw_bp (v := (11 : Int32)) (aX12_operands 69 rfl) (by decide) ?_
                    refine hw_iceq (tgt := 145) (aX12_operands 70 rfl) (by decide) rfl (by decide : (11 : Int32).toInt = 11) (fun cd85 => ?_) (fun cd85 => ?_)
                    · refine hw_aloadn (aX12_operands 77 rfl) rfl ?_
                      refine hw_aloadn (aX12_operands 78 rfl) rfl ?_
                      refine hw_ic (v := (2 : Int32)) (aX12_operands 79 rfl) (by decide) ?_
                      refine hw_ic (v := (1 : Int32)) (aX12_operands 80 rfl) (by decide) ?_
                      refine xw_iloadn (aX12_operands 81 rfl) rfl ?_
                      refine hw_callV (Bs := [.int ((2 : Int32)), .int ((1 : Int32)), .int (a2)]) (rest := [.ref (base + 121)]) (aX12_operands 82 rfl) wc_RX12_234 (by decide) rfl wi_yX12_fixed wv_yX12_fixed (c121 hS) (s121 hS) rfl rfl rfl (Nat.le_of_ble_eq_true rfl) (Nat.le_of_ble_eq_true rfl) (m_fixed4 (d := d) hS hF ((2 : Int32)) ((1 : Int32)) (a2) (by show ((h_up FI 121 38 ((0 : Int32))) 121 37).toInt ≤ (a2).toInt; rw [show (h_up FI 121 38 ((0 : Int32))) 121 37 = FI 121 37 from rfl]; show (FI 121 37).toInt ≤ (a2).toInt; omega) (by have := ((by decide : (1 : Int32).toInt = 1) : ((1 : Int32)).toInt = 1); show 0 ≤ ((1 : Int32)).toInt ∧ ((1 : Int32)).toInt ≤ 1; omega) (by have := ((by decide : (2 : Int32).toInt = 2) : ((2 : Int32)).toInt = 2); show 1 ≤ ((2 : Int32)).toInt ∧ ((2 : Int32)).toInt ≤ 4; omega) (by show 0 ≤ (a2).toInt ∧ (a2).toInt ≤ 19200; omega) (by show 0 ≤ ((h_up FI 121 38 ((0 : Int32))) 121 37).toInt ∧ ((h_up FI 121 38 ((0 : Int32))) 121 37).toInt ≤ 19200; rw [show (h_up FI 121 38 ((0 : Int32))) 121 37 = FI 121 37 from rfl]; show 0 ≤ (FI 121 37).toInt ∧ (FI 121 37).toInt ≤ 19200; omega) (show h_ai 124 19200 0 255 (h_up FI 121 38 ((0 : Int32))) from (show h_ai 124 19200 0 255 (h_up FI 121 38 ((0 : Int32))) from (ai_nc ai124 (by decide))))) (fun v86 sv87 p88 => ?_)
                      obtain ⟨r92, rfl, FI90, FL91, rfl, f89I, rfl, t93, t94, t95, t96, t97, t98⟩ := p88
                      have rg_r92 := l_rng r92
                      rw [show (h_up FI 121 38 ((0 : Int32))) 121 37 = FI 121 37 from rfl] at t94
                      rw [show (h_up FI 121 38 ((0 : Int32))) 121 37 = FI 121 37 from rfl] at t95
                      have e99 : ((1 : Int32)).toInt = 1 := (by decide : (1 : Int32).toInt = 1)
                      have e100 : ((2 : Int32)).toInt = 2 := (by decide : (2 : Int32).toInt = 2)
                      have e101 : ((1 : Int32)).toInt = 1 := (by decide : (1 : Int32).toInt = 1)
                      show hw sk base _ none _ _ _ [.long (r92), .ref (base + 121)] _ _
                      refine hw_putl (aX12_operands 83 rfl) wf_RX12_228 (c121 hS) (s121 hS) (by decide) rfl rfl ?_
                      refine xw_goto (tgt := 427) (aX12_operands 84 rfl) (by decide) ?_
                      refine xw_vret (aX12_operands 225 rfl) rfl ?_
                      have e102 : ((0 : Int64)).toInt = 0 := (by decide : (0 : Int64).toInt = 0)
                      exact ⟨rfl, _, _, rfl, (fr_tr (fr_up fr_rf (by decide)) f89I (by decide) (by decide)), (fr_up (fr_up (fr_up fr_rf (by decide)) (by decide)) (by decide)), (by show ((FI90 121 38)).toInt = 0 → (FI 121 37).toInt ≤ ((FI90 121 37)).toInt ∧ ((FI90 121 37)).toInt ≤ (a2).toInt; omega), (by show (a1).toInt = 21 → 0 ≤ ((r92)).toInt ∧ ((r92)).toInt ≤ 255; omega), (by show (a1).toInt = 152 ∨ (a1).toInt = 153 → 0 ≤ ((r92)).toInt; omega), (by show (a1).toInt = 158 ∧ ((FI90 121 38)).toInt = 0 → 0 ≤ ((r92)).toInt ∧ (FI 121 37).toInt ≤ (((0 : Int64))).toInt ∧ (((0 : Int64))).toInt + ((r92)).toInt ≤ (a2).toInt; omega)⟩
                    · refine xw_iloadn (aX12_operands 71 rfl) rfl ?_
                      refine hw_bp (v := (40 : Int32)) (aX12_operands 72 rfl) (by decide) ?_
                      refine hw_iceq (tgt := 145) (aX12_operands 73 rfl) (by decide) rfl (by decide : (40 : Int32).toInt = 40) (fun cd103 => ?_) (fun cd103 => ?_)
                      · refine hw_aloadn (aX12_operands 77 rfl) rfl ?_
                        refine hw_aloadn (aX12_operands 78 rfl) rfl ?_
                        refine hw_ic (v := (2 : Int32)) (aX12_operands 79 rfl) (by decide) ?_
                        refine hw_ic (v := (1 : Int32)) (aX12_operands 80 rfl) (by decide) ?_
                        refine xw_iloadn (aX12_operands 81 rfl) rfl ?_
                        refine hw_callV (Bs := [.int ((2 : Int32)), .int ((1 : Int32)), .int (a2)]) (rest := [.ref (base + 121)]) (aX12_operands 82 rfl) wc_RX12_234 (by decide) rfl wi_yX12_fixed wv_yX12_fixed (c121 hS) (s121 hS) rfl rfl rfl (Nat.le_of_ble_eq_true rfl) (Nat.le_of_ble_eq_true rfl) (m_fixed4 (d := d) hS hF ((2 : Int32)) ((1 : Int32)) (a2) (by show ((h_up FI 121 38 ((0 : Int32))) 121 37).toInt ≤ (a2).toInt; rw [show (h_up FI 121 38 ((0 : Int32))) 121 37 = FI 121 37 from rfl]; show (FI 121 37).toInt ≤ (a2).toInt; omega) (by have := ((by decide : (1 : Int32).toInt = 1) : ((1 : Int32)).toInt = 1); show 0 ≤ ((1 : Int32)).toInt ∧ ((1 : Int32)).toInt ≤ 1; omega) (by have := ((by decide : (2 : Int32).toInt = 2) : ((2 : Int32)).toInt = 2); show 1 ≤ ((2 : Int32)).toInt ∧ ((2 : Int32)).toInt ≤ 4; omega) (by show 0 ≤ (a2).toInt ∧ (a2).toInt ≤ 19200; omega) (by show 0 ≤ ((h_up FI 121 38 ((0 : Int32))) 121 37).toInt ∧ ((h_up FI 121 38 ((0 : Int32))) 121 37).toInt ≤ 19200; rw [show (h_up FI 121 38 ((0 : Int32))) 121 37 = FI 121 37 from rfl]; show 0 ≤ (FI 121 37).toInt ∧ (FI 121 37).toInt ≤ 19200; omega) (show h_ai 124 19200 0 255 (h_up FI 121 38 ((0 : Int32))) from (show h_ai 124 19200 0 255 (h_up FI 121 38 ((0 : Int32))) from (ai_nc ai124 (by decide))))) (fun v104 sv105 p106 => ?_)
                        obtain ⟨r110, rfl, FI108, FL109, rfl, f107I, rfl, t111, t112, t113, t114, t115, t116⟩ := p106
                        have rg_r110 := l_rng r110
                        rw [show (h_up FI 121 38 ((0 : Int32))) 121 37 = FI 121 37 from rfl] at t112
                        rw [show (h_up FI 121 38 ((0 : Int32))) 121 37 = FI 121 37 from rfl] at t113
                        have e117 : ((1 : Int32)).toInt = 1 := (by decide : (1 : Int32).toInt = 1)
                        have e118 : ((2 : Int32)).toInt = 2 := (by decide : (2 : Int32).toInt = 2)
                        have e119 : ((1 : Int32)).toInt = 1 := (by decide : (1 : Int32).toInt = 1)
                        show hw sk base _ none _ _ _ [.long (r110), .ref (base + 121)] _ _
                        refine hw_putl (aX12_operands 83 rfl) wf_RX12_228 (c121 hS) (s121 hS) (by decide) rfl rfl ?_
                        refine xw_goto (tgt := 427) (aX12_operands 84 rfl) (by decide) ?_
                        refine xw_vret (aX12_operands 225 rfl) rfl ?_
                        have e120 : ((0 : Int64)).toInt = 0 := (by decide : (0 : Int64).toInt = 0)
                        exact ⟨rfl, _, _, rfl, (fr_tr (fr_up fr_rf (by decide)) f107I (by decide) (by decide)), (fr_up (fr_up (fr_up fr_rf (by decide)) (by decide)) (by decide)), (by show ((FI108 121 38)).toInt = 0 → (FI 121 37).toInt ≤ ((FI108 121 37)).toInt ∧ ((FI108 121 37)).toInt ≤ (a2).toInt; omega), (by show (a1).toInt = 21 → 0 ≤ ((r110)).toInt ∧ ((r110)).toInt ≤ 255; omega), (by show (a1).toInt = 152 ∨ (a1).toInt = 153 → 0 ≤ ((r110)).toInt; omega), (by show (a1).toInt = 158 ∧ ((FI108 121 38)).toInt = 0 → 0 ≤ ((r110)).toInt ∧ (FI 121 37).toInt ≤ (((0 : Int64))).toInt ∧ (((0 : Int64))).toInt + ((r110)).toInt ≤ (a2).toInt; omega)⟩
                      · refine xw_iloadn (aX12_operands 74 rfl) rfl ?_
                        refine hw_bp (v := (47 : Int32)) (aX12_operands 75 rfl) (by decide) ?_
                        refine hw_icne (tgt := 159) (aX12_operands 76 rfl) (by decide) rfl (by decide : (47 : Int32).toInt = 47) (fun cd121 => ?_) (fun cd121 => ?_)
                        · refine xw_iloadn (aX12_operands 85 rfl) rfl ?_
                          refine hw_bp (v := (12 : Int32)) (aX12_operands 86 rfl) (by decide) ?_
                          refine hw_iceq (tgt := 172) (aX12_operands 87 rfl) (by decide) rfl (by decide : (12 : Int32).toInt = 12) (fun cd122 => ?_) (fun cd122 => ?_)
                          · refine hw_aloadn (aX12_operands 91 rfl) rfl ?_
                            refine hw_aloadn (aX12_operands 92 rfl) rfl ?_
                            refine hw_ic (v := (4 : Int32)) (aX12_operands 93 rfl) (by decide) ?_
                            refine hw_ic (v := (0 : Int32)) (aX12_operands 94 rfl) (by decide) ?_
                            refine xw_iloadn (aX12_operands 95 rfl) rfl ?_
                            refine hw_callV (Bs := [.int ((4 : Int32)), .int ((0 : Int32)), .int (a2)]) (rest := [.ref (base + 121)]) (aX12_operands 96 rfl) wc_RX12_234 (by decide) rfl wi_yX12_fixed wv_yX12_fixed (c121 hS) (s121 hS) rfl rfl rfl (Nat.le_of_ble_eq_true rfl) (Nat.le_of_ble_eq_true rfl) (m_fixed4 (d := d) hS hF ((4 : Int32)) ((0 : Int32)) (a2) (by show ((h_up FI 121 38 ((0 : Int32))) 121 37).toInt ≤ (a2).toInt; rw [show (h_up FI 121 38 ((0 : Int32))) 121 37 = FI 121 37 from rfl]; show (FI 121 37).toInt ≤ (a2).toInt; omega) (by have := ((by decide : (0 : Int32).toInt = 0) : ((0 : Int32)).toInt = 0); show 0 ≤ ((0 : Int32)).toInt ∧ ((0 : Int32)).toInt ≤ 1; omega) (by have := ((by decide : (4 : Int32).toInt = 4) : ((4 : Int32)).toInt = 4); show 1 ≤ ((4 : Int32)).toInt ∧ ((4 : Int32)).toInt ≤ 4; omega) (by show 0 ≤ (a2).toInt ∧ (a2).toInt ≤ 19200; omega) (by show 0 ≤ ((h_up FI 121 38 ((0 : Int32))) 121 37).toInt ∧ ((h_up FI 121 38 ((0 : Int32))) 121 37).toInt ≤ 19200; rw [show (h_up FI 121 38 ((0 : Int32))) 121 37 = FI 121 37 from rfl]; show 0 ≤ (FI 121 37).toInt ∧ (FI 121 37).toInt ≤ 19200; omega) (show h_ai 124 19200 0 255 (h_up FI 121 38 ((0 : Int32))) from (show h_ai 124 19200 0 255 (h_up FI 121 38 ((0 : Int32))) from (ai_nc ai124 (by decide))))) (fun v123 sv124 p125 => ?_)
                            obtain ⟨r129, rfl, FI127, FL128, rfl, f126I, rfl, t130, t131, t132, t133, t134, t135⟩ := p125
                            have rg_r129 := l_rng r129
                            rw [show (h_up FI 121 38 ((0 : Int32))) 121 37 = FI 121 37 from rfl] at t131
                            rw [show (h_up FI 121 38 ((0 : Int32))) 121 37 = FI 121 37 from rfl] at t132
                            have e136 : ((0 : Int32)).toInt = 0 := (by decide : (0 : Int32).toInt = 0)
                            have e137 : ((4 : Int32)).toInt = 4 := (by decide : (4 : Int32).toInt = 4)
                            have e138 : ((0 : Int32)).toInt = 0 := (by decide : (0 : Int32).toInt = 0)
                            show hw sk base _ none _ _ _ [.long (r129), .ref (base + 121)] _ _
                            refine hw_putl (aX12_operands 97 rfl) wf_RX12_228 (c121 hS) (s121 hS) (by decide) rfl rfl ?_
                            refine xw_goto (tgt := 427) (aX12_operands 98 rfl) (by decide) ?_
                            refine xw_vret (aX12_operands 225 rfl) rfl ?_
                            have e139 : ((0 : Int64)).toInt = 0 := (by decide : (0 : Int64).toInt = 0)
                            exact ⟨rfl, _, _, rfl, (fr_tr (fr_up fr_rf (by decide)) f126I (by decide) (by decide)), (fr_up (fr_up (fr_up fr_rf (by decide)) (by decide)) (by decide)), (by show ((FI127 121 38)).toInt = 0 → (FI 121 37).toInt ≤ ((FI127 121 37)).toInt ∧ ((FI127 121 37)).toInt ≤ (a2).toInt; omega), (by show (a1).toInt = 21 → 0 ≤ ((r129)).toInt ∧ ((r129)).toInt ≤ 255; omega), (by show (a1).toInt = 152 ∨ (a1).toInt = 153 → 0 ≤ ((r129)).toInt; omega), (by show (a1).toInt = 158 ∧ ((FI127 121 38)).toInt = 0 → 0 ≤ ((r129)).toInt ∧ (FI 121 37).toInt ≤ (((0 : Int64))).toInt ∧ (((0 : Int64))).toInt + ((r129)).toInt ≤ (a2).toInt; omega)⟩
                          · refine xw_iloadn (aX12_operands 88 rfl) rfl ?_
                            refine hw_sp (v := (153 : Int32)) (aX12_operands 89 rfl) (by decide) ?_
                            refine hw_icne (tgt := 186) (aX12_operands 90 rfl) (by decide) rfl (by decide : (153 : Int32).toInt = 153) (fun cd140 => ?_) (fun cd140 => ?_)
                            · refine xw_iloadn (aX12_operands 99 rfl) rfl ?_
                              refine hw_bp (v := (13 : Int32)) (aX12_operands 100 rfl) (by decide) ?_
                              refine hw_icne (tgt := 206) (aX12_operands 101 rfl) (by decide) rfl (by decide : (13 : Int32).toInt = 13) (fun cd141 => ?_) (fun cd141 => ?_)
                              · refine xw_iloadn (aX12_operands 110 rfl) rfl ?_
                                refine hw_bp (v := (16 : Int32)) (aX12_operands 111 rfl) (by decide) ?_
                                refine hw_iceq (tgt := 232) (aX12_operands 112 rfl) (by decide) rfl (by decide : (16 : Int32).toInt = 16) (fun cd142 => ?_) (fun cd142 => ?_)
                                · refine hw_aloadn (aX12_operands 122 rfl) rfl ?_
                                  refine hw_aloadn (aX12_operands 123 rfl) rfl ?_
                                  refine hw_ic (v := (0 : Int32)) (aX12_operands 124 rfl) (by decide) ?_
                                  refine xw_iloadn (aX12_operands 125 rfl) rfl ?_
                                  refine hw_callV (Bs := [.int ((0 : Int32)), .int (a2)]) (rest := [.ref (base + 121)]) (aX12_operands 126 rfl) wc_RX12_238 (by decide) rfl wi_yX12_leb wv_yX12_leb (c121 hS) (s121 hS) rfl rfl rfl (Nat.le_of_ble_eq_true rfl) (Nat.le_of_ble_eq_true rfl) (m_leb (d := d) hS hF ((0 : Int32)) (a2) (by show ((h_up FI 121 38 ((0 : Int32))) 121 37).toInt ≤ (a2).toInt; rw [show (h_up FI 121 38 ((0 : Int32))) 121 37 = FI 121 37 from rfl]; show (FI 121 37).toInt ≤ (a2).toInt; omega) (by have := ((by decide : (0 : Int32).toInt = 0) : ((0 : Int32)).toInt = 0); show 0 ≤ ((0 : Int32)).toInt ∧ ((0 : Int32)).toInt ≤ 1; omega) (by show 0 ≤ (a2).toInt ∧ (a2).toInt ≤ 19200; omega) (by show 0 ≤ ((h_up FI 121 38 ((0 : Int32))) 121 37).toInt ∧ ((h_up FI 121 38 ((0 : Int32))) 121 37).toInt ≤ 19200; rw [show (h_up FI 121 38 ((0 : Int32))) 121 37 = FI 121 37 from rfl]; show 0 ≤ (FI 121 37).toInt ∧ (FI 121 37).toInt ≤ 19200; omega) (show h_ai 124 19200 0 255 (h_up FI 121 38 ((0 : Int32))) from (show h_ai 124 19200 0 255 (h_up FI 121 38 ((0 : Int32))) from (ai_nc ai124 (by decide))))) (fun v143 sv144 p145 => ?_)
                                  obtain ⟨r149, rfl, FI147, FL148, rfl, f146I, rfl, t150, t151, t152⟩ := p145
                                  have rg_r149 := l_rng r149
                                  rw [show (h_up FI 121 38 ((0 : Int32))) 121 37 = FI 121 37 from rfl] at t151
                                  rw [show (h_up FI 121 38 ((0 : Int32))) 121 37 = FI 121 37 from rfl] at t152
                                  show hw sk base _ none _ _ _ [.long (r149), .ref (base + 121)] _ _
                                  refine hw_putl (aX12_operands 127 rfl) wf_RX12_228 (c121 hS) (s121 hS) (by decide) rfl rfl ?_
                                  refine xw_goto (tgt := 427) (aX12_operands 128 rfl) (by decide) ?_
                                  refine xw_vret (aX12_operands 225 rfl) rfl ?_
                                  have e153 : ((0 : Int64)).toInt = 0 := (by decide : (0 : Int64).toInt = 0)
                                  exact ⟨rfl, _, _, rfl, (fr_tr (fr_up fr_rf (by decide)) f146I (by decide) (by decide)), (fr_up (fr_up (fr_up fr_rf (by decide)) (by decide)) (by decide)), (by show ((FI147 121 38)).toInt = 0 → (FI 121 37).toInt ≤ ((FI147 121 37)).toInt ∧ ((FI147 121 37)).toInt ≤ (a2).toInt; omega), (by show (a1).toInt = 21 → 0 ≤ ((r149)).toInt ∧ ((r149)).toInt ≤ 255; omega), (by show (a1).toInt = 152 ∨ (a1).toInt = 153 → 0 ≤ ((r149)).toInt; omega), (by show (a1).toInt = 158 ∧ ((FI147 121 38)).toInt = 0 → 0 ≤ ((r149)).toInt ∧ (FI 121 37).toInt ≤ (((0 : Int64))).toInt ∧ (((0 : Int64))).toInt + ((r149)).toInt ≤ (a2).toInt; omega)⟩
                                · refine xw_iloadn (aX12_operands 113 rfl) rfl ?_
                                  refine hw_bp (v := (35 : Int32)) (aX12_operands 114 rfl) (by decide) ?_
                                  refine hw_iceq (tgt := 232) (aX12_operands 115 rfl) (by decide) rfl (by decide : (35 : Int32).toInt = 35) (fun cd154 => ?_) (fun cd154 => ?_)
                                  · refine hw_aloadn (aX12_operands 122 rfl) rfl ?_
                                    refine hw_aloadn (aX12_operands 123 rfl) rfl ?_
                                    refine hw_ic (v := (0 : Int32)) (aX12_operands 124 rfl) (by decide) ?_
                                    refine xw_iloadn (aX12_operands 125 rfl) rfl ?_
                                    refine hw_callV (Bs := [.int ((0 : Int32)), .int (a2)]) (rest := [.ref (base + 121)]) (aX12_operands 126 rfl) wc_RX12_238 (by decide) rfl wi_yX12_leb wv_yX12_leb (c121 hS) (s121 hS) rfl rfl rfl (Nat.le_of_ble_eq_true rfl) (Nat.le_of_ble_eq_true rfl) (m_leb (d := d) hS hF ((0 : Int32)) (a2) (by show ((h_up FI 121 38 ((0 : Int32))) 121 37).toInt ≤ (a2).toInt; rw [show (h_up FI 121 38 ((0 : Int32))) 121 37 = FI 121 37 from rfl]; show (FI 121 37).toInt ≤ (a2).toInt; omega) (by have := ((by decide : (0 : Int32).toInt = 0) : ((0 : Int32)).toInt = 0); show 0 ≤ ((0 : Int32)).toInt ∧ ((0 : Int32)).toInt ≤ 1; omega) (by show 0 ≤ (a2).toInt ∧ (a2).toInt ≤ 19200; omega) (by show 0 ≤ ((h_up FI 121 38 ((0 : Int32))) 121 37).toInt ∧ ((h_up FI 121 38 ((0 : Int32))) 121 37).toInt ≤ 19200; rw [show (h_up FI 121 38 ((0 : Int32))) 121 37 = FI 121 37 from rfl]; show 0 ≤ (FI 121 37).toInt ∧ (FI 121 37).toInt ≤ 19200; omega) (show h_ai 124 19200 0 255 (h_up FI 121 38 ((0 : Int32))) from (show h_ai 124 19200 0 255 (h_up FI 121 38 ((0 : Int32))) from (ai_nc ai124 (by decide))))) (fun v155 sv156 p157 => ?_)
                                    obtain ⟨r161, rfl, FI159, FL160, rfl, f158I, rfl, t162, t163, t164⟩ := p157
                                    have rg_r161 := l_rng r161
                                    rw [show (h_up FI 121 38 ((0 : Int32))) 121 37 = FI 121 37 from rfl] at t163
                                    rw [show (h_up FI 121 38 ((0 : Int32))) 121 37 = FI 121 37 from rfl] at t164
                                    show hw sk base _ none _ _ _ [.long (r161), .ref (base + 121)] _ _
                                    refine hw_putl (aX12_operands 127 rfl) wf_RX12_228 (c121 hS) (s121 hS) (by decide) rfl rfl ?_
                                    refine xw_goto (tgt := 427) (aX12_operands 128 rfl) (by decide) ?_
                                    refine xw_vret (aX12_operands 225 rfl) rfl ?_
                                    have e165 : ((0 : Int64)).toInt = 0 := (by decide : (0 : Int64).toInt = 0)
                                    exact ⟨rfl, _, _, rfl, (fr_tr (fr_up fr_rf (by decide)) f158I (by decide) (by decide)), (fr_up (fr_up (fr_up fr_rf (by decide)) (by decide)) (by decide)), (by show ((FI159 121 38)).toInt = 0 → (FI 121 37).toInt ≤ ((FI159 121 37)).toInt ∧ ((FI159 121 37)).toInt ≤ (a2).toInt; omega), (by show (a1).toInt = 21 → 0 ≤ ((r161)).toInt ∧ ((r161)).toInt ≤ 255; omega), (by show (a1).toInt = 152 ∨ (a1).toInt = 153 → 0 ≤ ((r161)).toInt; omega), (by show (a1).toInt = 158 ∧ ((FI159 121 38)).toInt = 0 → 0 ≤ ((r161)).toInt ∧ (FI 121 37).toInt ≤ (((0 : Int64))).toInt ∧ (((0 : Int64))).toInt + ((r161)).toInt ≤ (a2).toInt; omega)⟩
                                  · refine xw_iloadn (aX12_operands 116 rfl) rfl ?_
                                    refine hw_sp (v := (144 : Int32)) (aX12_operands 117 rfl) (by decide) ?_
                                    refine hw_iceq (tgt := 232) (aX12_operands 118 rfl) (by decide) rfl (by decide : (144 : Int32).toInt = 144) (fun cd166 => ?_) (fun cd166 => ?_)
                                    · refine hw_aloadn (aX12_operands 122 rfl) rfl ?_
                                      refine hw_aloadn (aX12_operands 123 rfl) rfl ?_
                                      refine hw_ic (v := (0 : Int32)) (aX12_operands 124 rfl) (by decide) ?_
                                      refine xw_iloadn (aX12_operands 125 rfl) rfl ?_
                                      refine hw_callV (Bs := [.int ((0 : Int32)), .int (a2)]) (rest := [.ref (base + 121)]) (aX12_operands 126 rfl) wc_RX12_238 (by decide) rfl wi_yX12_leb wv_yX12_leb (c121 hS) (s121 hS) rfl rfl rfl (Nat.le_of_ble_eq_true rfl) (Nat.le_of_ble_eq_true rfl) (m_leb (d := d) hS hF ((0 : Int32)) (a2) (by show ((h_up FI 121 38 ((0 : Int32))) 121 37).toInt ≤ (a2).toInt; rw [show (h_up FI 121 38 ((0 : Int32))) 121 37 = FI 121 37 from rfl]; show (FI 121 37).toInt ≤ (a2).toInt; omega) (by have := ((by decide : (0 : Int32).toInt = 0) : ((0 : Int32)).toInt = 0); show 0 ≤ ((0 : Int32)).toInt ∧ ((0 : Int32)).toInt ≤ 1; omega) (by show 0 ≤ (a2).toInt ∧ (a2).toInt ≤ 19200; omega) (by show 0 ≤ ((h_up FI 121 38 ((0 : Int32))) 121 37).toInt ∧ ((h_up FI 121 38 ((0 : Int32))) 121 37).toInt ≤ 19200; rw [show (h_up FI 121 38 ((0 : Int32))) 121 37 = FI 121 37 from rfl]; show 0 ≤ (FI 121 37).toInt ∧ (FI 121 37).toInt ≤ 19200; omega) (show h_ai 124 19200 0 255 (h_up FI 121 38 ((0 : Int32))) from (show h_ai 124 19200 0 255 (h_up FI 121 38 ((0 : Int32))) from (ai_nc ai124 (by decide))))) (fun v167 sv168 p169 => ?_)
                                      obtain ⟨r173, rfl, FI171, FL172, rfl, f170I, rfl, t174, t175, t176⟩ := p169
                                      have rg_r173 := l_rng r173
                                      rw [show (h_up FI 121 38 ((0 : Int32))) 121 37 = FI 121 37 from rfl] at t175
                                      rw [show (h_up FI 121 38 ((0 : Int32))) 121 37 = FI 121 37 from rfl] at t176
                                      show hw sk base _ none _ _ _ [.long (r173), .ref (base + 121)] _ _
                                      refine hw_putl (aX12_operands 127 rfl) wf_RX12_228 (c121 hS) (s121 hS) (by decide) rfl rfl ?_
                                      refine xw_goto (tgt := 427) (aX12_operands 128 rfl) (by decide) ?_
                                      refine xw_vret (aX12_operands 225 rfl) rfl ?_
                                      have e177 : ((0 : Int64)).toInt = 0 := (by decide : (0 : Int64).toInt = 0)
                                      exact ⟨rfl, _, _, rfl, (fr_tr (fr_up fr_rf (by decide)) f170I (by decide) (by decide)), (fr_up (fr_up (fr_up fr_rf (by decide)) (by decide)) (by decide)), (by show ((FI171 121 38)).toInt = 0 → (FI 121 37).toInt ≤ ((FI171 121 37)).toInt ∧ ((FI171 121 37)).toInt ≤ (a2).toInt; omega), (by show (a1).toInt = 21 → 0 ≤ ((r173)).toInt ∧ ((r173)).toInt ≤ 255; omega), (by show (a1).toInt = 152 ∨ (a1).toInt = 153 → 0 ≤ ((r173)).toInt; omega), (by show (a1).toInt = 158 ∧ ((FI171 121 38)).toInt = 0 → 0 ≤ ((r173)).toInt ∧ (FI 121 37).toInt ≤ (((0 : Int64))).toInt ∧ (((0 : Int64))).toInt + ((r173)).toInt ≤ (a2).toInt; omega)⟩
                                    · refine xw_iloadn (aX12_operands 119 rfl) rfl ?_
                                      refine hw_sp (v := (147 : Int32)) (aX12_operands 120 rfl) (by decide) ?_
                                      refine hw_icne (tgt := 245) (aX12_operands 121 rfl) (by decide) rfl (by decide : (147 : Int32).toInt = 147) (fun cd178 => ?_) (fun cd178 => ?_)
                                      · refine xw_iloadn (aX12_operands 129 rfl) rfl ?_
                                        refine hw_bp (v := (17 : Int32)) (aX12_operands 130 rfl) (by decide) ?_
                                        refine hw_iceq (tgt := 271) (aX12_operands 131 rfl) (by decide) rfl (by decide : (17 : Int32).toInt = 17) (fun cd179 => ?_) (fun cd179 => ?_)
                                        · refine hw_aloadn (aX12_operands 141 rfl) rfl ?_
                                          refine hw_aloadn (aX12_operands 142 rfl) rfl ?_
                                          refine hw_ic (v := (1 : Int32)) (aX12_operands 143 rfl) (by decide) ?_
                                          refine xw_iloadn (aX12_operands 144 rfl) rfl ?_
                                          refine hw_callV (Bs := [.int ((1 : Int32)), .int (a2)]) (rest := [.ref (base + 121)]) (aX12_operands 145 rfl) wc_RX12_238 (by decide) rfl wi_yX12_leb wv_yX12_leb (c121 hS) (s121 hS) rfl rfl rfl (Nat.le_of_ble_eq_true rfl) (Nat.le_of_ble_eq_true rfl) (m_leb (d := d) hS hF ((1 : Int32)) (a2) (by show ((h_up FI 121 38 ((0 : Int32))) 121 37).toInt ≤ (a2).toInt; rw [show (h_up FI 121 38 ((0 : Int32))) 121 37 = FI 121 37 from rfl]; show (FI 121 37).toInt ≤ (a2).toInt; omega) (by have := ((by decide : (1 : Int32).toInt = 1) : ((1 : Int32)).toInt = 1); show 0 ≤ ((1 : Int32)).toInt ∧ ((1 : Int32)).toInt ≤ 1; omega) (by show 0 ≤ (a2).toInt ∧ (a2).toInt ≤ 19200; omega) (by show 0 ≤ ((h_up FI 121 38 ((0 : Int32))) 121 37).toInt ∧ ((h_up FI 121 38 ((0 : Int32))) 121 37).toInt ≤ 19200; rw [show (h_up FI 121 38 ((0 : Int32))) 121 37 = FI 121 37 from rfl]; show 0 ≤ (FI 121 37).toInt ∧ (FI 121 37).toInt ≤ 19200; omega) (show h_ai 124 19200 0 255 (h_up FI 121 38 ((0 : Int32))) from (show h_ai 124 19200 0 255 (h_up FI 121 38 ((0 : Int32))) from (ai_nc ai124 (by decide))))) (fun v180 sv181 p182 => ?_)
                                          obtain ⟨r186, rfl, FI184, FL185, rfl, f183I, rfl, t187, t188, t189⟩ := p182
                                          have rg_r186 := l_rng r186
                                          rw [show (h_up FI 121 38 ((0 : Int32))) 121 37 = FI 121 37 from rfl] at t188
                                          rw [show (h_up FI 121 38 ((0 : Int32))) 121 37 = FI 121 37 from rfl] at t189
                                          show hw sk base _ none _ _ _ [.long (r186), .ref (base + 121)] _ _
                                          refine hw_putl (aX12_operands 146 rfl) wf_RX12_228 (c121 hS) (s121 hS) (by decide) rfl rfl ?_
                                          refine xw_goto (tgt := 427) (aX12_operands 147 rfl) (by decide) ?_
                                          refine xw_vret (aX12_operands 225 rfl) rfl ?_
                                          have e190 : ((0 : Int64)).toInt = 0 := (by decide : (0 : Int64).toInt = 0)
                                          exact ⟨rfl, _, _, rfl, (fr_tr (fr_up fr_rf (by decide)) f183I (by decide) (by decide)), (fr_up (fr_up (fr_up fr_rf (by decide)) (by decide)) (by decide)), (by show ((FI184 121 38)).toInt = 0 → (FI 121 37).toInt ≤ ((FI184 121 37)).toInt ∧ ((FI184 121 37)).toInt ≤ (a2).toInt; omega), (by show (a1).toInt = 21 → 0 ≤ ((r186)).toInt ∧ ((r186)).toInt ≤ 255; omega), (by show (a1).toInt = 152 ∨ (a1).toInt = 153 → 0 ≤ ((r186)).toInt; omega), (by show (a1).toInt = 158 ∧ ((FI184 121 38)).toInt = 0 → 0 ≤ ((r186)).toInt ∧ (FI 121 37).toInt ≤ (((0 : Int64))).toInt ∧ (((0 : Int64))).toInt + ((r186)).toInt ≤ (a2).toInt; omega)⟩
                                        · refine xw_iloadn (aX12_operands 132 rfl) rfl ?_
                                          refine hw_bp (v := (112 : Int32)) (aX12_operands 133 rfl) (by decide) ?_
                                          refine hw_iclt (tgt := 264) (aX12_operands 134 rfl) (by decide) rfl (by decide : (112 : Int32).toInt = 112) (fun cd191 => ?_) (fun cd191 => ?_)
                                          · refine xw_iloadn (aX12_operands 138 rfl) rfl ?_
                                            refine hw_sp (v := (145 : Int32)) (aX12_operands 139 rfl) (by decide) ?_
                                            refine hw_icne (tgt := 284) (aX12_operands 140 rfl) (by decide) rfl (by decide : (145 : Int32).toInt = 145) (fun cd192 => ?_) (fun cd192 => ?_)
                                            · refine xw_iloadn (aX12_operands 148 rfl) rfl ?_
                                              refine hw_sp (v := (146 : Int32)) (aX12_operands 149 rfl) (by decide) ?_
                                              refine hw_icne (tgt := 314) (aX12_operands 150 rfl) (by decide) rfl (by decide : (146 : Int32).toInt = 146) (fun cd193 => ?_) (fun cd193 => ?_)
                                              · refine xw_iloadn (aX12_operands 164 rfl) rfl ?_
                                                refine hw_sp (v := (157 : Int32)) (aX12_operands 165 rfl) (by decide) ?_
                                                refine hw_icne (tgt := 344) (aX12_operands 166 rfl) (by decide) rfl (by decide : (157 : Int32).toInt = 157) (fun cd194 => ?_) (fun cd194 => ?_)
                                                · refine xw_iloadn (aX12_operands 180 rfl) rfl ?_
                                                  refine hw_sp (v := (158 : Int32)) (aX12_operands 181 rfl) (by decide) ?_
                                                  refine hw_icne (tgt := 427) (aX12_operands 182 rfl) (by decide) rfl (by decide : (158 : Int32).toInt = 158) (fun cd195 => ?_) (fun cd195 => ?_)
                                                  · refine xw_vret (aX12_operands 225 rfl) rfl ?_
                                                    have e196 : ((0 : Int32)).toInt = 0 := (by decide : (0 : Int32).toInt = 0)
                                                    have e197 : ((0 : Int64)).toInt = 0 := (by decide : (0 : Int64).toInt = 0)
                                                    have e198 : ((0 : Int64)).toInt = 0 := (by decide : (0 : Int64).toInt = 0)
                                                    exact ⟨rfl, _, _, rfl, (fr_up fr_rf (by decide)), (fr_up (fr_up fr_rf (by decide)) (by decide)), (by show (((0 : Int32))).toInt = 0 → (FI 121 37).toInt ≤ ((FI 121 37)).toInt ∧ ((FI 121 37)).toInt ≤ (a2).toInt; omega), (by show (a1).toInt = 21 → 0 ≤ (((0 : Int64))).toInt ∧ (((0 : Int64))).toInt ≤ 255; omega), (by show (a1).toInt = 152 ∨ (a1).toInt = 153 → 0 ≤ (((0 : Int64))).toInt; omega), (by show (a1).toInt = 158 ∧ (((0 : Int32))).toInt = 0 → 0 ≤ (((0 : Int64))).toInt ∧ (FI 121 37).toInt ≤ (((0 : Int64))).toInt ∧ (((0 : Int64))).toInt + (((0 : Int64))).toInt ≤ (a2).toInt; omega)⟩
                                                  · omega
                                                · omega
                                              · omega
                                            · omega
                                          · refine xw_iloadn (aX12_operands 135 rfl) rfl ?_
                                            refine hw_sp (v := (143 : Int32)) (aX12_operands 136 rfl) (by decide) ?_
                                            refine hw_icle (tgt := 271) (aX12_operands 137 rfl) (by decide) rfl (by decide : (143 : Int32).toInt = 143) (fun cd199 => ?_) (fun cd199 => ?_)
                                            · refine hw_aloadn (aX12_operands 141 rfl) rfl ?_
                                              refine hw_aloadn (aX12_operands 142 rfl) rfl ?_
                                              refine hw_ic (v := (1 : Int32)) (aX12_operands 143 rfl) (by decide) ?_
                                              refine xw_iloadn (aX12_operands 144 rfl) rfl ?_
                                              refine hw_callV (Bs := [.int ((1 : Int32)), .int (a2)]) (rest := [.ref (base + 121)]) (aX12_operands 145 rfl) wc_RX12_238 (by decide) rfl wi_yX12_leb wv_yX12_leb (c121 hS) (s121 hS) rfl rfl rfl (Nat.le_of_ble_eq_true rfl) (Nat.le_of_ble_eq_true rfl) (m_leb (d := d) hS hF ((1 : Int32)) (a2) (by show ((h_up FI 121 38 ((0 : Int32))) 121 37).toInt ≤ (a2).toInt; rw [show (h_up FI 121 38 ((0 : Int32))) 121 37 = FI 121 37 from rfl]; show (FI 121 37).toInt ≤ (a2).toInt; omega) (by have := ((by decide : (1 : Int32).toInt = 1) : ((1 : Int32)).toInt = 1); show 0 ≤ ((1 : Int32)).toInt ∧ ((1 : Int32)).toInt ≤ 1; omega) (by show 0 ≤ (a2).toInt ∧ (a2).toInt ≤ 19200; omega) (by show 0 ≤ ((h_up FI 121 38 ((0 : Int32))) 121 37).toInt ∧ ((h_up FI 121 38 ((0 : Int32))) 121 37).toInt ≤ 19200; rw [show (h_up FI 121 38 ((0 : Int32))) 121 37 = FI 121 37 from rfl]; show 0 ≤ (FI 121 37).toInt ∧ (FI 121 37).toInt ≤ 19200; omega) (show h_ai 124 19200 0 255 (h_up FI 121 38 ((0 : Int32))) from (show h_ai 124 19200 0 255 (h_up FI 121 38 ((0 : Int32))) from (ai_nc ai124 (by decide))))) (fun v200 sv201 p202 => ?_)
                                              obtain ⟨r206, rfl, FI204, FL205, rfl, f203I, rfl, t207, t208, t209⟩ := p202
                                              have rg_r206 := l_rng r206
                                              rw [show (h_up FI 121 38 ((0 : Int32))) 121 37 = FI 121 37 from rfl] at t208
                                              rw [show (h_up FI 121 38 ((0 : Int32))) 121 37 = FI 121 37 from rfl] at t209
                                              show hw sk base _ none _ _ _ [.long (r206), .ref (base + 121)] _ _
                                              refine hw_putl (aX12_operands 146 rfl) wf_RX12_228 (c121 hS) (s121 hS) (by decide) rfl rfl ?_
                                              refine xw_goto (tgt := 427) (aX12_operands 147 rfl) (by decide) ?_
                                              refine xw_vret (aX12_operands 225 rfl) rfl ?_
                                              have e210 : ((0 : Int64)).toInt = 0 := (by decide : (0 : Int64).toInt = 0)
                                              exact ⟨rfl, _, _, rfl, (fr_tr (fr_up fr_rf (by decide)) f203I (by decide) (by decide)), (fr_up (fr_up (fr_up fr_rf (by decide)) (by decide)) (by decide)), (by show ((FI204 121 38)).toInt = 0 → (FI 121 37).toInt ≤ ((FI204 121 37)).toInt ∧ ((FI204 121 37)).toInt ≤ (a2).toInt; omega), (by show (a1).toInt = 21 → 0 ≤ ((r206)).toInt ∧ ((r206)).toInt ≤ 255; omega), (by show (a1).toInt = 152 ∨ (a1).toInt = 153 → 0 ≤ ((r206)).toInt; omega), (by show (a1).toInt = 158 ∧ ((FI204 121 38)).toInt = 0 → 0 ≤ ((r206)).toInt ∧ (FI 121 37).toInt ≤ (((0 : Int64))).toInt ∧ (((0 : Int64))).toInt + ((r206)).toInt ≤ (a2).toInt; omega)⟩
                                            · refine xw_iloadn (aX12_operands 138 rfl) rfl ?_
                                              refine hw_sp (v := (145 : Int32)) (aX12_operands 139 rfl) (by decide) ?_
                                              refine hw_icne (tgt := 284) (aX12_operands 140 rfl) (by decide) rfl (by decide : (145 : Int32).toInt = 145) (fun cd211 => ?_) (fun cd211 => ?_)
                                              · refine xw_iloadn (aX12_operands 148 rfl) rfl ?_
                                                refine hw_sp (v := (146 : Int32)) (aX12_operands 149 rfl) (by decide) ?_
                                                refine hw_icne (tgt := 314) (aX12_operands 150 rfl) (by decide) rfl (by decide : (146 : Int32).toInt = 146) (fun cd212 => ?_) (fun cd212 => ?_)
                                                · refine xw_iloadn (aX12_operands 164 rfl) rfl ?_
                                                  refine hw_sp (v := (157 : Int32)) (aX12_operands 165 rfl) (by decide) ?_
                                                  refine hw_icne (tgt := 344) (aX12_operands 166 rfl) (by decide) rfl (by decide : (157 : Int32).toInt = 157) (fun cd213 => ?_) (fun cd213 => ?_)
                                                  · refine xw_iloadn (aX12_operands 180 rfl) rfl ?_
                                                    refine hw_sp (v := (158 : Int32)) (aX12_operands 181 rfl) (by decide) ?_
                                                    refine hw_icne (tgt := 427) (aX12_operands 182 rfl) (by decide) rfl (by decide : (158 : Int32).toInt = 158) (fun cd214 => ?_) (fun cd214 => ?_)
                                                    · refine xw_vret (aX12_operands 225 rfl) rfl ?_
                                                      have e215 : ((0 : Int32)).toInt = 0 := (by decide : (0 : Int32).toInt = 0)
                                                      have e216 : ((0 : Int64)).toInt = 0 := (by decide : (0 : Int64).toInt = 0)
                                                      have e217 : ((0 : Int64)).toInt = 0 := (by decide : (0 : Int64).toInt = 0)
                                                      exact ⟨rfl, _, _, rfl, (fr_up fr_rf (by decide)), (fr_up (fr_up fr_rf (by decide)) (by decide)), (by show (((0 : Int32))).toInt = 0 → (FI 121 37).toInt ≤ ((FI 121 37)).toInt ∧ ((FI 121 37)).toInt ≤ (a2).toInt; omega), (by show (a1).toInt = 21 → 0 ≤ (((0 : Int64))).toInt ∧ (((0 : Int64))).toInt ≤ 255; omega), (by show (a1).toInt = 152 ∨ (a1).toInt = 153 → 0 ≤ (((0 : Int64))).toInt; omega), (by show (a1).toInt = 158 ∧ (((0 : Int32))).toInt = 0 → 0 ≤ (((0 : Int64))).toInt ∧ (FI 121 37).toInt ≤ (((0 : Int64))).toInt ∧ (((0 : Int64))).toInt + (((0 : Int64))).toInt ≤ (a2).toInt; omega)⟩
                                                    · refine hw_aloadn (aX12_operands 183 rfl) rfl ?_
                                                      refine hw_aloadn (aX12_operands 184 rfl) rfl ?_
                                                      refine hw_ic (v := (0 : Int32)) (aX12_operands 185 rfl) (by decide) ?_
                                                      refine xw_iloadn (aX12_operands 186 rfl) rfl ?_
                                                      refine hw_callV (Bs := [.int ((0 : Int32)), .int (a2)]) (rest := [.ref (base + 121)]) (aX12_operands 187 rfl) wc_RX12_238 (by decide) rfl wi_yX12_leb wv_yX12_leb (c121 hS) (s121 hS) rfl rfl rfl (Nat.le_of_ble_eq_true rfl) (Nat.le_of_ble_eq_true rfl) (m_leb (d := d) hS hF ((0 : Int32)) (a2) (by show ((h_up FI 121 38 ((0 : Int32))) 121 37).toInt ≤ (a2).toInt; rw [show (h_up FI 121 38 ((0 : Int32))) 121 37 = FI 121 37 from rfl]; show (FI 121 37).toInt ≤ (a2).toInt; omega) (by have := ((by decide : (0 : Int32).toInt = 0) : ((0 : Int32)).toInt = 0); show 0 ≤ ((0 : Int32)).toInt ∧ ((0 : Int32)).toInt ≤ 1; omega) (by show 0 ≤ (a2).toInt ∧ (a2).toInt ≤ 19200; omega) (by show 0 ≤ ((h_up FI 121 38 ((0 : Int32))) 121 37).toInt ∧ ((h_up FI 121 38 ((0 : Int32))) 121 37).toInt ≤ 19200; rw [show (h_up FI 121 38 ((0 : Int32))) 121 37 = FI 121 37 from rfl]; show 0 ≤ (FI 121 37).toInt ∧ (FI 121 37).toInt ≤ 19200; omega) (show h_ai 124 19200 0 255 (h_up FI 121 38 ((0 : Int32))) from (show h_ai 124 19200 0 255 (h_up FI 121 38 ((0 : Int32))) from (ai_nc ai124 (by decide))))) (fun v218 sv219 p220 => ?_)
                                                      obtain ⟨r224, rfl, FI222, FL223, rfl, f221I, rfl, t225, t226, t227⟩ := p220
                                                      have rg_r224 := l_rng r224
                                                      rw [show (h_up FI 121 38 ((0 : Int32))) 121 37 = FI 121 37 from rfl] at t226
                                                      rw [show (h_up FI 121 38 ((0 : Int32))) 121 37 = FI 121 37 from rfl] at t227
                                                      show hw sk base _ none _ _ _ [.long (r224), .ref (base + 121)] _ _
                                                      refine hw_putl (aX12_operands 188 rfl) wf_RX12_228 (c121 hS) (s121 hS) (by decide) rfl rfl ?_
                                                      refine hw_aloadn (aX12_operands 189 rfl) rfl ?_
                                                      refine hw_get (v := .int (FI222 121 38)) (aX12_operands 190 rfl) wf_RX12_220 (c121 hS) (s121 hS) (by decide) (congrArg Value.int (show FI222 121 38 = FI222 121 38 from rfl)) ?_
                                                      have e228 := i_rng (FI222 121 38)
                                                      refine hw_ifne (tgt := 397) (aX12_operands 191 rfl) (by decide) rfl (fun cd229 => ?_) (fun cd229 => ?_)
                                                      · refine hw_aloadn (aX12_operands 209 rfl) rfl ?_
                                                        refine hw_get (v := .int (FI222 121 38)) (aX12_operands 210 rfl) wf_RX12_220 (c121 hS) (s121 hS) (by decide) (congrArg Value.int (show FI222 121 38 = FI222 121 38 from rfl)) ?_
                                                        refine hw_ifne (tgt := 427) (aX12_operands 211 rfl) (by decide) rfl (fun cd230 => ?_) (fun cd230 => ?_)
                                                        · refine xw_vret (aX12_operands 225 rfl) rfl ?_
                                                          have e231 : ((0 : Int64)).toInt = 0 := (by decide : (0 : Int64).toInt = 0)
                                                          exact ⟨rfl, _, _, rfl, (fr_tr (fr_up fr_rf (by decide)) f221I (by decide) (by decide)), (fr_up (fr_up (fr_up fr_rf (by decide)) (by decide)) (by decide)), (by show ((FI222 121 38)).toInt = 0 → (FI 121 37).toInt ≤ ((FI222 121 37)).toInt ∧ ((FI222 121 37)).toInt ≤ (a2).toInt; omega), (by show (a1).toInt = 21 → 0 ≤ ((r224)).toInt ∧ ((r224)).toInt ≤ 255; omega), (by show (a1).toInt = 152 ∨ (a1).toInt = 153 → 0 ≤ ((r224)).toInt; omega), (by show (a1).toInt = 158 ∧ ((FI222 121 38)).toInt = 0 → 0 ≤ ((r224)).toInt ∧ (FI 121 37).toInt ≤ (((0 : Int64))).toInt ∧ (((0 : Int64))).toInt + ((r224)).toInt ≤ (a2).toInt; omega)⟩
                                                        · refine hw_aloadn (aX12_operands 212 rfl) rfl ?_
                                                          refine hw_aloadn (aX12_operands 213 rfl) rfl ?_
                                                          refine hw_get (v := .int (FI222 121 37)) (aX12_operands 214 rfl) wf_RX12_223 (c121 hS) (s121 hS) (by decide) (congrArg Value.int (show FI222 121 37 = FI222 121 37 from rfl)) ?_
                                                          refine xw_i2l (aX12_operands 215 rfl) ?_
                                                          refine hw_tle (A := (FI222 121 37).toInt) (i_2l rfl) (fun x232 e233 => ?_)
                                                          refine hw_putl (aX12_operands 216 rfl) wf_RX12_231 (c121 hS) (s121 hS) (by decide) rfl rfl ?_
                                                          refine hw_aloadn (aX12_operands 217 rfl) rfl ?_
                                                          refine hw_aloadn (aX12_operands 218 rfl) rfl ?_
                                                          refine hw_get (v := .int (FI222 121 37)) (aX12_operands 219 rfl) wf_RX12_223 (c121 hS) (s121 hS) (by decide) (congrArg Value.int (show FI222 121 37 = FI222 121 37 from rfl)) ?_
                                                          refine hw_aloadn (aX12_operands 220 rfl) rfl ?_
                                                          refine hw_get (v := .long (r224)) (aX12_operands 221 rfl) wf_RX12_228 (c121 hS) (s121 hS) (by decide) (congrArg Value.long (show (h_up (h_up (h_up (h_up FL 121 35 ((0 : Int64))) 121 36 ((0 : Int64))) 121 35 (r224)) 121 36 (x232)) 121 35 = r224 from rfl)) ?_
                                                          have e234 : 0 ≤ (r224).toInt ∧ (r224).toInt ≤ 19200 := by omega
                                                          refine xw_l2i (aX12_operands 222 rfl) ?_
                                                          refine hw_tie (A := (r224).toInt) (l_2i rfl (by omega) (by omega)) (fun x235 e236 => ?_)
                                                          refine xw_iadd (aX12_operands 223 rfl) ?_
                                                          refine hw_tie (A := ((FI222 121 37).toInt) + ((r224).toInt)) (i_add rfl e236 (by omega) (by omega)) (fun x237 e238 => ?_)
                                                          refine hw_puti (aX12_operands 224 rfl) wf_RX12_223 (c121 hS) (s121 hS) (by decide) rfl rfl ?_
                                                          refine xw_vret (aX12_operands 225 rfl) rfl ?_
                                                          have e239 : (x237).toInt = ((FI222 121 37).toInt) + ((r224).toInt) := e238
                                                          have e240 : (x232).toInt = (FI222 121 37).toInt := e233
                                                          exact ⟨rfl, _, _, rfl, (fr_up (fr_tr (fr_up fr_rf (by decide)) f221I (by decide) (by decide)) (by decide)), (fr_up (fr_up (fr_up (fr_up fr_rf (by decide)) (by decide)) (by decide)) (by decide)), (by show ((FI222 121 38)).toInt = 0 → (FI 121 37).toInt ≤ ((x237)).toInt ∧ ((x237)).toInt ≤ (a2).toInt; omega), (by show (a1).toInt = 21 → 0 ≤ ((r224)).toInt ∧ ((r224)).toInt ≤ 255; omega), (by show (a1).toInt = 152 ∨ (a1).toInt = 153 → 0 ≤ ((r224)).toInt; omega), (by show (a1).toInt = 158 ∧ ((FI222 121 38)).toInt = 0 → 0 ≤ ((r224)).toInt ∧ (FI 121 37).toInt ≤ ((x232)).toInt ∧ ((x232)).toInt + ((r224)).toInt ≤ (a2).toInt; omega)⟩
                                                      · refine hw_aloadn (aX12_operands 192 rfl) rfl ?_
                                                        refine hw_get (v := .long (r224)) (aX12_operands 193 rfl) wf_RX12_228 (c121 hS) (s121 hS) (by decide) (congrArg Value.long (show (h_up (h_up (h_up FL 121 35 ((0 : Int64))) 121 36 ((0 : Int64))) 121 35 (r224)) 121 35 = r224 from rfl)) ?_
                                                        refine hw_lc (v := (0 : Int64)) (aX12_operands 194 rfl) (by decide) ?_
                                                        refine hw_lclt (tgt := 392) (aX12_operands 195 rfl) (aX12_operands 196 rfl) (by decide) rfl (by decide : (0 : Int64).toInt = 0) (fun cd241 => ?_) (fun cd241 => ?_)
                                                        · refine hw_aloadn (aX12_operands 206 rfl) rfl ?_
                                                          refine hw_ic (v := (1 : Int32)) (aX12_operands 207 rfl) (by decide) ?_
                                                          refine hw_puti (aX12_operands 208 rfl) wf_RX12_220 (c121 hS) (s121 hS) (by decide) rfl rfl ?_
                                                          refine hw_aloadn (aX12_operands 209 rfl) rfl ?_
                                                          refine hw_get (v := .int ((1 : Int32))) (aX12_operands 210 rfl) wf_RX12_220 (c121 hS) (s121 hS) (by decide) (congrArg Value.int (show (h_up FI222 121 38 ((1 : Int32))) 121 38 = (1 : Int32) from rfl)) ?_
                                                          refine hw_ifne (tgt := 427) (aX12_operands 211 rfl) (by decide) (by decide : (1 : Int32).toInt = 1) (fun cd242 => ?_) (fun cd242 => ?_)
                                                          · refine xw_vret (aX12_operands 225 rfl) rfl ?_
                                                            have e243 : ((1 : Int32)).toInt = 1 := (by decide : (1 : Int32).toInt = 1)
                                                            have e244 : ((0 : Int64)).toInt = 0 := (by decide : (0 : Int64).toInt = 0)
                                                            exact ⟨rfl, _, _, rfl, (fr_up (fr_tr (fr_up fr_rf (by decide)) f221I (by decide) (by decide)) (by decide)), (fr_up (fr_up (fr_up fr_rf (by decide)) (by decide)) (by decide)), (by show (((1 : Int32))).toInt = 0 → (FI 121 37).toInt ≤ ((FI222 121 37)).toInt ∧ ((FI222 121 37)).toInt ≤ (a2).toInt; omega), (by show (a1).toInt = 21 → 0 ≤ ((r224)).toInt ∧ ((r224)).toInt ≤ 255; omega), (by show (a1).toInt = 152 ∨ (a1).toInt = 153 → 0 ≤ ((r224)).toInt; omega), (by show (a1).toInt = 158 ∧ (((1 : Int32))).toInt = 0 → 0 ≤ ((r224)).toInt ∧ (FI 121 37).toInt ≤ (((0 : Int64))).toInt ∧ (((0 : Int64))).toInt + ((r224)).toInt ≤ (a2).toInt; omega)⟩
                                                          · omega
                                                        · refine hw_aloadn (aX12_operands 197 rfl) rfl ?_
                                                          refine hw_get (v := .long (r224)) (aX12_operands 198 rfl) wf_RX12_228 (c121 hS) (s121 hS) (by decide) (congrArg Value.long (show (h_up (h_up (h_up FL 121 35 ((0 : Int64))) 121 36 ((0 : Int64))) 121 35 (r224)) 121 35 = r224 from rfl)) ?_
                                                          refine xw_iloadn (aX12_operands 199 rfl) rfl ?_
                                                          refine hw_aloadn (aX12_operands 200 rfl) rfl ?_
                                                          refine hw_get (v := .int (FI222 121 37)) (aX12_operands 201 rfl) wf_RX12_223 (c121 hS) (s121 hS) (by decide) (congrArg Value.int (show FI222 121 37 = FI222 121 37 from rfl)) ?_
                                                          refine xw_isub (aX12_operands 202 rfl) ?_
                                                          refine hw_tie (A := ((a2).toInt) - ((FI222 121 37).toInt)) (i_sub rfl rfl (by omega) (by omega)) (fun x245 e246 => ?_)
                                                          refine xw_i2l (aX12_operands 203 rfl) ?_
                                                          refine hw_tle (A := ((a2).toInt) - ((FI222 121 37).toInt)) (i_2l e246) (fun x247 e248 => ?_)
                                                          refine hw_lcle (tgt := 397) (aX12_operands 204 rfl) (aX12_operands 205 rfl) (by decide) rfl e248 (fun cd249 => ?_) (fun cd249 => ?_)
                                                          · refine hw_aloadn (aX12_operands 209 rfl) rfl ?_
                                                            refine hw_get (v := .int (FI222 121 38)) (aX12_operands 210 rfl) wf_RX12_220 (c121 hS) (s121 hS) (by decide) (congrArg Value.int (show FI222 121 38 = FI222 121 38 from rfl)) ?_
                                                            refine hw_ifne (tgt := 427) (aX12_operands 211 rfl) (by decide) rfl (fun cd250 => ?_) (fun cd250 => ?_)
                                                            · omega
                                                            · refine hw_aloadn (aX12_operands 212 rfl) rfl ?_
                                                              refine hw_aloadn (aX12_operands 213 rfl) rfl ?_
                                                              refine hw_get (v := .int (FI222 121 37)) (aX12_operands 214 rfl) wf_RX12_223 (c121 hS) (s121 hS) (by decide) (congrArg Value.int (show FI222 121 37 = FI222 121 37 from rfl)) ?_
                                                              refine xw_i2l (aX12_operands 215 rfl) ?_
                                                              refine hw_tle (A := (FI222 121 37).toInt) (i_2l rfl) (fun x251 e252 => ?_)
                                                              refine hw_putl (aX12_operands 216 rfl) wf_RX12_231 (c121 hS) (s121 hS) (by decide) rfl rfl ?_
                                                              refine hw_aloadn (aX12_operands 217 rfl) rfl ?_
                                                              refine hw_aloadn (aX12_operands 218 rfl) rfl ?_
                                                              refine hw_get (v := .int (FI222 121 37)) (aX12_operands 219 rfl) wf_RX12_223 (c121 hS) (s121 hS) (by decide) (congrArg Value.int (show FI222 121 37 = FI222 121 37 from rfl)) ?_
                                                              refine hw_aloadn (aX12_operands 220 rfl) rfl ?_
                                                              refine hw_get (v := .long (r224)) (aX12_operands 221 rfl) wf_RX12_228 (c121 hS) (s121 hS) (by decide) (congrArg Value.long (show (h_up (h_up (h_up (h_up FL 121 35 ((0 : Int64))) 121 36 ((0 : Int64))) 121 35 (r224)) 121 36 (x251)) 121 35 = r224 from rfl)) ?_
                                                              have e253 : 0 ≤ (r224).toInt ∧ (r224).toInt ≤ 19200 := by omega
                                                              refine xw_l2i (aX12_operands 222 rfl) ?_
                                                              refine hw_tie (A := (r224).toInt) (l_2i rfl (by omega) (by omega)) (fun x254 e255 => ?_)
                                                              refine xw_iadd (aX12_operands 223 rfl) ?_
                                                              refine hw_tie (A := ((FI222 121 37).toInt) + ((r224).toInt)) (i_add rfl e255 (by omega) (by omega)) (fun x256 e257 => ?_)
                                                              refine hw_puti (aX12_operands 224 rfl) wf_RX12_223 (c121 hS) (s121 hS) (by decide) rfl rfl ?_
                                                              refine xw_vret (aX12_operands 225 rfl) rfl ?_
                                                              have e258 : (x256).toInt = ((FI222 121 37).toInt) + ((r224).toInt) := e257
                                                              have e259 : (x251).toInt = (FI222 121 37).toInt := e252
                                                              exact ⟨rfl, _, _, rfl, (fr_up (fr_tr (fr_up fr_rf (by decide)) f221I (by decide) (by decide)) (by decide)), (fr_up (fr_up (fr_up (fr_up fr_rf (by decide)) (by decide)) (by decide)) (by decide)), (by show ((FI222 121 38)).toInt = 0 → (FI 121 37).toInt ≤ ((x256)).toInt ∧ ((x256)).toInt ≤ (a2).toInt; omega), (by show (a1).toInt = 21 → 0 ≤ ((r224)).toInt ∧ ((r224)).toInt ≤ 255; omega), (by show (a1).toInt = 152 ∨ (a1).toInt = 153 → 0 ≤ ((r224)).toInt; omega), (by show (a1).toInt = 158 ∧ ((FI222 121 38)).toInt = 0 → 0 ≤ ((r224)).toInt ∧ (FI 121 37).toInt ≤ ((x251)).toInt ∧ ((x251)).toInt + ((r224)).toInt ≤ (a2).toInt; omega)⟩
                                                          · refine hw_aloadn (aX12_operands 206 rfl) rfl ?_
                                                            refine hw_ic (v := (1 : Int32)) (aX12_operands 207 rfl) (by decide) ?_
                                                            refine hw_puti (aX12_operands 208 rfl) wf_RX12_220 (c121 hS) (s121 hS) (by decide) rfl rfl ?_
                                                            refine hw_aloadn (aX12_operands 209 rfl) rfl ?_
                                                            refine hw_get (v := .int ((1 : Int32))) (aX12_operands 210 rfl) wf_RX12_220 (c121 hS) (s121 hS) (by decide) (congrArg Value.int (show (h_up FI222 121 38 ((1 : Int32))) 121 38 = (1 : Int32) from rfl)) ?_
                                                            refine hw_ifne (tgt := 427) (aX12_operands 211 rfl) (by decide) (by decide : (1 : Int32).toInt = 1) (fun cd260 => ?_) (fun cd260 => ?_)
                                                            · refine xw_vret (aX12_operands 225 rfl) rfl ?_
                                                              have e261 : ((1 : Int32)).toInt = 1 := (by decide : (1 : Int32).toInt = 1)
                                                              have e262 : ((0 : Int64)).toInt = 0 := (by decide : (0 : Int64).toInt = 0)
                                                              exact ⟨rfl, _, _, rfl, (fr_up (fr_tr (fr_up fr_rf (by decide)) f221I (by decide) (by decide)) (by decide)), (fr_up (fr_up (fr_up fr_rf (by decide)) (by decide)) (by decide)), (by show (((1 : Int32))).toInt = 0 → (FI 121 37).toInt ≤ ((FI222 121 37)).toInt ∧ ((FI222 121 37)).toInt ≤ (a2).toInt; omega), (by show (a1).toInt = 21 → 0 ≤ ((r224)).toInt ∧ ((r224)).toInt ≤ 255; omega), (by show (a1).toInt = 152 ∨ (a1).toInt = 153 → 0 ≤ ((r224)).toInt; omega), (by show (a1).toInt = 158 ∧ (((1 : Int32))).toInt = 0 → 0 ≤ ((r224)).toInt ∧ (FI 121 37).toInt ≤ (((0 : Int64))).toInt ∧ (((0 : Int64))).toInt + ((r224)).toInt ≤ (a2).toInt; omega)⟩
                                                            · omega
                                                  · refine hw_aloadn (aX12_operands 167 rfl) rfl ?_
                                                    refine hw_aloadn (aX12_operands 168 rfl) rfl ?_
                                                    refine hw_ic (v := (0 : Int32)) (aX12_operands 169 rfl) (by decide) ?_
                                                    refine xw_iloadn (aX12_operands 170 rfl) rfl ?_
                                                    refine hw_callV (Bs := [.int ((0 : Int32)), .int (a2)]) (rest := [.ref (base + 121)]) (aX12_operands 171 rfl) wc_RX12_238 (by decide) rfl wi_yX12_leb wv_yX12_leb (c121 hS) (s121 hS) rfl rfl rfl (Nat.le_of_ble_eq_true rfl) (Nat.le_of_ble_eq_true rfl) (m_leb (d := d) hS hF ((0 : Int32)) (a2) (by show ((h_up FI 121 38 ((0 : Int32))) 121 37).toInt ≤ (a2).toInt; rw [show (h_up FI 121 38 ((0 : Int32))) 121 37 = FI 121 37 from rfl]; show (FI 121 37).toInt ≤ (a2).toInt; omega) (by have := ((by decide : (0 : Int32).toInt = 0) : ((0 : Int32)).toInt = 0); show 0 ≤ ((0 : Int32)).toInt ∧ ((0 : Int32)).toInt ≤ 1; omega) (by show 0 ≤ (a2).toInt ∧ (a2).toInt ≤ 19200; omega) (by show 0 ≤ ((h_up FI 121 38 ((0 : Int32))) 121 37).toInt ∧ ((h_up FI 121 38 ((0 : Int32))) 121 37).toInt ≤ 19200; rw [show (h_up FI 121 38 ((0 : Int32))) 121 37 = FI 121 37 from rfl]; show 0 ≤ (FI 121 37).toInt ∧ (FI 121 37).toInt ≤ 19200; omega) (show h_ai 124 19200 0 255 (h_up FI 121 38 ((0 : Int32))) from (show h_ai 124 19200 0 255 (h_up FI 121 38 ((0 : Int32))) from (ai_nc ai124 (by decide))))) (fun v263 sv264 p265 => ?_)
                                                    obtain ⟨r269, rfl, FI267, FL268, rfl, f266I, rfl, t270, t271, t272⟩ := p265
                                                    have rg_r269 := l_rng r269
                                                    rw [show (h_up FI 121 38 ((0 : Int32))) 121 37 = FI 121 37 from rfl] at t271
                                                    rw [show (h_up FI 121 38 ((0 : Int32))) 121 37 = FI 121 37 from rfl] at t272
                                                    show hw sk base _ none _ _ _ [.long (r269), .ref (base + 121)] _ _
                                                    refine hw_putl (aX12_operands 172 rfl) wf_RX12_228 (c121 hS) (s121 hS) (by decide) rfl rfl ?_
                                                    refine hw_aloadn (aX12_operands 173 rfl) rfl ?_
                                                    refine hw_aloadn (aX12_operands 174 rfl) rfl ?_
                                                    refine hw_ic (v := (0 : Int32)) (aX12_operands 175 rfl) (by decide) ?_
                                                    refine xw_iloadn (aX12_operands 176 rfl) rfl ?_
                                                    refine hw_callV (Bs := [.int ((0 : Int32)), .int (a2)]) (rest := [.ref (base + 121)]) (aX12_operands 177 rfl) wc_RX12_238 (by decide) rfl wi_yX12_leb wv_yX12_leb (c121 hS) (s121 hS) rfl rfl rfl (Nat.le_of_ble_eq_true rfl) (Nat.le_of_ble_eq_true rfl) (m_leb (d := d) hS hF ((0 : Int32)) (a2) (by show ((FI267) 121 37).toInt ≤ (a2).toInt; rw [show (FI267) 121 37 = FI267 121 37 from rfl]; show (FI267 121 37).toInt ≤ (a2).toInt; omega) (by have := ((by decide : (0 : Int32).toInt = 0) : ((0 : Int32)).toInt = 0); show 0 ≤ ((0 : Int32)).toInt ∧ ((0 : Int32)).toInt ≤ 1; omega) (by show 0 ≤ (a2).toInt ∧ (a2).toInt ≤ 19200; omega) (by show 0 ≤ ((FI267) 121 37).toInt ∧ ((FI267) 121 37).toInt ≤ 19200; rw [show (FI267) 121 37 = FI267 121 37 from rfl]; show 0 ≤ (FI267 121 37).toInt ∧ (FI267 121 37).toInt ≤ 19200; omega) (show h_ai 124 19200 0 255 (FI267) from (ai_eq (show h_ai 124 19200 0 255 (h_up FI 121 38 ((0 : Int32))) from (ai_nc ai124 (by decide))) (f266I.2 124 (by decide) (by decide))))) (fun v273 sv274 p275 => ?_)
                                                    obtain ⟨r279, rfl, FI277, FL278, rfl, f276I, rfl, t280, t281, t282⟩ := p275
                                                    have rg_r279 := l_rng r279
                                                    rw [show (FI267) 121 37 = FI267 121 37 from rfl] at t281
                                                    rw [show (FI267) 121 37 = FI267 121 37 from rfl] at t282
                                                    show hw sk base _ none _ _ _ [.long (r279), .ref (base + 121)] _ _
                                                    refine hw_putl (aX12_operands 178 rfl) wf_RX12_231 (c121 hS) (s121 hS) (by decide) rfl rfl ?_
                                                    refine xw_goto (tgt := 427) (aX12_operands 179 rfl) (by decide) ?_
                                                    refine xw_vret (aX12_operands 225 rfl) rfl ?_
                                                    exact ⟨rfl, _, _, rfl, (fr_tr (fr_tr (fr_up fr_rf (by decide)) f266I (by decide) (by decide)) f276I (by decide) (by decide)), (fr_up (fr_up (fr_up (fr_up fr_rf (by decide)) (by decide)) (by decide)) (by decide)), (by show ((FI277 121 38)).toInt = 0 → (FI 121 37).toInt ≤ ((FI277 121 37)).toInt ∧ ((FI277 121 37)).toInt ≤ (a2).toInt; omega), (by show (a1).toInt = 21 → 0 ≤ ((r269)).toInt ∧ ((r269)).toInt ≤ 255; omega), (by show (a1).toInt = 152 ∨ (a1).toInt = 153 → 0 ≤ ((r269)).toInt; omega), (by show (a1).toInt = 158 ∧ ((FI277 121 38)).toInt = 0 → 0 ≤ ((r269)).toInt ∧ (FI 121 37).toInt ≤ ((r279)).toInt ∧ ((r279)).toInt + ((r269)).toInt ≤ (a2).toInt; omega)⟩
                                                · refine hw_aloadn (aX12_operands 151 rfl) rfl ?_
                                                  refine hw_aloadn (aX12_operands 152 rfl) rfl ?_
                                                  refine hw_ic (v := (0 : Int32)) (aX12_operands 153 rfl) (by decide) ?_
                                                  refine xw_iloadn (aX12_operands 154 rfl) rfl ?_
                                                  refine hw_callV (Bs := [.int ((0 : Int32)), .int (a2)]) (rest := [.ref (base + 121)]) (aX12_operands 155 rfl) wc_RX12_238 (by decide) rfl wi_yX12_leb wv_yX12_leb (c121 hS) (s121 hS) rfl rfl rfl (Nat.le_of_ble_eq_true rfl) (Nat.le_of_ble_eq_true rfl) (m_leb (d := d) hS hF ((0 : Int32)) (a2) (by show ((h_up FI 121 38 ((0 : Int32))) 121 37).toInt ≤ (a2).toInt; rw [show (h_up FI 121 38 ((0 : Int32))) 121 37 = FI 121 37 from rfl]; show (FI 121 37).toInt ≤ (a2).toInt; omega) (by have := ((by decide : (0 : Int32).toInt = 0) : ((0 : Int32)).toInt = 0); show 0 ≤ ((0 : Int32)).toInt ∧ ((0 : Int32)).toInt ≤ 1; omega) (by show 0 ≤ (a2).toInt ∧ (a2).toInt ≤ 19200; omega) (by show 0 ≤ ((h_up FI 121 38 ((0 : Int32))) 121 37).toInt ∧ ((h_up FI 121 38 ((0 : Int32))) 121 37).toInt ≤ 19200; rw [show (h_up FI 121 38 ((0 : Int32))) 121 37 = FI 121 37 from rfl]; show 0 ≤ (FI 121 37).toInt ∧ (FI 121 37).toInt ≤ 19200; omega) (show h_ai 124 19200 0 255 (h_up FI 121 38 ((0 : Int32))) from (show h_ai 124 19200 0 255 (h_up FI 121 38 ((0 : Int32))) from (ai_nc ai124 (by decide))))) (fun v283 sv284 p285 => ?_)
                                                  obtain ⟨r289, rfl, FI287, FL288, rfl, f286I, rfl, t290, t291, t292⟩ := p285
                                                  have rg_r289 := l_rng r289
                                                  rw [show (h_up FI 121 38 ((0 : Int32))) 121 37 = FI 121 37 from rfl] at t291
                                                  rw [show (h_up FI 121 38 ((0 : Int32))) 121 37 = FI 121 37 from rfl] at t292
                                                  show hw sk base _ none _ _ _ [.long (r289), .ref (base + 121)] _ _
                                                  refine hw_putl (aX12_operands 156 rfl) wf_RX12_228 (c121 hS) (s121 hS) (by decide) rfl rfl ?_
                                                  refine hw_aloadn (aX12_operands 157 rfl) rfl ?_
                                                  refine hw_aloadn (aX12_operands 158 rfl) rfl ?_
                                                  refine hw_ic (v := (1 : Int32)) (aX12_operands 159 rfl) (by decide) ?_
                                                  refine xw_iloadn (aX12_operands 160 rfl) rfl ?_
                                                  refine hw_callV (Bs := [.int ((1 : Int32)), .int (a2)]) (rest := [.ref (base + 121)]) (aX12_operands 161 rfl) wc_RX12_238 (by decide) rfl wi_yX12_leb wv_yX12_leb (c121 hS) (s121 hS) rfl rfl rfl (Nat.le_of_ble_eq_true rfl) (Nat.le_of_ble_eq_true rfl) (m_leb (d := d) hS hF ((1 : Int32)) (a2) (by show ((FI287) 121 37).toInt ≤ (a2).toInt; rw [show (FI287) 121 37 = FI287 121 37 from rfl]; show (FI287 121 37).toInt ≤ (a2).toInt; omega) (by have := ((by decide : (1 : Int32).toInt = 1) : ((1 : Int32)).toInt = 1); show 0 ≤ ((1 : Int32)).toInt ∧ ((1 : Int32)).toInt ≤ 1; omega) (by show 0 ≤ (a2).toInt ∧ (a2).toInt ≤ 19200; omega) (by show 0 ≤ ((FI287) 121 37).toInt ∧ ((FI287) 121 37).toInt ≤ 19200; rw [show (FI287) 121 37 = FI287 121 37 from rfl]; show 0 ≤ (FI287 121 37).toInt ∧ (FI287 121 37).toInt ≤ 19200; omega) (show h_ai 124 19200 0 255 (FI287) from (ai_eq (show h_ai 124 19200 0 255 (h_up FI 121 38 ((0 : Int32))) from (ai_nc ai124 (by decide))) (f286I.2 124 (by decide) (by decide))))) (fun v293 sv294 p295 => ?_)
                                                  obtain ⟨r299, rfl, FI297, FL298, rfl, f296I, rfl, t300, t301, t302⟩ := p295
                                                  have rg_r299 := l_rng r299
                                                  rw [show (FI287) 121 37 = FI287 121 37 from rfl] at t301
                                                  rw [show (FI287) 121 37 = FI287 121 37 from rfl] at t302
                                                  show hw sk base _ none _ _ _ [.long (r299), .ref (base + 121)] _ _
                                                  refine hw_putl (aX12_operands 162 rfl) wf_RX12_231 (c121 hS) (s121 hS) (by decide) rfl rfl ?_
                                                  refine xw_goto (tgt := 427) (aX12_operands 163 rfl) (by decide) ?_
                                                  refine xw_vret (aX12_operands 225 rfl) rfl ?_
                                                  exact ⟨rfl, _, _, rfl, (fr_tr (fr_tr (fr_up fr_rf (by decide)) f286I (by decide) (by decide)) f296I (by decide) (by decide)), (fr_up (fr_up (fr_up (fr_up fr_rf (by decide)) (by decide)) (by decide)) (by decide)), (by show ((FI297 121 38)).toInt = 0 → (FI 121 37).toInt ≤ ((FI297 121 37)).toInt ∧ ((FI297 121 37)).toInt ≤ (a2).toInt; omega), (by show (a1).toInt = 21 → 0 ≤ ((r289)).toInt ∧ ((r289)).toInt ≤ 255; omega), (by show (a1).toInt = 152 ∨ (a1).toInt = 153 → 0 ≤ ((r289)).toInt; omega), (by show (a1).toInt = 158 ∧ ((FI297 121 38)).toInt = 0 → 0 ≤ ((r289)).toInt ∧ (FI 121 37).toInt ≤ ((r299)).toInt ∧ ((r299)).toInt + ((r289)).toInt ≤ (a2).toInt; omega)⟩
                                              · refine hw_aloadn (aX12_operands 141 rfl) rfl ?_
                                                refine hw_aloadn (aX12_operands 142 rfl) rfl ?_
                                                refine hw_ic (v := (1 : Int32)) (aX12_operands 143 rfl) (by decide) ?_
                                                refine xw_iloadn (aX12_operands 144 rfl) rfl ?_
                                                refine hw_callV (Bs := [.int ((1 : Int32)), .int (a2)]) (rest := [.ref (base + 121)]) (aX12_operands 145 rfl) wc_RX12_238 (by decide) rfl wi_yX12_leb wv_yX12_leb (c121 hS) (s121 hS) rfl rfl rfl (Nat.le_of_ble_eq_true rfl) (Nat.le_of_ble_eq_true rfl) (m_leb (d := d) hS hF ((1 : Int32)) (a2) (by show ((h_up FI 121 38 ((0 : Int32))) 121 37).toInt ≤ (a2).toInt; rw [show (h_up FI 121 38 ((0 : Int32))) 121 37 = FI 121 37 from rfl]; show (FI 121 37).toInt ≤ (a2).toInt; omega) (by have := ((by decide : (1 : Int32).toInt = 1) : ((1 : Int32)).toInt = 1); show 0 ≤ ((1 : Int32)).toInt ∧ ((1 : Int32)).toInt ≤ 1; omega) (by show 0 ≤ (a2).toInt ∧ (a2).toInt ≤ 19200; omega) (by show 0 ≤ ((h_up FI 121 38 ((0 : Int32))) 121 37).toInt ∧ ((h_up FI 121 38 ((0 : Int32))) 121 37).toInt ≤ 19200; rw [show (h_up FI 121 38 ((0 : Int32))) 121 37 = FI 121 37 from rfl]; show 0 ≤ (FI 121 37).toInt ∧ (FI 121 37).toInt ≤ 19200; omega) (show h_ai 124 19200 0 255 (h_up FI 121 38 ((0 : Int32))) from (show h_ai 124 19200 0 255 (h_up FI 121 38 ((0 : Int32))) from (ai_nc ai124 (by decide))))) (fun v303 sv304 p305 => ?_)
                                                obtain ⟨r309, rfl, FI307, FL308, rfl, f306I, rfl, t310, t311, t312⟩ := p305
                                                have rg_r309 := l_rng r309
                                                rw [show (h_up FI 121 38 ((0 : Int32))) 121 37 = FI 121 37 from rfl] at t311
                                                rw [show (h_up FI 121 38 ((0 : Int32))) 121 37 = FI 121 37 from rfl] at t312
                                                show hw sk base _ none _ _ _ [.long (r309), .ref (base + 121)] _ _
                                                refine hw_putl (aX12_operands 146 rfl) wf_RX12_228 (c121 hS) (s121 hS) (by decide) rfl rfl ?_
                                                refine xw_goto (tgt := 427) (aX12_operands 147 rfl) (by decide) ?_
                                                refine xw_vret (aX12_operands 225 rfl) rfl ?_
                                                have e313 : ((0 : Int64)).toInt = 0 := (by decide : (0 : Int64).toInt = 0)
                                                exact ⟨rfl, _, _, rfl, (fr_tr (fr_up fr_rf (by decide)) f306I (by decide) (by decide)), (fr_up (fr_up (fr_up fr_rf (by decide)) (by decide)) (by decide)), (by show ((FI307 121 38)).toInt = 0 → (FI 121 37).toInt ≤ ((FI307 121 37)).toInt ∧ ((FI307 121 37)).toInt ≤ (a2).toInt; omega), (by show (a1).toInt = 21 → 0 ≤ ((r309)).toInt ∧ ((r309)).toInt ≤ 255; omega), (by show (a1).toInt = 152 ∨ (a1).toInt = 153 → 0 ≤ ((r309)).toInt; omega), (by show (a1).toInt = 158 ∧ ((FI307 121 38)).toInt = 0 → 0 ≤ ((r309)).toInt ∧ (FI 121 37).toInt ≤ (((0 : Int64))).toInt ∧ (((0 : Int64))).toInt + ((r309)).toInt ≤ (a2).toInt; omega)⟩
                                      · refine hw_aloadn (aX12_operands 122 rfl) rfl ?_
                                        refine hw_aloadn (aX12_operands 123 rfl) rfl ?_
                                        refine hw_ic (v := (0 : Int32)) (aX12_operands 124 rfl) (by decide) ?_
                                        refine xw_iloadn (aX12_operands 125 rfl) rfl ?_
                                        refine hw_callV (Bs := [.int ((0 : Int32)), .int (a2)]) (rest := [.ref (base + 121)]) (aX12_operands 126 rfl) wc_RX12_238 (by decide) rfl wi_yX12_leb wv_yX12_leb (c121 hS) (s121 hS) rfl rfl rfl (Nat.le_of_ble_eq_true rfl) (Nat.le_of_ble_eq_true rfl) (m_leb (d := d) hS hF ((0 : Int32)) (a2) (by show ((h_up FI 121 38 ((0 : Int32))) 121 37).toInt ≤ (a2).toInt; rw [show (h_up FI 121 38 ((0 : Int32))) 121 37 = FI 121 37 from rfl]; show (FI 121 37).toInt ≤ (a2).toInt; omega) (by have := ((by decide : (0 : Int32).toInt = 0) : ((0 : Int32)).toInt = 0); show 0 ≤ ((0 : Int32)).toInt ∧ ((0 : Int32)).toInt ≤ 1; omega) (by show 0 ≤ (a2).toInt ∧ (a2).toInt ≤ 19200; omega) (by show 0 ≤ ((h_up FI 121 38 ((0 : Int32))) 121 37).toInt ∧ ((h_up FI 121 38 ((0 : Int32))) 121 37).toInt ≤ 19200; rw [show (h_up FI 121 38 ((0 : Int32))) 121 37 = FI 121 37 from rfl]; show 0 ≤ (FI 121 37).toInt ∧ (FI 121 37).toInt ≤ 19200; omega) (show h_ai 124 19200 0 255 (h_up FI 121 38 ((0 : Int32))) from (show h_ai 124 19200 0 255 (h_up FI 121 38 ((0 : Int32))) from (ai_nc ai124 (by decide))))) (fun v314 sv315 p316 => ?_)
                                        obtain ⟨r320, rfl, FI318, FL319, rfl, f317I, rfl, t321, t322, t323⟩ := p316
                                        have rg_r320 := l_rng r320
                                        rw [show (h_up FI 121 38 ((0 : Int32))) 121 37 = FI 121 37 from rfl] at t322
                                        rw [show (h_up FI 121 38 ((0 : Int32))) 121 37 = FI 121 37 from rfl] at t323
                                        show hw sk base _ none _ _ _ [.long (r320), .ref (base + 121)] _ _
                                        refine hw_putl (aX12_operands 127 rfl) wf_RX12_228 (c121 hS) (s121 hS) (by decide) rfl rfl ?_
                                        refine xw_goto (tgt := 427) (aX12_operands 128 rfl) (by decide) ?_
                                        refine xw_vret (aX12_operands 225 rfl) rfl ?_
                                        have e324 : ((0 : Int64)).toInt = 0 := (by decide : (0 : Int64).toInt = 0)
                                        exact ⟨rfl, _, _, rfl, (fr_tr (fr_up fr_rf (by decide)) f317I (by decide) (by decide)), (fr_up (fr_up (fr_up fr_rf (by decide)) (by decide)) (by decide)), (by show ((FI318 121 38)).toInt = 0 → (FI 121 37).toInt ≤ ((FI318 121 37)).toInt ∧ ((FI318 121 37)).toInt ≤ (a2).toInt; omega), (by show (a1).toInt = 21 → 0 ≤ ((r320)).toInt ∧ ((r320)).toInt ≤ 255; omega), (by show (a1).toInt = 152 ∨ (a1).toInt = 153 → 0 ≤ ((r320)).toInt; omega), (by show (a1).toInt = 158 ∧ ((FI318 121 38)).toInt = 0 → 0 ≤ ((r320)).toInt ∧ (FI 121 37).toInt ≤ (((0 : Int64))).toInt ∧ (((0 : Int64))).toInt + ((r320)).toInt ≤ (a2).toInt; omega)⟩
                              · refine hw_aloadn (aX12_operands 102 rfl) rfl ?_
                                refine hw_aloadn (aX12_operands 103 rfl) rfl ?_
                                refine hw_ic (v := (4 : Int32)) (aX12_operands 104 rfl) (by decide) ?_
                                refine hw_ic (v := (1 : Int32)) (aX12_operands 105 rfl) (by decide) ?_
                                refine xw_iloadn (aX12_operands 106 rfl) rfl ?_
                                refine hw_callV (Bs := [.int ((4 : Int32)), .int ((1 : Int32)), .int (a2)]) (rest := [.ref (base + 121)]) (aX12_operands 107 rfl) wc_RX12_234 (by decide) rfl wi_yX12_fixed wv_yX12_fixed (c121 hS) (s121 hS) rfl rfl rfl (Nat.le_of_ble_eq_true rfl) (Nat.le_of_ble_eq_true rfl) (m_fixed4 (d := d) hS hF ((4 : Int32)) ((1 : Int32)) (a2) (by show ((h_up FI 121 38 ((0 : Int32))) 121 37).toInt ≤ (a2).toInt; rw [show (h_up FI 121 38 ((0 : Int32))) 121 37 = FI 121 37 from rfl]; show (FI 121 37).toInt ≤ (a2).toInt; omega) (by have := ((by decide : (1 : Int32).toInt = 1) : ((1 : Int32)).toInt = 1); show 0 ≤ ((1 : Int32)).toInt ∧ ((1 : Int32)).toInt ≤ 1; omega) (by have := ((by decide : (4 : Int32).toInt = 4) : ((4 : Int32)).toInt = 4); show 1 ≤ ((4 : Int32)).toInt ∧ ((4 : Int32)).toInt ≤ 4; omega) (by show 0 ≤ (a2).toInt ∧ (a2).toInt ≤ 19200; omega) (by show 0 ≤ ((h_up FI 121 38 ((0 : Int32))) 121 37).toInt ∧ ((h_up FI 121 38 ((0 : Int32))) 121 37).toInt ≤ 19200; rw [show (h_up FI 121 38 ((0 : Int32))) 121 37 = FI 121 37 from rfl]; show 0 ≤ (FI 121 37).toInt ∧ (FI 121 37).toInt ≤ 19200; omega) (show h_ai 124 19200 0 255 (h_up FI 121 38 ((0 : Int32))) from (show h_ai 124 19200 0 255 (h_up FI 121 38 ((0 : Int32))) from (ai_nc ai124 (by decide))))) (fun v325 sv326 p327 => ?_)
                                obtain ⟨r331, rfl, FI329, FL330, rfl, f328I, rfl, t332, t333, t334, t335, t336, t337⟩ := p327
                                have rg_r331 := l_rng r331
                                rw [show (h_up FI 121 38 ((0 : Int32))) 121 37 = FI 121 37 from rfl] at t333
                                rw [show (h_up FI 121 38 ((0 : Int32))) 121 37 = FI 121 37 from rfl] at t334
                                have e338 : ((1 : Int32)).toInt = 1 := (by decide : (1 : Int32).toInt = 1)
                                have e339 : ((4 : Int32)).toInt = 4 := (by decide : (4 : Int32).toInt = 4)
                                have e340 : ((1 : Int32)).toInt = 1 := (by decide : (1 : Int32).toInt = 1)
                                show hw sk base _ none _ _ _ [.long (r331), .ref (base + 121)] _ _
                                refine hw_putl (aX12_operands 108 rfl) wf_RX12_228 (c121 hS) (s121 hS) (by decide) rfl rfl ?_
                                refine xw_goto (tgt := 427) (aX12_operands 109 rfl) (by decide) ?_
                                refine xw_vret (aX12_operands 225 rfl) rfl ?_
                                have e341 : ((0 : Int64)).toInt = 0 := (by decide : (0 : Int64).toInt = 0)
                                exact ⟨rfl, _, _, rfl, (fr_tr (fr_up fr_rf (by decide)) f328I (by decide) (by decide)), (fr_up (fr_up (fr_up fr_rf (by decide)) (by decide)) (by decide)), (by show ((FI329 121 38)).toInt = 0 → (FI 121 37).toInt ≤ ((FI329 121 37)).toInt ∧ ((FI329 121 37)).toInt ≤ (a2).toInt; omega), (by show (a1).toInt = 21 → 0 ≤ ((r331)).toInt ∧ ((r331)).toInt ≤ 255; omega), (by show (a1).toInt = 152 ∨ (a1).toInt = 153 → 0 ≤ ((r331)).toInt; omega), (by show (a1).toInt = 158 ∧ ((FI329 121 38)).toInt = 0 → 0 ≤ ((r331)).toInt ∧ (FI 121 37).toInt ≤ (((0 : Int64))).toInt ∧ (((0 : Int64))).toInt + ((r331)).toInt ≤ (a2).toInt; omega)⟩
                            · refine hw_aloadn (aX12_operands 91 rfl) rfl ?_
                              refine hw_aloadn (aX12_operands 92 rfl) rfl ?_
                              refine hw_ic (v := (4 : Int32)) (aX12_operands 93 rfl) (by decide) ?_
                              refine hw_ic (v := (0 : Int32)) (aX12_operands 94 rfl) (by decide) ?_
                              refine xw_iloadn (aX12_operands 95 rfl) rfl ?_
                              refine hw_callV (Bs := [.int ((4 : Int32)), .int ((0 : Int32)), .int (a2)]) (rest := [.ref (base + 121)]) (aX12_operands 96 rfl) wc_RX12_234 (by decide) rfl wi_yX12_fixed wv_yX12_fixed (c121 hS) (s121 hS) rfl rfl rfl (Nat.le_of_ble_eq_true rfl) (Nat.le_of_ble_eq_true rfl) (m_fixed4 (d := d) hS hF ((4 : Int32)) ((0 : Int32)) (a2) (by show ((h_up FI 121 38 ((0 : Int32))) 121 37).toInt ≤ (a2).toInt; rw [show (h_up FI 121 38 ((0 : Int32))) 121 37 = FI 121 37 from rfl]; show (FI 121 37).toInt ≤ (a2).toInt; omega) (by have := ((by decide : (0 : Int32).toInt = 0) : ((0 : Int32)).toInt = 0); show 0 ≤ ((0 : Int32)).toInt ∧ ((0 : Int32)).toInt ≤ 1; omega) (by have := ((by decide : (4 : Int32).toInt = 4) : ((4 : Int32)).toInt = 4); show 1 ≤ ((4 : Int32)).toInt ∧ ((4 : Int32)).toInt ≤ 4; omega) (by show 0 ≤ (a2).toInt ∧ (a2).toInt ≤ 19200; omega) (by show 0 ≤ ((h_up FI 121 38 ((0 : Int32))) 121 37).toInt ∧ ((h_up FI 121 38 ((0 : Int32))) 121 37).toInt ≤ 19200; rw [show (h_up FI 121 38 ((0 : Int32))) 121 37 = FI 121 37 from rfl]; show 0 ≤ (FI 121 37).toInt ∧ (FI 121 37).toInt ≤ 19200; omega) (show h_ai 124 19200 0 255 (h_up FI 121 38 ((0 : Int32))) from (show h_ai 124 19200 0 255 (h_up FI 121 38 ((0 : Int32))) from (ai_nc ai124 (by decide))))) (fun v342 sv343 p344 => ?_)
                              obtain ⟨r348, rfl, FI346, FL347, rfl, f345I, rfl, t349, t350, t351, t352, t353, t354⟩ := p344
                              have rg_r348 := l_rng r348
                              rw [show (h_up FI 121 38 ((0 : Int32))) 121 37 = FI 121 37 from rfl] at t350
                              rw [show (h_up FI 121 38 ((0 : Int32))) 121 37 = FI 121 37 from rfl] at t351
                              have e355 : ((0 : Int32)).toInt = 0 := (by decide : (0 : Int32).toInt = 0)
                              have e356 : ((4 : Int32)).toInt = 4 := (by decide : (4 : Int32).toInt = 4)
                              have e357 : ((0 : Int32)).toInt = 0 := (by decide : (0 : Int32).toInt = 0)
                              show hw sk base _ none _ _ _ [.long (r348), .ref (base + 121)] _ _
                              refine hw_putl (aX12_operands 97 rfl) wf_RX12_228 (c121 hS) (s121 hS) (by decide) rfl rfl ?_
                              refine xw_goto (tgt := 427) (aX12_operands 98 rfl) (by decide) ?_
                              refine xw_vret (aX12_operands 225 rfl) rfl ?_
                              have e358 : ((0 : Int64)).toInt = 0 := (by decide : (0 : Int64).toInt = 0)
                              exact ⟨rfl, _, _, rfl, (fr_tr (fr_up fr_rf (by decide)) f345I (by decide) (by decide)), (fr_up (fr_up (fr_up fr_rf (by decide)) (by decide)) (by decide)), (by show ((FI346 121 38)).toInt = 0 → (FI 121 37).toInt ≤ ((FI346 121 37)).toInt ∧ ((FI346 121 37)).toInt ≤ (a2).toInt; omega), (by show (a1).toInt = 21 → 0 ≤ ((r348)).toInt ∧ ((r348)).toInt ≤ 255; omega), (by show (a1).toInt = 152 ∨ (a1).toInt = 153 → 0 ≤ ((r348)).toInt; omega), (by show (a1).toInt = 158 ∧ ((FI346 121 38)).toInt = 0 → 0 ≤ ((r348)).toInt ∧ (FI 121 37).toInt ≤ (((0 : Int64))).toInt ∧ (((0 : Int64))).toInt + ((r348)).toInt ≤ (a2).toInt; omega)⟩
                        · refine hw_aloadn (aX12_operands 77 rfl) rfl ?_
                          refine hw_aloadn (aX12_operands 78 rfl) rfl ?_
                          refine hw_ic (v := (2 : Int32)) (aX12_operands 79 rfl) (by decide) ?_
                          refine hw_ic (v := (1 : Int32)) (aX12_operands 80 rfl) (by decide) ?_
                          refine xw_iloadn (aX12_operands 81 rfl) rfl ?_
                          refine hw_callV (Bs := [.int ((2 : Int32)), .int ((1 : Int32)), .int (a2)]) (rest := [.ref (base + 121)]) (aX12_operands 82 rfl) wc_RX12_234 (by decide) rfl wi_yX12_fixed wv_yX12_fixed (c121 hS) (s121 hS) rfl rfl rfl (Nat.le_of_ble_eq_true rfl) (Nat.le_of_ble_eq_true rfl) (m_fixed4 (d := d) hS hF ((2 : Int32)) ((1 : Int32)) (a2) (by show ((h_up FI 121 38 ((0 : Int32))) 121 37).toInt ≤ (a2).toInt; rw [show (h_up FI 121 38 ((0 : Int32))) 121 37 = FI 121 37 from rfl]; show (FI 121 37).toInt ≤ (a2).toInt; omega) (by have := ((by decide : (1 : Int32).toInt = 1) : ((1 : Int32)).toInt = 1); show 0 ≤ ((1 : Int32)).toInt ∧ ((1 : Int32)).toInt ≤ 1; omega) (by have := ((by decide : (2 : Int32).toInt = 2) : ((2 : Int32)).toInt = 2); show 1 ≤ ((2 : Int32)).toInt ∧ ((2 : Int32)).toInt ≤ 4; omega) (by show 0 ≤ (a2).toInt ∧ (a2).toInt ≤ 19200; omega) (by show 0 ≤ ((h_up FI 121 38 ((0 : Int32))) 121 37).toInt ∧ ((h_up FI 121 38 ((0 : Int32))) 121 37).toInt ≤ 19200; rw [show (h_up FI 121 38 ((0 : Int32))) 121 37 = FI 121 37 from rfl]; show 0 ≤ (FI 121 37).toInt ∧ (FI 121 37).toInt ≤ 19200; omega) (show h_ai 124 19200 0 255 (h_up FI 121 38 ((0 : Int32))) from (show h_ai 124 19200 0 255 (h_up FI 121 38 ((0 : Int32))) from (ai_nc ai124 (by decide))))) (fun v359 sv360 p361 => ?_)
                          obtain ⟨r365, rfl, FI363, FL364, rfl, f362I, rfl, t366, t367, t368, t369, t370, t371⟩ := p361
                          have rg_r365 := l_rng r365
                          rw [show (h_up FI 121 38 ((0 : Int32))) 121 37 = FI 121 37 from rfl] at t367
                          rw [show (h_up FI 121 38 ((0 : Int32))) 121 37 = FI 121 37 from rfl] at t368
                          have e372 : ((1 : Int32)).toInt = 1 := (by decide : (1 : Int32).toInt = 1)
                          have e373 : ((2 : Int32)).toInt = 2 := (by decide : (2 : Int32).toInt = 2)
                          have e374 : ((1 : Int32)).toInt = 1 := (by decide : (1 : Int32).toInt = 1)
                          show hw sk base _ none _ _ _ [.long (r365), .ref (base + 121)] _ _
                          refine hw_putl (aX12_operands 83 rfl) wf_RX12_228 (c121 hS) (s121 hS) (by decide) rfl rfl ?_
                          refine xw_goto (tgt := 427) (aX12_operands 84 rfl) (by decide) ?_
                          refine xw_vret (aX12_operands 225 rfl) rfl ?_
                          have e375 : ((0 : Int64)).toInt = 0 := (by decide : (0 : Int64).toInt = 0)
                          exact ⟨rfl, _, _, rfl, (fr_tr (fr_up fr_rf (by decide)) f362I (by decide) (by decide)), (fr_up (fr_up (fr_up fr_rf (by decide)) (by decide)) (by decide)), (by show ((FI363 121 38)).toInt = 0 → (FI 121 37).toInt ≤ ((FI363 121 37)).toInt ∧ ((FI363 121 37)).toInt ≤ (a2).toInt; omega), (by show (a1).toInt = 21 → 0 ≤ ((r365)).toInt ∧ ((r365)).toInt ≤ 255; omega), (by show (a1).toInt = 152 ∨ (a1).toInt = 153 → 0 ≤ ((r365)).toInt; omega), (by show (a1).toInt = 158 ∧ ((FI363 121 38)).toInt = 0 → 0 ≤ ((r365)).toInt ∧ (FI 121 37).toInt ≤ (((0 : Int64))).toInt ∧ (((0 : Int64))).toInt + ((r365)).toInt ≤ (a2).toInt; omega)⟩
                  · refine hw_aloadn (aX12_operands 60 rfl) rfl ?_
                    refine hw_aloadn (aX12_operands 61 rfl) rfl ?_
                    refine hw_ic (v := (2 : Int32)) (aX12_operands 62 rfl) (by decide) ?_
                    refine hw_ic (v := (0 : Int32)) (aX12_operands 63 rfl) (by decide) ?_
                    refine xw_iloadn (aX12_operands 64 rfl) rfl ?_
                    refine hw_callV (Bs := [.int ((2 : Int32)), .int ((0 : Int32)), .int (a2)]) (rest := [.ref (base + 121)]) (aX12_operands 65 rfl) wc_RX12_234 (by decide) rfl wi_yX12_fixed wv_yX12_fixed (c121 hS) (s121 hS) rfl rfl rfl (Nat.le_of_ble_eq_true rfl) (Nat.le_of_ble_eq_true rfl) (m_fixed4 (d := d) hS hF ((2 : Int32)) ((0 : Int32)) (a2) (by show ((h_up FI 121 38 ((0 : Int32))) 121 37).toInt ≤ (a2).toInt; rw [show (h_up FI 121 38 ((0 : Int32))) 121 37 = FI 121 37 from rfl]; show (FI 121 37).toInt ≤ (a2).toInt; omega) (by have := ((by decide : (0 : Int32).toInt = 0) : ((0 : Int32)).toInt = 0); show 0 ≤ ((0 : Int32)).toInt ∧ ((0 : Int32)).toInt ≤ 1; omega) (by have := ((by decide : (2 : Int32).toInt = 2) : ((2 : Int32)).toInt = 2); show 1 ≤ ((2 : Int32)).toInt ∧ ((2 : Int32)).toInt ≤ 4; omega) (by show 0 ≤ (a2).toInt ∧ (a2).toInt ≤ 19200; omega) (by show 0 ≤ ((h_up FI 121 38 ((0 : Int32))) 121 37).toInt ∧ ((h_up FI 121 38 ((0 : Int32))) 121 37).toInt ≤ 19200; rw [show (h_up FI 121 38 ((0 : Int32))) 121 37 = FI 121 37 from rfl]; show 0 ≤ (FI 121 37).toInt ∧ (FI 121 37).toInt ≤ 19200; omega) (show h_ai 124 19200 0 255 (h_up FI 121 38 ((0 : Int32))) from (show h_ai 124 19200 0 255 (h_up FI 121 38 ((0 : Int32))) from (ai_nc ai124 (by decide))))) (fun v376 sv377 p378 => ?_)
                    obtain ⟨r382, rfl, FI380, FL381, rfl, f379I, rfl, t383, t384, t385, t386, t387, t388⟩ := p378
                    have rg_r382 := l_rng r382
                    rw [show (h_up FI 121 38 ((0 : Int32))) 121 37 = FI 121 37 from rfl] at t384
                    rw [show (h_up FI 121 38 ((0 : Int32))) 121 37 = FI 121 37 from rfl] at t385
                    have e389 : ((0 : Int32)).toInt = 0 := (by decide : (0 : Int32).toInt = 0)
                    have e390 : ((2 : Int32)).toInt = 2 := (by decide : (2 : Int32).toInt = 2)
                    have e391 : ((0 : Int32)).toInt = 0 := (by decide : (0 : Int32).toInt = 0)
                    show hw sk base _ none _ _ _ [.long (r382), .ref (base + 121)] _ _
                    refine hw_putl (aX12_operands 66 rfl) wf_RX12_228 (c121 hS) (s121 hS) (by decide) rfl rfl ?_
                    refine xw_goto (tgt := 427) (aX12_operands 67 rfl) (by decide) ?_
                    refine xw_vret (aX12_operands 225 rfl) rfl ?_
                    have e392 : ((0 : Int64)).toInt = 0 := (by decide : (0 : Int64).toInt = 0)
                    exact ⟨rfl, _, _, rfl, (fr_tr (fr_up fr_rf (by decide)) f379I (by decide) (by decide)), (fr_up (fr_up (fr_up fr_rf (by decide)) (by decide)) (by decide)), (by show ((FI380 121 38)).toInt = 0 → (FI 121 37).toInt ≤ ((FI380 121 37)).toInt ∧ ((FI380 121 37)).toInt ≤ (a2).toInt; omega), (by show (a1).toInt = 21 → 0 ≤ ((r382)).toInt ∧ ((r382)).toInt ≤ 255; omega), (by show (a1).toInt = 152 ∨ (a1).toInt = 153 → 0 ≤ ((r382)).toInt; omega), (by show (a1).toInt = 158 ∧ ((FI380 121 38)).toInt = 0 → 0 ≤ ((r382)).toInt ∧ (FI 121 37).toInt ≤ (((0 : Int64))).toInt ∧ (((0 : Int64))).toInt + ((r382)).toInt ≤ (a2).toInt; omega)⟩
              · refine hw_aloadn (aX12_operands 46 rfl) rfl ?_
                refine hw_aloadn (aX12_operands 47 rfl) rfl ?_
                refine hw_ic (v := (1 : Int32)) (aX12_operands 48 rfl) (by decide) ?_
                refine hw_ic (v := (1 : Int32)) (aX12_operands 49 rfl) (by decide) ?_
                refine xw_iloadn (aX12_operands 50 rfl) rfl ?_
                refine hw_callV (Bs := [.int ((1 : Int32)), .int ((1 : Int32)), .int (a2)]) (rest := [.ref (base + 121)]) (aX12_operands 51 rfl) wc_RX12_234 (by decide) rfl wi_yX12_fixed wv_yX12_fixed (c121 hS) (s121 hS) rfl rfl rfl (Nat.le_of_ble_eq_true rfl) (Nat.le_of_ble_eq_true rfl) (m_fixed4 (d := d) hS hF ((1 : Int32)) ((1 : Int32)) (a2) (by show ((h_up FI 121 38 ((0 : Int32))) 121 37).toInt ≤ (a2).toInt; rw [show (h_up FI 121 38 ((0 : Int32))) 121 37 = FI 121 37 from rfl]; show (FI 121 37).toInt ≤ (a2).toInt; omega) (by have := ((by decide : (1 : Int32).toInt = 1) : ((1 : Int32)).toInt = 1); show 0 ≤ ((1 : Int32)).toInt ∧ ((1 : Int32)).toInt ≤ 1; omega) (by have := ((by decide : (1 : Int32).toInt = 1) : ((1 : Int32)).toInt = 1); show 1 ≤ ((1 : Int32)).toInt ∧ ((1 : Int32)).toInt ≤ 4; omega) (by show 0 ≤ (a2).toInt ∧ (a2).toInt ≤ 19200; omega) (by show 0 ≤ ((h_up FI 121 38 ((0 : Int32))) 121 37).toInt ∧ ((h_up FI 121 38 ((0 : Int32))) 121 37).toInt ≤ 19200; rw [show (h_up FI 121 38 ((0 : Int32))) 121 37 = FI 121 37 from rfl]; show 0 ≤ (FI 121 37).toInt ∧ (FI 121 37).toInt ≤ 19200; omega) (show h_ai 124 19200 0 255 (h_up FI 121 38 ((0 : Int32))) from (show h_ai 124 19200 0 255 (h_up FI 121 38 ((0 : Int32))) from (ai_nc ai124 (by decide))))) (fun v393 sv394 p395 => ?_)
                obtain ⟨r399, rfl, FI397, FL398, rfl, f396I, rfl, t400, t401, t402, t403, t404, t405⟩ := p395
                have rg_r399 := l_rng r399
                rw [show (h_up FI 121 38 ((0 : Int32))) 121 37 = FI 121 37 from rfl] at t401
                rw [show (h_up FI 121 38 ((0 : Int32))) 121 37 = FI 121 37 from rfl] at t402
                have e406 : ((1 : Int32)).toInt = 1 := (by decide : (1 : Int32).toInt = 1)
                have e407 : ((1 : Int32)).toInt = 1 := (by decide : (1 : Int32).toInt = 1)
                have e408 : ((1 : Int32)).toInt = 1 := (by decide : (1 : Int32).toInt = 1)
                show hw sk base _ none _ _ _ [.long (r399), .ref (base + 121)] _ _
                refine hw_putl (aX12_operands 52 rfl) wf_RX12_228 (c121 hS) (s121 hS) (by decide) rfl rfl ?_
                refine xw_goto (tgt := 427) (aX12_operands 53 rfl) (by decide) ?_
                refine xw_vret (aX12_operands 225 rfl) rfl ?_
                have e409 : ((0 : Int64)).toInt = 0 := (by decide : (0 : Int64).toInt = 0)
                exact ⟨rfl, _, _, rfl, (fr_tr (fr_up fr_rf (by decide)) f396I (by decide) (by decide)), (fr_up (fr_up (fr_up fr_rf (by decide)) (by decide)) (by decide)), (by show ((FI397 121 38)).toInt = 0 → (FI 121 37).toInt ≤ ((FI397 121 37)).toInt ∧ ((FI397 121 37)).toInt ≤ (a2).toInt; omega), (by show (a1).toInt = 21 → 0 ≤ ((r399)).toInt ∧ ((r399)).toInt ≤ 255; omega), (by show (a1).toInt = 152 ∨ (a1).toInt = 153 → 0 ≤ ((r399)).toInt; omega), (by show (a1).toInt = 158 ∧ ((FI397 121 38)).toInt = 0 → 0 ≤ ((r399)).toInt ∧ (FI 121 37).toInt ≤ (((0 : Int64))).toInt ∧ (((0 : Int64))).toInt + ((r399)).toInt ≤ (a2).toInt; omega)⟩
            · refine hw_aloadn (aX12_operands 35 rfl) rfl ?_
              refine hw_aloadn (aX12_operands 36 rfl) rfl ?_
              refine hw_ic (v := (1 : Int32)) (aX12_operands 37 rfl) (by decide) ?_
              refine hw_ic (v := (0 : Int32)) (aX12_operands 38 rfl) (by decide) ?_
              refine xw_iloadn (aX12_operands 39 rfl) rfl ?_
              refine hw_callV (Bs := [.int ((1 : Int32)), .int ((0 : Int32)), .int (a2)]) (rest := [.ref (base + 121)]) (aX12_operands 40 rfl) wc_RX12_234 (by decide) rfl wi_yX12_fixed wv_yX12_fixed (c121 hS) (s121 hS) rfl rfl rfl (Nat.le_of_ble_eq_true rfl) (Nat.le_of_ble_eq_true rfl) (m_fixed4 (d := d) hS hF ((1 : Int32)) ((0 : Int32)) (a2) (by show ((h_up FI 121 38 ((0 : Int32))) 121 37).toInt ≤ (a2).toInt; rw [show (h_up FI 121 38 ((0 : Int32))) 121 37 = FI 121 37 from rfl]; show (FI 121 37).toInt ≤ (a2).toInt; omega) (by have := ((by decide : (0 : Int32).toInt = 0) : ((0 : Int32)).toInt = 0); show 0 ≤ ((0 : Int32)).toInt ∧ ((0 : Int32)).toInt ≤ 1; omega) (by have := ((by decide : (1 : Int32).toInt = 1) : ((1 : Int32)).toInt = 1); show 1 ≤ ((1 : Int32)).toInt ∧ ((1 : Int32)).toInt ≤ 4; omega) (by show 0 ≤ (a2).toInt ∧ (a2).toInt ≤ 19200; omega) (by show 0 ≤ ((h_up FI 121 38 ((0 : Int32))) 121 37).toInt ∧ ((h_up FI 121 38 ((0 : Int32))) 121 37).toInt ≤ 19200; rw [show (h_up FI 121 38 ((0 : Int32))) 121 37 = FI 121 37 from rfl]; show 0 ≤ (FI 121 37).toInt ∧ (FI 121 37).toInt ≤ 19200; omega) (show h_ai 124 19200 0 255 (h_up FI 121 38 ((0 : Int32))) from (show h_ai 124 19200 0 255 (h_up FI 121 38 ((0 : Int32))) from (ai_nc ai124 (by decide))))) (fun v410 sv411 p412 => ?_)
              obtain ⟨r416, rfl, FI414, FL415, rfl, f413I, rfl, t417, t418, t419, t420, t421, t422⟩ := p412
              have rg_r416 := l_rng r416
              rw [show (h_up FI 121 38 ((0 : Int32))) 121 37 = FI 121 37 from rfl] at t418
              rw [show (h_up FI 121 38 ((0 : Int32))) 121 37 = FI 121 37 from rfl] at t419
              have e423 : ((0 : Int32)).toInt = 0 := (by decide : (0 : Int32).toInt = 0)
              have e424 : ((1 : Int32)).toInt = 1 := (by decide : (1 : Int32).toInt = 1)
              have e425 : ((0 : Int32)).toInt = 0 := (by decide : (0 : Int32).toInt = 0)
              show hw sk base _ none _ _ _ [.long (r416), .ref (base + 121)] _ _
              refine hw_putl (aX12_operands 41 rfl) wf_RX12_228 (c121 hS) (s121 hS) (by decide) rfl rfl ?_
              refine xw_goto (tgt := 427) (aX12_operands 42 rfl) (by decide) ?_
              refine xw_vret (aX12_operands 225 rfl) rfl ?_
              have e426 : ((0 : Int64)).toInt = 0 := (by decide : (0 : Int64).toInt = 0)
              exact ⟨rfl, _, _, rfl, (fr_tr (fr_up fr_rf (by decide)) f413I (by decide) (by decide)), (fr_up (fr_up (fr_up fr_rf (by decide)) (by decide)) (by decide)), (by show ((FI414 121 38)).toInt = 0 → (FI 121 37).toInt ≤ ((FI414 121 37)).toInt ∧ ((FI414 121 37)).toInt ≤ (a2).toInt; omega), (by show (a1).toInt = 21 → 0 ≤ ((r416)).toInt ∧ ((r416)).toInt ≤ 255; omega), (by show (a1).toInt = 152 ∨ (a1).toInt = 153 → 0 ≤ ((r416)).toInt; omega), (by show (a1).toInt = 158 ∧ ((FI414 121 38)).toInt = 0 → 0 ≤ ((r416)).toInt ∧ (FI 121 37).toInt ≤ (((0 : Int64))).toInt ∧ (((0 : Int64))).toInt + ((r416)).toInt ≤ (a2).toInt; omega)⟩
      · refine hw_aloadn (aX12_operands 18 rfl) rfl ?_
        refine hw_aloadn (aX12_operands 19 rfl) rfl ?_
        refine hw_bp (v := (8 : Int32)) (aX12_operands 20 rfl) (by decide) ?_
        refine hw_ic (v := (0 : Int32)) (aX12_operands 21 rfl) (by decide) ?_
        refine xw_iloadn (aX12_operands 22 rfl) rfl ?_
        refine hw_callV (Bs := [.int ((8 : Int32)), .int ((0 : Int32)), .int (a2)]) (rest := [.ref (base + 121)]) (aX12_operands 23 rfl) wc_RX12_234 (by decide) rfl wi_yX12_fixed wv_yX12_fixed (c121 hS) (s121 hS) rfl rfl rfl (Nat.le_of_ble_eq_true rfl) (Nat.le_of_ble_eq_true rfl) (m_fixed8 (d := d) hS hF ((8 : Int32)) ((0 : Int32)) (a2) (by show ((h_up FI 121 38 ((0 : Int32))) 121 37).toInt ≤ (a2).toInt; rw [show (h_up FI 121 38 ((0 : Int32))) 121 37 = FI 121 37 from rfl]; show (FI 121 37).toInt ≤ (a2).toInt; omega) (by have := ((by decide : (0 : Int32).toInt = 0) : ((0 : Int32)).toInt = 0); show 0 ≤ ((0 : Int32)).toInt ∧ ((0 : Int32)).toInt ≤ 1; omega) (by have := ((by decide : (8 : Int32).toInt = 8) : ((8 : Int32)).toInt = 8); show 5 ≤ ((8 : Int32)).toInt ∧ ((8 : Int32)).toInt ≤ 8; omega) (by show 0 ≤ (a2).toInt ∧ (a2).toInt ≤ 19200; omega) (by show 0 ≤ ((h_up FI 121 38 ((0 : Int32))) 121 37).toInt ∧ ((h_up FI 121 38 ((0 : Int32))) 121 37).toInt ≤ 19200; rw [show (h_up FI 121 38 ((0 : Int32))) 121 37 = FI 121 37 from rfl]; show 0 ≤ (FI 121 37).toInt ∧ (FI 121 37).toInt ≤ 19200; omega) (show h_ai 124 19200 0 255 (h_up FI 121 38 ((0 : Int32))) from (show h_ai 124 19200 0 255 (h_up FI 121 38 ((0 : Int32))) from (ai_nc ai124 (by decide))))) (fun v427 sv428 p429 => ?_)
        obtain ⟨r433, rfl, FI431, FL432, rfl, f430I, rfl, t434, t435, t436, t437⟩ := p429
        have rg_r433 := l_rng r433
        rw [show (h_up FI 121 38 ((0 : Int32))) 121 37 = FI 121 37 from rfl] at t435
        rw [show (h_up FI 121 38 ((0 : Int32))) 121 37 = FI 121 37 from rfl] at t436
        show hw sk base _ none _ _ _ [.long (r433), .ref (base + 121)] _ _
        refine hw_putl (aX12_operands 24 rfl) wf_RX12_228 (c121 hS) (s121 hS) (by decide) rfl rfl ?_
        refine xw_goto (tgt := 427) (aX12_operands 25 rfl) (by decide) ?_
        refine xw_vret (aX12_operands 225 rfl) rfl ?_
        have e438 : ((0 : Int64)).toInt = 0 := (by decide : (0 : Int64).toInt = 0)
        exact ⟨rfl, _, _, rfl, (fr_tr (fr_up fr_rf (by decide)) f430I (by decide) (by decide)), (fr_up (fr_up (fr_up fr_rf (by decide)) (by decide)) (by decide)), (by show ((FI431 121 38)).toInt = 0 → (FI 121 37).toInt ≤ ((FI431 121 37)).toInt ∧ ((FI431 121 37)).toInt ≤ (a2).toInt; omega), (by show (a1).toInt = 21 → 0 ≤ ((r433)).toInt ∧ ((r433)).toInt ≤ 255; omega), (by show (a1).toInt = 152 ∨ (a1).toInt = 153 → 0 ≤ ((r433)).toInt; omega), (by show (a1).toInt = 158 ∧ ((FI431 121 38)).toInt = 0 → 0 ≤ ((r433)).toInt ∧ (FI 121 37).toInt ≤ (((0 : Int64))).toInt ∧ (((0 : Int64))).toInt + ((r433)).toInt ≤ (a2).toInt; omega)⟩
