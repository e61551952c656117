def nX12_wants : Nat := 0xac03ac050500a32e101b0b00a11a101bac060500a017101bac600488e400b42a0b00a015101bac050500a016101b09009f14101bac040500a09f00111b0a009f9b00111b11009f9400111b18009f28101b1e009f23101b24009f20101b2a009f1f101b30009f19101b36009f13101b3c009f12101b42009f06101b
theorem bX12_wants : cX12_wants.data.toList.map UInt8.toNat = x_un nX12_wants 123 := by decide +kernel
def iX12_wants : List (Nat × Jvm.ClassFile.Instr × Nat) := [(0, .iload_n 1, 1), (1, .bipush 6, 2), (3, .if_icmp .eq 66, 3), (6, .iload_n 1, 1), (7, .bipush 18, 2), (9, .if_icmp .eq 60, 3), (12, .iload_n 1, 1), (13, .bipush 19, 2), (15, .if_icmp .eq 54, 3), (18, .iload_n 1, 1), (19, .bipush 25, 2), (21, .if_icmp .eq 48, 3), (24, .iload_n 1, 1), (25, .bipush 31, 2), (27, .if_icmp .eq 42, 3), (30, .iload_n 1, 1), (31, .bipush 32, 2), (33, .if_icmp .eq 36, 3), (36, .iload_n 1, 1), (37, .bipush 35, 2), (39, .if_icmp .eq 30, 3), (42, .iload_n 1, 1), (43, .bipush 40, 2), (45, .if_icmp .eq 24, 3), (48, .iload_n 1, 1), (49, .sipush 148, 3), (52, .if_icmp .eq 17, 3), (55, .iload_n 1, 1), (56, .sipush 155, 3), (59, .if_icmp .eq 10, 3), (62, .iload_n 1, 1), (63, .sipush 159, 3), (66, .if_icmp .ne 5, 3), (69, .iconst 1, 1), (70, .ireturn, 1), (71, .iload_n 1, 1), (72, .bipush 20, 2), (74, .if_icmp .eq 9, 3), (77, .iload_n 1, 1), (78, .bipush 22, 2), (80, .if_icmp .ne 5, 3), (83, .iconst 2, 1), (84, .ireturn, 1), (85, .iload_n 1, 1), (86, .bipush 21, 2), (88, .if_icmp .ne 11, 3), (91, .aload_n 0, 1), (92, .getfield 228, 3), (95, .l2i, 1), (96, .iconst 1, 1), (97, .iadd, 1), (98, .ireturn, 1), (99, .iload_n 1, 1), (100, .bipush 23, 2), (102, .if_icmp .ne 5, 3), (105, .iconst 3, 1), (106, .ireturn, 1), (107, .iload_n 1, 1), (108, .bipush 26, 2), (110, .if_icmp .lt 11, 3), (113, .iload_n 1, 1), (114, .bipush 46, 2), (116, .if_icmp .gt 5, 3), (119, .iconst 2, 1), (120, .ireturn, 1), (121, .iconst 0, 1), (122, .ireturn, 1)]
theorem dX12_wants : x_il nX12_wants 123 iX12_wants = true := by decide +kernel
theorem aX12_wants (k : Nat) {pc : Nat} {i : Jvm.ClassFile.Instr} {len : Nat} (hk : iX12_wants[k]? = some (pc, i, len)) : x_at xMM 173 pc i len yX12_wants 2 (some .int) := ⟨cX12_wants, rfl, x_il_ok bX12_wants dX12_wants k hk⟩
set_option maxHeartbeats 4000000 in
set_option maxRecDepth 100000 in
theorem m_wants {sk : xK} {base d n sl : Nat} {SH : Nat → Nat × Nat} {FI : Nat → Nat → Int32} {FL : Nat → Nat → Int64} {FR : Nat → Nat → Option Nat} (hS : h_S n SH) (hF : h_FR FR) (a1 : Int32) (g0 : hid ((a1).toInt = 21 → 0 ≤ (FL 121 35).toInt ∧ (FL 121 35).toInt ≤ 255)) : hw sk base d none 173 0 [(0, .ref (base + 121)), (1, .int (a1))] [] (n, sl, SH, FI, FL, FR) (h_I (fun r s => ∃ FI' FL', s = (n, sl, SH, FI', FL', FR) ∧ FI = FI' ∧ FL = FL' ∧ (hid ((a1).toInt = 6 ∨ (a1).toInt = 19 ∨ (a1).toInt = 25 ∨ (a1).toInt = 31 ∨ (a1).toInt = 32 ∨ (a1).toInt = 35 ∨ (a1).toInt = 40 ∨ (a1).toInt = 148 ∨ (a1).toInt = 155 ∨ (a1).toInt = 159 → r.toInt = 1)) ∧ (hid ((26 ≤ (a1).toInt ∧ (a1).toInt ≤ 46 ∧ (a1).toInt ≠ 31 ∧ (a1).toInt ≠ 32 ∧ (a1).toInt ≠ 35 ∧ (a1).toInt ≠ 40) ∨ (a1).toInt = 22 → r.toInt = 2)) ∧ (hid ((a1).toInt = 23 → r.toInt = 3)) ∧ (hid ((a1).toInt = 21 → r.toInt = (FL 121 35).toInt + 1)))) := by
  have rg_a1 := i_rng a1
  refine xw_iloadn (aX12_wants 0 rfl) rfl ?_
  refine hw_bp (v := (6 : Int32)) (aX12_wants 1 rfl) (by decide) ?_
  refine hw_iceq (tgt := 69) (aX12_wants 2 rfl) (by decide) rfl (by decide : (6 : Int32).toInt = 6) (fun cd1 => ?_) (fun cd1 => ?_)
  · refine hw_ic (v := (1 : Int32)) (aX12_wants 33 rfl) (by decide) ?_
    refine xw_iret (aX12_wants 34 rfl) rfl rfl ?_
    have e2 : ((1 : Int32)).toInt = 1 := (by decide : (1 : Int32).toInt = 1)
    exact ⟨(1 : Int32), rfl, _, _, rfl, rfl, rfl, (by show ((a1).toInt = 6 ∨ (a1).toInt = 19 ∨ (a1).toInt = 25 ∨ (a1).toInt = 31 ∨ (a1).toInt = 32 ∨ (a1).toInt = 35 ∨ (a1).toInt = 40 ∨ (a1).toInt = 148 ∨ (a1).toInt = 155 ∨ (a1).toInt = 159 → ((1 : Int32)).toInt = 1); omega), (by show ((26 ≤ (a1).toInt ∧ (a1).toInt ≤ 46 ∧ (a1).toInt ≠ 31 ∧ (a1).toInt ≠ 32 ∧ (a1).toInt ≠ 35 ∧ (a1).toInt ≠ 40) ∨ (a1).toInt = 22 → ((1 : Int32)).toInt = 2); omega), (by show ((a1).toInt = 23 → ((1 : Int32)).toInt = 3); omega), (by show ((a1).toInt = 21 → ((1 : Int32)).toInt = (FL 121 35).toInt + 1); omega)⟩
  · refine xw_iloadn (aX12_wants 3 rfl) rfl ?_
    refine hw_bp (v := (18 : Int32)) (aX12_wants 4 rfl) (by decide) ?_
    refine hw_iceq (tgt := 69) (aX12_wants 5 rfl) (by decide) rfl (by decide : (18 : Int32).toInt = 18) (fun cd3 => ?_) (fun cd3 => ?_)
    · refine hw_ic (v := (1 : Int32)) (aX12_wants 33 rfl) (by decide) ?_
      refine xw_iret (aX12_wants 34 rfl) rfl rfl ?_
      have e4 : ((1 : Int32)).toInt = 1 := (by decide : (1 : Int32).toInt = 1)
      exact ⟨(1 : Int32), rfl, _, _, rfl, rfl, rfl, (by show ((a1).toInt = 6 ∨ (a1).toInt = 19 ∨ (a1).toInt = 25 ∨ (a1).toInt = 31 ∨ (a1).toInt = 32 ∨ (a1).toInt = 35 ∨ (a1).toInt = 40 ∨ (a1).toInt = 148 ∨ (a1).toInt = 155 ∨ (a1).toInt = 159 → ((1 : Int32)).toInt = 1); omega), (by show ((26 ≤ (a1).toInt ∧ (a1).toInt ≤ 46 ∧ (a1).toInt ≠ 31 ∧ (a1).toInt ≠ 32 ∧ (a1).toInt ≠ 35 ∧ (a1).toInt ≠ 40) ∨ (a1).toInt = 22 → ((1 : Int32)).toInt = 2); omega), (by show ((a1).toInt = 23 → ((1 : Int32)).toInt = 3); omega), (by show ((a1).toInt = 21 → ((1 : Int32)).toInt = (FL 121 35).toInt + 1); omega)⟩
    · refine xw_iloadn (aX12_wants 6 rfl) rfl ?_
      refine hw_bp (v := (19 : Int32)) (aX12_wants 7 rfl) (by decide) ?_
      refine hw_iceq (tgt := 69) (aX12_wants 8 rfl) (by decide) rfl (by decide : (19 : Int32).toInt = 19) (fun cd5 => ?_) (fun cd5 => ?_)
      · refine hw_ic (v := (1 : Int32)) (aX12_wants 33 rfl) (by decide) ?_
        refine xw_iret (aX12_wants 34 rfl) rfl rfl ?_
        have e6 : ((1 : Int32)).toInt = 1 := (by decide : (1 : Int32).toInt = 1)
        exact ⟨(1 : Int32), rfl, _, _, rfl, rfl, rfl, (by show ((a1).toInt = 6 ∨ (a1).toInt = 19 ∨ (a1).toInt = 25 ∨ (a1).toInt = 31 ∨ (a1).toInt = 32 ∨ (a1).toInt = 35 ∨ (a1).toInt = 40 ∨ (a1).toInt = 148 ∨ (a1).toInt = 155 ∨ (a1).toInt = 159 → ((1 : Int32)).toInt = 1); omega), (by show ((26 ≤ (a1).toInt ∧ (a1).toInt ≤ 46 ∧ (a1).toInt ≠ 31 ∧ (a1).toInt ≠ 32 ∧ (a1).toInt ≠ 35 ∧ (a1).toInt ≠ 40) ∨ (a1).toInt = 22 → ((1 : Int32)).toInt = 2); omega), (by show ((a1).toInt = 23 → ((1 : Int32)).toInt = 3); omega), (by show ((a1).toInt = 21 → ((1 : Int32)).toInt = (FL 121 35).toInt + 1); omega)⟩
      · refine xw_iloadn (aX12_wants 9 rfl) rfl ?_
        refine hw_bp (v := (25 : Int32)) (aX12_wants 10 rfl) (by decide) ?_
        refine hw_iceq (tgt := 69) (aX12_wants 11 rfl) (by decide) rfl (by decide : (25 : Int32).toInt = 25) (fun cd7 => ?_) (fun cd7 => ?_)
        · refine hw_ic (v := (1 : Int32)) (aX12_wants 33 rfl) (by decide) ?_
          refine xw_iret (aX12_wants 34 rfl) rfl rfl ?_
          have e8 : ((1 : Int32)).toInt = 1 := (by decide : (1 : Int32).toInt = 1)
          exact ⟨(1 : Int32), rfl, _, _, rfl, rfl, rfl, (by show ((a1).toInt = 6 ∨ (a1).toInt = 19 ∨ (a1).toInt = 25 ∨ (a1).toInt = 31 ∨ (a1).toInt = 32 ∨ (a1).toInt = 35 ∨ (a1).toInt = 40 ∨ (a1).toInt = 148 ∨ (a1).toInt = 155 ∨ (a1).toInt = 159 → ((1 : Int32)).toInt = 1); omega), (by show ((26 ≤ (a1).toInt ∧ (a1).toInt ≤ 46 ∧ (a1).toInt ≠ 31 ∧ (a1).toInt ≠ 32 ∧ (a1).toInt ≠ 35 ∧ (a1).toInt ≠ 40) ∨ (a1).toInt = 22 → ((1 : Int32)).toInt = 2); omega), (by show ((a1).toInt = 23 → ((1 : Int32)).toInt = 3); omega), (by show ((a1).toInt = 21 → ((1 : Int32)).toInt = (FL 121 35).toInt + 1); omega)⟩
        · refine xw_iloadn (aX12_wants 12 rfl) rfl ?_
          refine hw_bp (v := (31 : Int32)) (aX12_wants 13 rfl) (by decide) ?_
          refine hw_iceq (tgt := 69) (aX12_wants 14 rfl) (by decide) rfl (by decide : (31 : Int32).toInt = 31) (fun cd9 => ?_) (fun cd9 => ?_)
          · refine hw_ic (v := (1 : Int32)) (aX12_wants 33 rfl) (by decide) ?_
            refine xw_iret (aX12_wants 34 rfl) rfl rfl ?_
            have e10 : ((1 : Int32)).toInt = 1 := (by decide : (1 : Int32).toInt = 1)
            exact ⟨(1 : Int32), rfl, _, _, rfl, rfl, rfl, (by show ((a1).toInt = 6 ∨ (a1).toInt = 19 ∨ (a1).toInt = 25 ∨ (a1).toInt = 31 ∨ (a1).toInt = 32 ∨ (a1).toInt = 35 ∨ (a1).toInt = 40 ∨ (a1).toInt = 148 ∨ (a1).toInt = 155 ∨ (a1).toInt = 159 → ((1 : Int32)).toInt = 1); omega), (by show ((26 ≤ (a1).toInt ∧ (a1).toInt ≤ 46 ∧ (a1).toInt ≠ 31 ∧ (a1).toInt ≠ 32 ∧ (a1).toInt ≠ 35 ∧ (a1).toInt ≠ 40) ∨ (a1).toInt = 22 → ((1 : Int32)).toInt = 2); omega), (by show ((a1).toInt = 23 → ((1 : Int32)).toInt = 3); omega), (by show ((a1).toInt = 21 → ((1 : Int32)).toInt = (FL 121 35).toInt + 1); omega)⟩
          · refine xw_iloadn (aX12_wants 15 rfl) rfl ?_
            refine hw_bp (v := (32 : Int32)) (aX12_wants 16 rfl) (by decide) ?_
            refine hw_iceq (tgt := 69) (aX12_wants 17 rfl) (by decide) rfl (by decide : (32 : Int32).toInt = 32) (fun cd11 => ?_) (fun cd11 => ?_)
            · refine hw_ic (v := (1 : Int32)) (aX12_wants 33 rfl) (by decide) ?_
              refine xw_iret (aX12_wants 34 rfl) rfl rfl ?_
              have e12 : ((1 : Int32)).toInt = 1 := (by decide : (1 : Int32).toInt = 1)
              exact ⟨(1 : Int32), rfl, _, _, rfl, rfl, rfl, (by show ((a1).toInt = 6 ∨ (a1).toInt = 19 ∨ (a1).toInt = 25 ∨ (a1).toInt = 31 ∨ (a1).toInt = 32 ∨ (a1).toInt = 35 ∨ (a1).toInt = 40 ∨ (a1).toInt = 148 ∨ (a1).toInt = 155 ∨ (a1).toInt = 159 → ((1 : Int32)).toInt = 1); omega), (by show ((26 ≤ (a1).toInt ∧ (a1).toInt ≤ 46 ∧ (a1).toInt ≠ 31 ∧ (a1).toInt ≠ 32 ∧ (a1).toInt ≠ 35 ∧ (a1).toInt ≠ 40) ∨ (a1).toInt = 22 → ((1 : Int32)).toInt = 2); omega), (by show ((a1).toInt = 23 → ((1 : Int32)).toInt = 3); omega), (by show ((a1).toInt = 21 → ((1 : Int32)).toInt = (FL 121 35).toInt + 1); omega)⟩
            · refine xw_iloadn (aX12_wants 18 rfl) rfl ?_
              refine hw_bp (v := (35 : Int32)) (aX12_wants 19 rfl) (by decide) ?_
              refine hw_iceq (tgt := 69) (aX12_wants 20 rfl) (by decide) rfl (by decide : (35 : Int32).toInt = 35) (fun cd13 => ?_) (fun cd13 => ?_)
              · refine hw_ic (v := (1 : Int32)) (aX12_wants 33 rfl) (by decide) ?_
                refine xw_iret (aX12_wants 34 rfl) rfl rfl ?_
                have e14 : ((1 : Int32)).toInt = 1 := (by decide : (1 : Int32).toInt = 1)
                exact ⟨(1 : Int32), rfl, _, _, rfl, rfl, rfl, (by show ((a1).toInt = 6 ∨ (a1).toInt = 19 ∨ (a1).toInt = 25 ∨ (a1).toInt = 31 ∨ (a1).toInt = 32 ∨ (a1).toInt = 35 ∨ (a1).toInt = 40 ∨ (a1).toInt = 148 ∨ (a1).toInt = 155 ∨ (a1).toInt = 159 → ((1 : Int32)).toInt = 1); omega), (by show ((26 ≤ (a1).toInt ∧ (a1).toInt ≤ 46 ∧ (a1).toInt ≠ 31 ∧ (a1).toInt ≠ 32 ∧ (a1).toInt ≠ 35 ∧ (a1).toInt ≠ 40) ∨ (a1).toInt = 22 → ((1 : Int32)).toInt = 2); omega), (by show ((a1).toInt = 23 → ((1 : Int32)).toInt = 3); omega), (by show ((a1).toInt = 21 → ((1 : Int32)).toInt = (FL 121 35).toInt + 1); omega)⟩
              · refine xw_iloadn (aX12_wants 21 rfl) rfl ?_
                refine hw_bp (v := (40 : Int32)) (aX12_wants 22 rfl) (by decide) ?_
                refine hw_iceq (tgt := 69) (aX12_wants 23 rfl) (by decide) rfl (by decide : (40 : Int32).toInt = 40) (fun cd15 => ?_) (fun cd15 => ?_)
                · refine hw_ic (v := (1 : Int32)) (aX12_wants 33 rfl) (by decide) ?_
                  refine xw_iret (aX12_wants 34 rfl) rfl rfl ?_
                  have e16 : ((1 : Int32)).toInt = 1 := (by decide : (1 : Int32).toInt = 1)
                  exact ⟨(1 : Int32), rfl, _, _, rfl, rfl, rfl, (by show ((a1).toInt = 6 ∨ (a1).toInt = 19 ∨ (a1).toInt = 25 ∨ (a1).toInt = 31 ∨ (a1).toInt = 32 ∨ (a1).toInt = 35 ∨ (a1).toInt = 40 ∨ (a1).toInt = 148 ∨ (a1).toInt = 155 ∨ (a1).toInt = 159 → ((1 : Int32)).toInt = 1); omega), (by show ((26 ≤ (a1).toInt ∧ (a1).toInt ≤ 46 ∧ (a1).toInt ≠ 31 ∧ (a1).toInt ≠ 32 ∧ (a1).toInt ≠ 35 ∧ (a1).toInt ≠ 40) ∨ (a1).toInt = 22 → ((1 : Int32)).toInt = 2); omega), (by show ((a1).toInt = 23 → ((1 : Int32)).toInt = 3); omega), (by show ((a1).toInt = 21 → ((1 : Int32)).toInt = (FL 121 35).toInt + 1); omega)⟩
                · refine xw_iloadn (aX12_wants 24 rfl) rfl ?_
                  refine hw_sp (v := (148 : Int32)) (aX12_wants 25 rfl) (by decide) ?_
                  refine hw_iceq (tgt := 69) (aX12_wants 26 rfl) (by decide) rfl (by decide : (148 : Int32).toInt = 148) (fun cd17 => ?_) (fun cd17 => ?_)
                  · refine hw_ic (v := (1 : Int32)) (aX12_wants 33 rfl) (by decide) ?_
                    refine xw_iret (aX12_wants 34 rfl) rfl rfl ?_
                    have e18 : ((1 : Int32)).toInt = 1 := (by decide : (1 : Int32).toInt = 1)
                    exact ⟨(1 : Int32), rfl, _, _, rfl, rfl, rfl, (by show ((a1).toInt = 6 ∨ (a1).toInt = 19 ∨ (a1).toInt = 25 ∨ (a1).toInt = 31 ∨ (a1).toInt = 32 ∨ (a1).toInt = 35 ∨ (a1).toInt = 40 ∨ (a1).toInt = 148 ∨ (a1).toInt = 155 ∨ (a1).toInt = 159 → ((1 : Int32)).toInt = 1); omega), (by show ((26 ≤ (a1).toInt ∧ (a1).toInt ≤ 46 ∧ (a1).toInt ≠ 31 ∧ (a1).toInt ≠ 32 ∧ (a1).toInt ≠ 35 ∧ (a1).toInt ≠ 40) ∨ (a1).toInt = 22 → ((1 : Int32)).toInt = 2); omega), (by show ((a1).toInt = 23 → ((1 : Int32)).toInt = 3); omega), (by show ((a1).toInt = 21 → ((1 : Int32)).toInt = (FL 121 35).toInt + 1); omega)⟩
                  · refine xw_iloadn (aX12_wants 27 rfl) rfl ?_
                    refine hw_sp (v := (155 : Int32)) (aX12_wants 28 rfl) (by decide) ?_
                    refine hw_iceq (tgt := 69) (aX12_wants 29 rfl) (by decide) rfl (by decide : (155 : Int32).toInt = 155) (fun cd19 => ?_) (fun cd19 => ?_)
                    · refine hw_ic (v := (1 : Int32)) (aX12_wants 33 rfl) (by decide) ?_
                      refine xw_iret (aX12_wants 34 rfl) rfl rfl ?_
                      have e20 : ((1 : Int32)).toInt = 1 := (by decide : (1 : Int32).toInt = 1)
                      exact ⟨(1 : Int32), rfl, _, _, rfl, rfl, rfl, (by show ((a1).toInt = 6 ∨ (a1).toInt = 19 ∨ (a1).toInt = 25 ∨ (a1).toInt = 31 ∨ (a1).toInt = 32 ∨ (a1).toInt = 35 ∨ (a1).toInt = 40 ∨ (a1).toInt = 148 ∨ (a1).toInt = 155 ∨ (a1).toInt = 159 → ((1 : Int32)).toInt = 1); omega), (by show ((26 ≤ (a1).toInt ∧ (a1).toInt ≤ 46 ∧ (a1).toInt ≠ 31 ∧ (a1).toInt ≠ 32 ∧ (a1).toInt ≠ 35 ∧ (a1).toInt ≠ 40) ∨ (a1).toInt = 22 → ((1 : Int32)).toInt = 2); omega), (by show ((a1).toInt = 23 → ((1 : Int32)).toInt = 3); omega), (by show ((a1).toInt = 21 → ((1 : Int32)).toInt = (FL 121 35).toInt + 1); omega)⟩
                    · refine xw_iloadn (aX12_wants 30 rfl) rfl ?_
                      refine hw_sp (v := (159 : Int32)) (aX12_wants 31 rfl) (by decide) ?_
                      refine hw_icne (tgt := 71) (aX12_wants 32 rfl) (by decide) rfl (by decide : (159 : Int32).toInt = 159) (fun cd21 => ?_) (fun cd21 => ?_)
                      · refine xw_iloadn (aX12_wants 35 rfl) rfl ?_
                        refine hw_bp (v := (20 : Int32)) (aX12_wants 36 rfl) (by decide) ?_
                        refine hw_iceq (tgt := 83) (aX12_wants 37 rfl) (by decide) rfl (by decide : (20 : Int32).toInt = 20) (fun cd22 => ?_) (fun cd22 => ?_)
                        · refine hw_ic (v := (2 : Int32)) (aX12_wants 41 rfl) (by decide) ?_
                          refine xw_iret (aX12_wants 42 rfl) rfl rfl ?_
                          have e23 : ((2 : Int32)).toInt = 2 := (by decide : (2 : Int32).toInt = 2)
                          exact ⟨(2 : Int32), rfl, _, _, rfl, rfl, rfl, (by show ((a1).toInt = 6 ∨ (a1).toInt = 19 ∨ (a1).toInt = 25 ∨ (a1).toInt = 31 ∨ (a1).toInt = 32 ∨ (a1).toInt = 35 ∨ (a1).toInt = 40 ∨ (a1).toInt = 148 ∨ (a1).toInt = 155 ∨ (a1).toInt = 159 → ((2 : Int32)).toInt = 1); omega), (by show ((26 ≤ (a1).toInt ∧ (a1).toInt ≤ 46 ∧ (a1).toInt ≠ 31 ∧ (a1).toInt ≠ 32 ∧ (a1).toInt ≠ 35 ∧ (a1).toInt ≠ 40) ∨ (a1).toInt = 22 → ((2 : Int32)).toInt = 2); omega), (by show ((a1).toInt = 23 → ((2 : Int32)).toInt = 3); omega), (by show ((a1).toInt = 21 → ((2 : Int32)).toInt = (FL 121 35).toInt + 1); omega)⟩
                        · refine xw_iloadn (aX12_wants 38 rfl) rfl ?_
                          refine hw_bp (v := (22 : Int32)) (aX12_wants 39 rfl) (by decide) ?_
                          refine hw_icne (tgt := 85) (aX12_wants 40 rfl) (by decide) rfl (by decide : (22 : Int32).toInt = 22) (fun cd24 => ?_) (fun cd24 => ?_)
                          · refine xw_iloadn (aX12_wants 43 rfl) rfl ?_
                            refine hw_bp (v := (21 : Int32)) (aX12_wants 44 rfl) (by decide) ?_
                            refine hw_icne (tgt := 99) (aX12_wants 45 rfl) (by decide) rfl (by decide : (21 : Int32).toInt = 21) (fun cd25 => ?_) (fun cd25 => ?_)
                            · refine xw_iloadn (aX12_wants 52 rfl) rfl ?_
                              refine hw_bp (v := (23 : Int32)) (aX12_wants 53 rfl) (by decide) ?_
                              refine hw_icne (tgt := 107) (aX12_wants 54 rfl) (by decide) rfl (by decide : (23 : Int32).toInt = 23) (fun cd26 => ?_) (fun cd26 => ?_)
                              · refine xw_iloadn (aX12_wants 57 rfl) rfl ?_
                                refine hw_bp (v := (26 : Int32)) (aX12_wants 58 rfl) (by decide) ?_
                                refine hw_iclt (tgt := 121) (aX12_wants 59 rfl) (by decide) rfl (by decide : (26 : Int32).toInt = 26) (fun cd27 => ?_) (fun cd27 => ?_)
                                · refine hw_ic (v := (0 : Int32)) (aX12_wants 65 rfl) (by decide) ?_
                                  refine xw_iret (aX12_wants 66 rfl) rfl rfl ?_
                                  have e28 : ((0 : Int32)).toInt = 0 := (by decide : (0 : Int32).toInt = 0)
                                  exact ⟨(0 : Int32), rfl, _, _, rfl, rfl, rfl, (by show ((a1).toInt = 6 ∨ (a1).toInt = 19 ∨ (a1).toInt = 25 ∨ (a1).toInt = 31 ∨ (a1).toInt = 32 ∨ (a1).toInt = 35 ∨ (a1).toInt = 40 ∨ (a1).toInt = 148 ∨ (a1).toInt = 155 ∨ (a1).toInt = 159 → ((0 : Int32)).toInt = 1); omega), (by show ((26 ≤ (a1).toInt ∧ (a1).toInt ≤ 46 ∧ (a1).toInt ≠ 31 ∧ (a1).toInt ≠ 32 ∧ (a1).toInt ≠ 35 ∧ (a1).toInt ≠ 40) ∨ (a1).toInt = 22 → ((0 : Int32)).toInt = 2); omega), (by show ((a1).toInt = 23 → ((0 : Int32)).toInt = 3); omega), (by show ((a1).toInt = 21 → ((0 : Int32)).toInt = (FL 121 35).toInt + 1); omega)⟩
                                · refine xw_iloadn (aX12_wants 60 rfl) rfl ?_
                                  refine hw_bp (v := (46 : Int32)) (aX12_wants 61 rfl) (by decide) ?_
                                  refine hw_icgt (tgt := 121) (aX12_wants 62 rfl) (by decide) rfl (by decide : (46 : Int32).toInt = 46) (fun cd29 => ?_) (fun cd29 => ?_)
                                  · refine hw_ic (v := (0 : Int32)) (aX12_wants 65 rfl) (by decide) ?_
                                    refine xw_iret (aX12_wants 66 rfl) rfl rfl ?_
                                    have e30 : ((0 : Int32)).toInt = 0 := (by decide : (0 : Int32).toInt = 0)
                                    exact ⟨(0 : Int32), rfl, _, _, rfl, rfl, rfl, (by show ((a1).toInt = 6 ∨ (a1).toInt = 19 ∨ (a1).toInt = 25 ∨ (a1).toInt = 31 ∨ (a1).toInt = 32 ∨ (a1).toInt = 35 ∨ (a1).toInt = 40 ∨ (a1).toInt = 148 ∨ (a1).toInt = 155 ∨ (a1).toInt = 159 → ((0 : Int32)).toInt = 1); omega), (by show ((26 ≤ (a1).toInt ∧ (a1).toInt ≤ 46 ∧ (a1).toInt ≠ 31 ∧ (a1).toInt ≠ 32 ∧ (a1).toInt ≠ 35 ∧ (a1).toInt ≠ 40) ∨ (a1).toInt = 22 → ((0 : Int32)).toInt = 2); omega), (by show ((a1).toInt = 23 → ((0 : Int32)).toInt = 3); omega), (by show ((a1).toInt = 21 → ((0 : Int32)).toInt = (FL 121 35).toInt + 1); omega)⟩
                                  · refine hw_ic (v := (2 : Int32)) (aX12_wants 63 rfl) (by decide) ?_
                                    refine xw_iret (aX12_wants 64 rfl) rfl rfl ?_
                                    have e31 : ((2 : Int32)).toInt = 2 := (by decide : (2 : Int32).toInt = 2)
                                    exact ⟨(2 : Int32), rfl, _, _, rfl, rfl, rfl, (by show ((a1).toInt = 6 ∨ (a1).toInt = 19 ∨ (a1).toInt = 25 ∨ (a1).toInt = 31 ∨ (a1).toInt = 32 ∨ (a1).toInt = 35 ∨ (a1).toInt = 40 ∨ (a1).toInt = 148 ∨ (a1).toInt = 155 ∨ (a1).toInt = 159 → ((2 : Int32)).toInt = 1); omega), (by show ((26 ≤ (a1).toInt ∧ (a1).toInt ≤ 46 ∧ (a1).toInt ≠ 31 ∧ (a1).toInt ≠ 32 ∧ (a1).toInt ≠ 35 ∧ (a1).toInt ≠ 40) ∨ (a1).toInt = 22 → ((2 : Int32)).toInt = 2); omega), (by show ((a1).toInt = 23 → ((2 : Int32)).toInt = 3); omega), (by show ((a1).toInt = 21 → ((2 : Int32)).toInt = (FL 121 35).toInt + 1); omega)⟩
                              · refine hw_ic (v := (3 : Int32)) (aX12_wants 55 rfl) (by decide) ?_
                                refine xw_iret (aX12_wants 56 rfl) rfl rfl ?_
                                have e32 : ((3 : Int32)).toInt = 3 := (by decide : (3 : Int32).toInt = 3)
                                exact ⟨(3 : Int32), rfl, _, _, rfl, rfl, rfl, (by show ((a1).toInt = 6 ∨ (a1).toInt = 19 ∨ (a1).toInt = 25 ∨ (a1).toInt = 31 ∨ (a1).toInt = 32 ∨ (a1).toInt = 35 ∨ (a1).toInt = 40 ∨ (a1).toInt = 148 ∨ (a1).toInt = 155 ∨ (a1).toInt = 159 → ((3 : Int32)).toInt = 1); omega), (by show ((26 ≤ (a1).toInt ∧ (a1).toInt ≤ 46 ∧ (a1).toInt ≠ 31 ∧ (a1).toInt ≠ 32 ∧ (a1).toInt ≠ 35 ∧ (a1).toInt ≠ 40) ∨ (a1).toInt = 22 → ((3 : Int32)).toInt = 2); omega), (by show ((a1).toInt = 23 → ((3 : Int32)).toInt = 3); omega), (by show ((a1).toInt = 21 → ((3 : Int32)).toInt = (FL 121 35).toInt + 1); omega)⟩
                            · refine hw_aloadn (aX12_wants 46 rfl) rfl ?_
                              refine hw_get (v := .long (FL 121 35)) (aX12_wants 47 rfl) wf_RX12_228 (c121 hS) (s121 hS) (by decide) (congrArg Value.long (show FL 121 35 = FL 121 35 from rfl)) ?_
                              have e33 := l_rng (FL 121 35)
                              have hz := hid_e g0 (by omega)
                              have e34 : 0 ≤ (FL 121 35).toInt ∧ (FL 121 35).toInt ≤ 255 := by omega
                              refine xw_l2i (aX12_wants 48 rfl) ?_
                              refine hw_tie (A := (FL 121 35).toInt) (l_2i rfl (by omega) (by omega)) (fun x35 e36 => ?_)
                              refine hw_ic (v := (1 : Int32)) (aX12_wants 49 rfl) (by decide) ?_
                              refine xw_iadd (aX12_wants 50 rfl) ?_
                              refine hw_tie (A := ((FL 121 35).toInt) + (1)) (i_add e36 (by decide : (1 : Int32).toInt = 1) (by omega) (by omega)) (fun x37 e38 => ?_)
                              refine xw_iret (aX12_wants 51 rfl) rfl rfl ?_
                              have e39 : (x37).toInt = ((FL 121 35).toInt) + (1) := e38
                              exact ⟨x37, rfl, _, _, rfl, rfl, rfl, (by show ((a1).toInt = 6 ∨ (a1).toInt = 19 ∨ (a1).toInt = 25 ∨ (a1).toInt = 31 ∨ (a1).toInt = 32 ∨ (a1).toInt = 35 ∨ (a1).toInt = 40 ∨ (a1).toInt = 148 ∨ (a1).toInt = 155 ∨ (a1).toInt = 159 → (x37).toInt = 1); omega), (by show ((26 ≤ (a1).toInt ∧ (a1).toInt ≤ 46 ∧ (a1).toInt ≠ 31 ∧ (a1).toInt ≠ 32 ∧ (a1).toInt ≠ 35 ∧ (a1).toInt ≠ 40) ∨ (a1).toInt = 22 → (x37).toInt = 2); omega), (by show ((a1).toInt = 23 → (x37).toInt = 3); omega), (by show ((a1).toInt = 21 → (x37).toInt = (FL 121 35).toInt + 1); omega)⟩
                          · refine hw_ic (v := (2 : Int32)) (aX12_wants 41 rfl) (by decide) ?_
                            refine xw_iret (aX12_wants 42 rfl) rfl rfl ?_
                            have e40 : ((2 : Int32)).toInt = 2 := (by decide : (2 : Int32).toInt = 2)
                            exact ⟨(2 : Int32), rfl, _, _, rfl, rfl, rfl, (by show ((a1).toInt = 6 ∨ (a1).toInt = 19 ∨ (a1).toInt = 25 ∨ (a1).toInt = 31 ∨ (a1).toInt = 32 ∨ (a1).toInt = 35 ∨ (a1).toInt = 40 ∨ (a1).toInt = 148 ∨ (a1).toInt = 155 ∨ (a1).toInt = 159 → ((2 : Int32)).toInt = 1); omega), (by show ((26 ≤ (a1).toInt ∧ (a1).toInt ≤ 46 ∧ (a1).toInt ≠ 31 ∧ (a1).toInt ≠ 32 ∧ (a1).toInt ≠ 35 ∧ (a1).toInt ≠ 40) ∨ (a1).toInt = 22 → ((2 : Int32)).toInt = 2); omega), (by show ((a1).toInt = 23 → ((2 : Int32)).toInt = 3); omega), (by show ((a1).toInt = 21 → ((2 : Int32)).toInt = (FL 121 35).toInt + 1); omega)⟩
                      · refine hw_ic (v := (1 : Int32)) (aX12_wants 33 rfl) (by decide) ?_
                        refine xw_iret (aX12_wants 34 rfl) rfl rfl ?_
                        have e41 : ((1 : Int32)).toInt = 1 := (by decide : (1 : Int32).toInt = 1)
                        exact ⟨(1 : Int32), rfl, _, _, rfl, rfl, rfl, (by show ((a1).toInt = 6 ∨ (a1).toInt = 19 ∨ (a1).toInt = 25 ∨ (a1).toInt = 31 ∨ (a1).toInt = 32 ∨ (a1).toInt = 35 ∨ (a1).toInt = 40 ∨ (a1).toInt = 148 ∨ (a1).toInt = 155 ∨ (a1).toInt = 159 → ((1 : Int32)).toInt = 1); omega), (by show ((26 ≤ (a1).toInt ∧ (a1).toInt ≤ 46 ∧ (a1).toInt ≠ 31 ∧ (a1).toInt ≠ 32 ∧ (a1).toInt ≠ 35 ∧ (a1).toInt ≠ 40) ∨ (a1).toInt = 22 → ((1 : Int32)).toInt = 2); omega), (by show ((a1).toInt = 23 → ((1 : Int32)).toInt = 3); omega), (by show ((a1).toInt = 21 → ((1 : Int32)).toInt = (FL 121 35).toInt + 1); omega)⟩
def nX12_rest : Nat := 0xad652105160700a70516080099f200b62105162a053765692179046d217d041f1fad71211f07009b94091fad65211f0600a71f070099f200b6211f2a14009c940921
theorem bX12_rest : cX12_rest.data.toList.map UInt8.toNat = x_un nX12_rest 66 := by decide +kernel
def iX12_rest : List (Nat × Jvm.ClassFile.Instr × Nat) := [(0, .lload_n 3, 1), (1, .lconst 0, 1), (2, .lcmp, 1), (3, .ifCond .ge 20, 3), (6, .aload_n 0, 1), (7, .lload_n 1, 1), (8, .lload_n 3, 1), (9, .invokevirtual 242, 3), (12, .ifCond .eq 7, 3), (15, .lload_n 1, 1), (16, .goto 6, 3), (19, .lload_n 1, 1), (20, .lload_n 3, 1), (21, .lsub, 1), (22, .lreturn, 1), (23, .lload_n 1, 1), (24, .lconst 0, 1), (25, .lcmp, 1), (26, .ifCond .lt 7, 3), (29, .lload_n 1, 1), (30, .lload_n 3, 1), (31, .lrem, 1), (32, .lreturn, 1), (33, .lload_n 1, 1), (34, .lload_n 1, 1), (35, .iconst 1, 1), (36, .lushr, 1), (37, .lload_n 3, 1), (38, .ldiv, 1), (39, .iconst 1, 1), (40, .lshl, 1), (41, .lload_n 3, 1), (42, .lmul, 1), (43, .lsub, 1), (44, .lstore 5, 2), (46, .aload_n 0, 1), (47, .lload 5, 2), (49, .lload_n 3, 1), (50, .invokevirtual 242, 3), (53, .ifCond .eq 8, 3), (56, .lload 5, 2), (58, .goto 7, 3), (61, .lload 5, 2), (63, .lload_n 3, 1), (64, .lsub, 1), (65, .lreturn, 1)]
theorem dX12_rest : x_il nX12_rest 66 iX12_rest = true := by decide +kernel
theorem aX12_rest (k : Nat) {pc : Nat} {i : Jvm.ClassFile.Instr} {len : Nat} (hk : iX12_rest[k]? = some (pc, i, len)) : x_at xMM 175 pc i len yX12_rest 7 (some .long) := ⟨cX12_rest, rfl, x_il_ok bX12_rest dX12_rest k hk⟩
set_option maxHeartbeats 4000000 in
set_option maxRecDepth 100000 in
theorem m_rest {sk : xK} {base d n sl : Nat} {SH : Nat → Nat × Nat} {FI : Nat → Nat → Int32} {FL : Nat → Nat → Int64} {FR : Nat → Nat → Option Nat} (hS : h_S n SH) (hF : h_FR FR) (a1 : Int64) (a2 : Int64) (g0 : (a2).toInt ≠ 0) : hw sk base (d + 1) none 175 0 [(0, .ref (base + 121)), (1, .long (a1)), (3, .long (a2))] [] (n, sl, SH, FI, FL, FR) (h_J (fun r s => ∃ FI' FL', s = (n, sl, SH, FI', FL', FR) ∧ FI = FI' ∧ FL = FL')) := by
  have rg_a1 := l_rng a1
  have rg_a2 := l_rng a2
  refine xw_lloadn (aX12_rest 0 rfl) rfl ?_
  refine hw_lc (v := (0 : Int64)) (aX12_rest 1 rfl) (by decide) ?_
  refine hw_lcge (tgt := 23) (aX12_rest 2 rfl) (aX12_rest 3 rfl) (by decide) rfl (by decide : (0 : Int64).toInt = 0) (fun cd1 => ?_) (fun cd1 => ?_)
  · refine xw_lloadn (aX12_rest 15 rfl) rfl ?_
    refine hw_lc (v := (0 : Int64)) (aX12_rest 16 rfl) (by decide) ?_
    refine hw_lclt (tgt := 33) (aX12_rest 17 rfl) (aX12_rest 18 rfl) (by decide) rfl (by decide : (0 : Int64).toInt = 0) (fun cd2 => ?_) (fun cd2 => ?_)
    · refine xw_lloadn (aX12_rest 23 rfl) rfl ?_
      refine xw_lloadn (aX12_rest 24 rfl) rfl ?_
      refine hw_ic (v := (1 : Int32)) (aX12_rest 25 rfl) (by decide) ?_
      refine xw_lushr (aX12_rest 26 rfl) ?_
      refine hw_tl (fun x3 => ?_)
      have b4 := l_rng x3
      refine xw_lloadn (aX12_rest 27 rfl) rfl ?_
      refine xw_ldiv (aX12_rest 28 rfl) (l_ne0 rfl (by omega)) ?_
      refine hw_tl (fun x5 => ?_)
      have b6 := l_rng x5
      refine hw_ic (v := (1 : Int32)) (aX12_rest 29 rfl) (by decide) ?_
      refine xw_lshl (aX12_rest 30 rfl) ?_
      refine hw_tl (fun x7 => ?_)
      have b8 := l_rng x7
      refine xw_lloadn (aX12_rest 31 rfl) rfl ?_
      refine xw_lmul (aX12_rest 32 rfl) ?_
      refine hw_tl (fun x9 => ?_)
      have b10 := l_rng x9
      refine xw_lsub (aX12_rest 33 rfl) ?_
      refine hw_tl (fun x11 => ?_)
      have b12 := l_rng x11
      refine xw_lstore (L2 := [(5, .long (x11)), (0, .ref (base + 121)), (1, .long (a1)), (3, .long (a2))]) (aX12_rest 34 rfl) (by decide) rfl ?_
      refine hw_aloadn (aX12_rest 35 rfl) rfl ?_
      refine xw_lload (aX12_rest 36 rfl) rfl ?_
      refine xw_lloadn (aX12_rest 37 rfl) rfl ?_
      refine hw_callV (Bs := [.long (x11), .long (a2)]) (rest := []) (aX12_rest 38 rfl) wc_RX12_242 (by decide) rfl wi_yX12_isBelow wv_yX12_isBelow (c121 hS) (s121 hS) rfl rfl rfl (Nat.le_of_ble_eq_true rfl) (Nat.le_of_ble_eq_true rfl) (m_isBelow (d := d) hS hF (x11) (a2) ) (fun v13 sv14 p15 => ?_)
      obtain ⟨r19, rfl, FI17, FL18, rfl, rfl, rfl, t20⟩ := p15
      have rg_r19 := i_rng r19
      show hw sk base _ none _ _ _ [.int (r19)] _ _
      refine hw_ifeq (tgt := 61) (aX12_rest 39 rfl) (by decide) rfl (fun cd21 => ?_) (fun cd21 => ?_)
      · refine xw_lload (aX12_rest 42 rfl) rfl ?_
        refine xw_lloadn (aX12_rest 43 rfl) rfl ?_
        refine xw_lsub (aX12_rest 44 rfl) ?_
        refine hw_tl (fun x22 => ?_)
        have b23 := l_rng x22
        refine xw_lret (aX12_rest 45 rfl) rfl ?_
        have e24 : (x22).toInt = (x22).toInt := rfl
        exact ⟨x22, rfl, _, _, rfl, rfl, rfl⟩
      · refine xw_lload (aX12_rest 40 rfl) rfl ?_
        refine xw_goto (tgt := 65) (aX12_rest 41 rfl) (by decide) ?_
        refine xw_lret (aX12_rest 45 rfl) rfl ?_
        have e25 : (x11).toInt = (x11).toInt := rfl
        exact ⟨x11, rfl, _, _, rfl, rfl, rfl⟩
    · refine xw_lloadn (aX12_rest 19 rfl) rfl ?_
      refine xw_lloadn (aX12_rest 20 rfl) rfl ?_
      refine xw_lrem (aX12_rest 21 rfl) (l_ne0 rfl (by omega)) ?_
      refine hw_tl (fun x26 => ?_)
      have b27 := l_rng x26
      refine xw_lret (aX12_rest 22 rfl) rfl ?_
      have e28 : (x26).toInt = (x26).toInt := rfl
      exact ⟨x26, rfl, _, _, rfl, rfl, rfl⟩
  · refine hw_aloadn (aX12_rest 4 rfl) rfl ?_
    refine xw_lloadn (aX12_rest 5 rfl) rfl ?_
    refine xw_lloadn (aX12_rest 6 rfl) rfl ?_
    refine hw_callV (Bs := [.long (a1), .long (a2)]) (rest := []) (aX12_rest 7 rfl) wc_RX12_242 (by decide) rfl wi_yX12_isBelow wv_yX12_isBelow (c121 hS) (s121 hS) rfl rfl rfl (Nat.le_of_ble_eq_true rfl) (Nat.le_of_ble_eq_true rfl) (m_isBelow (d := d) hS hF (a1) (a2) ) (fun v29 sv30 p31 => ?_)
    obtain ⟨r35, rfl, FI33, FL34, rfl, rfl, rfl, t36⟩ := p31
    have rg_r35 := i_rng r35
    show hw sk base _ none _ _ _ [.int (r35)] _ _
    refine hw_ifeq (tgt := 19) (aX12_rest 8 rfl) (by decide) rfl (fun cd37 => ?_) (fun cd37 => ?_)
    · refine xw_lloadn (aX12_rest 11 rfl) rfl ?_
      refine xw_lloadn (aX12_rest 12 rfl) rfl ?_
      refine xw_lsub (aX12_rest 13 rfl) ?_
      refine hw_tl (fun x38 => ?_)
      have b39 := l_rng x38
      refine xw_lret (aX12_rest 14 rfl) rfl ?_
      have e40 : (x38).toInt = (x38).toInt := rfl
      exact ⟨x38, rfl, _, _, rfl, rfl, rfl⟩
    · refine xw_lloadn (aX12_rest 9 rfl) rfl ?_
      refine xw_goto (tgt := 22) (aX12_rest 10 rfl) (by decide) ?_
      refine xw_lret (aX12_rest 14 rfl) rfl ?_
      have e41 : (a1).toInt = (a1).toInt := rfl
      exact ⟨a1, rfl, _, _, rfl, rfl, rfl⟩
def nX12_worked : Nat := 0xad090400a70a07009907150736030400a704070099940416201100a70736030400a70407009c940416201400a02d101b2800a70736030400a70407009d940416201400a02c101b3f00a70736030400a70407009e940416201400a02b101b5600a70736030400a70407009b940416201400a02a101b6d00a70736030400a70407009a940416201400a029101bad7b880416200800a7090c00a7e2001409009c94092013009906151e00a026101bad7d880416200800a70907009906151200a025101bad79880416200800a70907009906151200a024101b0636030400a70407009e94fa001404160c009b94090416adf600b60416202a0b00a01d101bad6d0416200800a01b101bad690416200800a01e101bad650416200800a01c101bad610416200800a022101bad830416200800a027101bad810416200800a021101bad7f0416200800a01a101b
theorem bX12_worked : cX12_worked.data.toList.map UInt8.toNat = x_un nX12_worked 329 := by decide +kernel
def iX12_worked : List (Nat × Jvm.ClassFile.Instr × Nat) := [(0, .iload_n 1, 1), (1, .bipush 26, 2), (3, .if_icmp .ne 8, 3), (6, .lload_n 2, 1), (7, .lload 4, 2), (9, .land, 1), (10, .lreturn, 1), (11, .iload_n 1, 1), (12, .bipush 33, 2), (14, .if_icmp .ne 8, 3), (17, .lload_n 2, 1), (18, .lload 4, 2), (20, .lor, 1), (21, .lreturn, 1), (22, .iload_n 1, 1), (23, .bipush 39, 2), (25, .if_icmp .ne 8, 3), (28, .lload_n 2, 1), (29, .lload 4, 2), (31, .lxor, 1), (32, .lreturn, 1), (33, .iload_n 1, 1), (34, .bipush 34, 2), (36, .if_icmp .ne 8, 3), (39, .lload_n 2, 1), (40, .lload 4, 2), (42, .ladd, 1), (43, .lreturn, 1), (44, .iload_n 1, 1), (45, .bipush 28, 2), (47, .if_icmp .ne 8, 3), (50, .lload_n 2, 1), (51, .lload 4, 2), (53, .lsub, 1), (54, .lreturn, 1), (55, .iload_n 1, 1), (56, .bipush 30, 2), (58, .if_icmp .ne 8, 3), (61, .lload_n 2, 1), (62, .lload 4, 2), (64, .lmul, 1), (65, .lreturn, 1), (66, .iload_n 1, 1), (67, .bipush 27, 2), (69, .if_icmp .ne 8, 3), (72, .lload_n 2, 1), (73, .lload 4, 2), (75, .ldiv, 1), (76, .lreturn, 1), (77, .iload_n 1, 1), (78, .bipush 29, 2), (80, .if_icmp .ne 11, 3), (83, .aload_n 0, 1), (84, .lload_n 2, 1), (85, .lload 4, 2), (87, .invokevirtual 246, 3), (90, .lreturn, 1), (91, .lload 4, 2), (93, .lconst 0, 1), (94, .lcmp, 1), (95, .ifCond .lt 12, 3), (98, .lload 4, 2), (100, .ldc2_w 250, 3), (103, .lcmp, 1), (104, .ifCond .le 7, 3), (107, .iconst 1, 1), (108, .goto 4, 3), (111, .iconst 0, 1), (112, .istore 6, 2), (114, .iload_n 1, 1), (115, .bipush 36, 2), (117, .if_icmp .ne 18, 3), (120, .iload 6, 2), (122, .ifCond .eq 7, 3), (125, .lconst 0, 1), (126, .goto 8, 3), (129, .lload_n 2, 1), (130, .lload 4, 2), (132, .l2i, 1), (133, .lshl, 1), (134, .lreturn, 1), (135, .iload_n 1, 1), (136, .bipush 37, 2), (138, .if_icmp .ne 18, 3), (141, .iload 6, 2), (143, .ifCond .eq 7, 3), (146, .lconst 0, 1), (147, .goto 8, 3), (150, .lload_n 2, 1), (151, .lload 4, 2), (153, .l2i, 1), (154, .lushr, 1), (155, .lreturn, 1), (156, .iload_n 1, 1), (157, .bipush 38, 2), (159, .if_icmp .ne 30, 3), (162, .iload 6, 2), (164, .ifCond .eq 19, 3), (167, .lload_n 2, 1), (168, .lconst 0, 1), (169, .lcmp, 1), (170, .ifCond .ge 9, 3), (173, .ldc2_w 226, 3), (176, .goto 12, 3), (179, .lconst 0, 1), (180, .goto 8, 3), (183, .lload_n 2, 1), (184, .lload 4, 2), (186, .l2i, 1), (187, .lshr, 1), (188, .lreturn, 1), (189, .iload_n 1, 1), (190, .bipush 41, 2), (192, .if_icmp .ne 20, 3), (195, .lload_n 2, 1), (196, .lload 4, 2), (198, .lcmp, 1), (199, .ifCond .ne 7, 3), (202, .iconst 1, 1), (203, .goto 4, 3), (206, .iconst 0, 1), (207, .istore 7, 2), (209, .goto 109, 3), (212, .iload_n 1, 1), (213, .bipush 42, 2), (215, .if_icmp .ne 20, 3), (218, .lload_n 2, 1), (219, .lload 4, 2), (221, .lcmp, 1), (222, .ifCond .lt 7, 3), (225, .iconst 1, 1), (226, .goto 4, 3), (229, .iconst 0, 1), (230, .istore 7, 2), (232, .goto 86, 3), (235, .iload_n 1, 1), (236, .bipush 43, 2), (238, .if_icmp .ne 20, 3), (241, .lload_n 2, 1), (242, .lload 4, 2), (244, .lcmp, 1), (245, .ifCond .le 7, 3), (248, .iconst 1, 1), (249, .goto 4, 3), (252, .iconst 0, 1), (253, .istore 7, 2), (255, .goto 63, 3), (258, .iload_n 1, 1), (259, .bipush 44, 2), (261, .if_icmp .ne 20, 3), (264, .lload_n 2, 1), (265, .lload 4, 2), (267, .lcmp, 1), (268, .ifCond .gt 7, 3), (271, .iconst 1, 1), (272, .goto 4, 3), (275, .iconst 0, 1), (276, .istore 7, 2), (278, .goto 40, 3), (281, .iload_n 1, 1), (282, .bipush 45, 2), (284, .if_icmp .ne 20, 3), (287, .lload_n 2, 1), (288, .lload 4, 2), (290, .lcmp, 1), (291, .ifCond .ge 7, 3), (294, .iconst 1, 1), (295, .goto 4, 3), (298, .iconst 0, 1), (299, .istore 7, 2), (301, .goto 17, 3), (304, .lload_n 2, 1), (305, .lload 4, 2), (307, .lcmp, 1), (308, .ifCond .eq 7, 3), (311, .iconst 1, 1), (312, .goto 4, 3), (315, .iconst 0, 1), (316, .istore 7, 2), (318, .iload 7, 2), (320, .ifCond .eq 7, 3), (323, .lconst 1, 1), (324, .goto 4, 3), (327, .lconst 0, 1), (328, .lreturn, 1)]
theorem dX12_worked : x_il nX12_worked 329 iX12_worked = true := by decide +kernel
theorem aX12_worked (k : Nat) {pc : Nat} {i : Jvm.ClassFile.Instr} {len : Nat} (hk : iX12_worked[k]? = some (pc, i, len)) : x_at xMM 176 pc i len yX12_worked 8 (some .long) := ⟨cX12_worked, rfl, x_il_ok bX12_worked dX12_worked k hk⟩
set_option maxHeartbeats 4000000 in
set_option maxRecDepth 100000 in
theorem m_worked {sk : xK} {base d n sl : Nat} {SH : Nat → Nat × Nat} {FI : Nat → Nat → Int32} {FL : Nat → Nat → Int64} {FR : Nat → Nat → Option Nat} (hS : h_S n SH) (hF : h_FR FR) (a1 : Int32) (a2 : Int64) (a3 : Int64) (g0 : (a1).toInt = 27 ∨ (a1).toInt = 29 → (a3).toInt ≠ 0) : hw sk base (d + 2) none 176 0 [(0, .ref (base + 121)), (1, .int (a1)), (2, .long (a2)), (4, .long (a3))] [] (n, sl, SH, FI, FL, FR) (h_J (fun r s => ∃ FI' FL', s = (n, sl, SH, FI', FL', FR) ∧ FI = FI' ∧ FL = FL')) := by
  have rg_a1 := i_rng a1
  have rg_a2 := l_rng a2
  have rg_a3 := l_rng a3
  refine xw_iloadn (aX12_worked 0 rfl) rfl ?_
  refine hw_bp (v := (26 : Int32)) (aX12_worked 1 rfl) (by decide) ?_
  refine hw_icne (tgt := 11) (aX12_worked 2 rfl) (by decide) rfl (by decide : (26 : Int32).toInt = 26) (fun cd1 => ?_) (fun cd1 => ?_)
  · refine xw_iloadn (aX12_worked 7 rfl) rfl ?_
    refine hw_bp (v := (33 : Int32)) (aX12_worked 8 rfl) (by decide) ?_
    refine hw_icne (tgt := 22) (aX12_worked 9 rfl) (by decide) rfl (by decide : (33 : Int32).toInt = 33) (fun cd2 => ?_) (fun cd2 => ?_)
    · refine xw_iloadn (aX12_worked 14 rfl) rfl ?_
      refine hw_bp (v := (39 : Int32)) (aX12_worked 15 rfl) (by decide) ?_
      refine hw_icne (tgt := 33) (aX12_worked 16 rfl) (by decide) rfl (by decide : (39 : Int32).toInt = 39) (fun cd3 => ?_) (fun cd3 => ?_)
      · refine xw_iloadn (aX12_worked 21 rfl) rfl ?_
        refine hw_bp (v := (34 : Int32)) (aX12_worked 22 rfl) (by decide) ?_
        refine hw_icne (tgt := 44) (aX12_worked 23 rfl) (by decide) rfl (by decide : (34 : Int32).toInt = 34) (fun cd4 => ?_) (fun cd4 => ?_)
        · refine xw_iloadn (aX12_worked 28 rfl) rfl ?_
          refine hw_bp (v := (28 : Int32)) (aX12_worked 29 rfl) (by decide) ?_
          refine hw_icne (tgt := 55) (aX12_worked 30 rfl) (by decide) rfl (by decide : (28 : Int32).toInt = 28) (fun cd5 => ?_) (fun cd5 => ?_)
          · refine xw_iloadn (aX12_worked 35 rfl) rfl ?_
            refine hw_bp (v := (30 : Int32)) (aX12_worked 36 rfl) (by decide) ?_
            refine hw_icne (tgt := 66) (aX12_worked 37 rfl) (by decide) rfl (by decide : (30 : Int32).toInt = 30) (fun cd6 => ?_) (fun cd6 => ?_)
            · refine xw_iloadn (aX12_worked 42 rfl) rfl ?_
              refine hw_bp (v := (27 : Int32)) (aX12_worked 43 rfl) (by decide) ?_
              refine hw_icne (tgt := 77) (aX12_worked 44 rfl) (by decide) rfl (by decide : (27 : Int32).toInt = 27) (fun cd7 => ?_) (fun cd7 => ?_)
              · refine xw_iloadn (aX12_worked 49 rfl) rfl ?_
                refine hw_bp (v := (29 : Int32)) (aX12_worked 50 rfl) (by decide) ?_
                refine hw_icne (tgt := 91) (aX12_worked 51 rfl) (by decide) rfl (by decide : (29 : Int32).toInt = 29) (fun cd8 => ?_) (fun cd8 => ?_)
                · refine xw_lload (aX12_worked 57 rfl) rfl ?_
                  refine hw_lc (v := (0 : Int64)) (aX12_worked 58 rfl) (by decide) ?_
                  have j59 : ∀ (g11 : Int32), (0 ≤ (g11).toInt ∧ (g11).toInt ≤ 1) → hw sk base (d + 2) none 176 112 [(0, .ref (base + 121)), (1, .int (a1)), (2, .long (a2)), (4, .long (a3))] [.int (g11)] (n, sl, SH, FI, FL, FR) (h_J (fun r s => ∃ FI' FL', s = (n, sl, SH, FI', FL', FR) ∧ FI = FI' ∧ FL = FL')) := by
                    intro g11 q60
                    have rg_g11 := i_rng g11
                    refine xw_istore (L2 := [(6, .int (g11)), (0, .ref (base + 121)), (1, .int (a1)), (2, .long (a2)), (4, .long (a3))]) (aX12_worked 68 rfl) (by decide) rfl ?_
                    refine xw_iloadn (aX12_worked 69 rfl) rfl ?_
                    refine hw_bp (v := (36 : Int32)) (aX12_worked 70 rfl) (by decide) ?_
                    refine hw_icne (tgt := 135) (aX12_worked 71 rfl) (by decide) rfl (by decide : (36 : Int32).toInt = 36) (fun cd61 => ?_) (fun cd61 => ?_)
                    · refine xw_iloadn (aX12_worked 81 rfl) rfl ?_
                      refine hw_bp (v := (37 : Int32)) (aX12_worked 82 rfl) (by decide) ?_
                      refine hw_icne (tgt := 156) (aX12_worked 83 rfl) (by decide) rfl (by decide : (37 : Int32).toInt = 37) (fun cd62 => ?_) (fun cd62 => ?_)
                      · refine xw_iloadn (aX12_worked 93 rfl) rfl ?_
                        refine hw_bp (v := (38 : Int32)) (aX12_worked 94 rfl) (by decide) ?_
                        refine hw_icne (tgt := 189) (aX12_worked 95 rfl) (by decide) rfl (by decide : (38 : Int32).toInt = 38) (fun cd63 => ?_) (fun cd63 => ?_)
                        · refine xw_iloadn (aX12_worked 111 rfl) rfl ?_
                          refine hw_bp (v := (41 : Int32)) (aX12_worked 112 rfl) (by decide) ?_
                          have j85 : ∀ (g81 : Int32), (0 ≤ (g81).toInt ∧ (g81).toInt ≤ 1) → hw sk base (d + 2) none 176 318 [(0, .ref (base + 121)), (7, .int (g81))] [] (n, sl, SH, FI, FL, FR) (h_J (fun r s => ∃ FI' FL', s = (n, sl, SH, FI', FL', FR) ∧ FI = FI' ∧ FL = FL')) := by
                            intro g81 q86
                            have rg_g81 := i_rng g81
                            refine xw_iload (aX12_worked 179 rfl) rfl ?_
                            refine hw_ifeq (tgt := 327) (aX12_worked 180 rfl) (by decide) rfl (fun cd87 => ?_) (fun cd87 => ?_)
                            · refine hw_lc (v := (0 : Int64)) (aX12_worked 183 rfl) (by decide) ?_
                              refine xw_lret (aX12_worked 184 rfl) rfl ?_
                              have e88 : ((0 : Int64)).toInt = 0 := (by decide : (0 : Int64).toInt = 0)
                              exact ⟨(0 : Int64), rfl, _, _, rfl, rfl, rfl⟩
                            · refine hw_lc (v := (1 : Int64)) (aX12_worked 181 rfl) (by decide) ?_
                              refine xw_goto (tgt := 328) (aX12_worked 182 rfl) (by decide) ?_
                              refine xw_lret (aX12_worked 184 rfl) rfl ?_
                              have e89 : ((1 : Int64)).toInt = 1 := (by decide : (1 : Int64).toInt = 1)
                              exact ⟨(1 : Int64), rfl, _, _, rfl, rfl, rfl⟩
                          refine hw_icne (tgt := 212) (aX12_worked 113 rfl) (by decide) rfl (by decide : (41 : Int32).toInt = 41) (fun cd90 => ?_) (fun cd90 => ?_)
                          · refine xw_iloadn (aX12_worked 123 rfl) rfl ?_
                            refine hw_bp (v := (42 : Int32)) (aX12_worked 124 rfl) (by decide) ?_
                            refine hw_icne (tgt := 235) (aX12_worked 125 rfl) (by decide) rfl (by decide : (42 : Int32).toInt = 42) (fun cd91 => ?_) (fun cd91 => ?_)
                            · refine xw_iloadn (aX12_worked 135 rfl) rfl ?_
                              refine hw_bp (v := (43 : Int32)) (aX12_worked 136 rfl) (by decide) ?_
                              refine hw_icne (tgt := 258) (aX12_worked 137 rfl) (by decide) rfl (by decide : (43 : Int32).toInt = 43) (fun cd92 => ?_) (fun cd92 => ?_)
                              · refine xw_iloadn (aX12_worked 147 rfl) rfl ?_
                                refine hw_bp (v := (44 : Int32)) (aX12_worked 148 rfl) (by decide) ?_
                                refine hw_icne (tgt := 281) (aX12_worked 149 rfl) (by decide) rfl (by decide : (44 : Int32).toInt = 44) (fun cd93 => ?_) (fun cd93 => ?_)
                                · refine xw_iloadn (aX12_worked 159 rfl) rfl ?_
                                  refine hw_bp (v := (45 : Int32)) (aX12_worked 160 rfl) (by decide) ?_
                                  refine hw_icne (tgt := 304) (aX12_worked 161 rfl) (by decide) rfl (by decide : (45 : Int32).toInt = 45) (fun cd94 => ?_) (fun cd94 => ?_)
                                  · refine xw_lloadn (aX12_worked 171 rfl) rfl ?_
                                    refine xw_lload (aX12_worked 172 rfl) rfl ?_
                                    have j97 : ∀ (g96 : Int32), (0 ≤ (g96).toInt ∧ (g96).toInt ≤ 1) → hw sk base (d + 2) none 176 316 [(0, .ref (base + 121))] [.int (g96)] (n, sl, SH, FI, FL, FR) (h_J (fun r s => ∃ FI' FL', s = (n, sl, SH, FI', FL', FR) ∧ FI = FI' ∧ FL = FL')) := by
                                      intro g96 q98
                                      have rg_g96 := i_rng g96
                                      refine xw_istore (L2 := [(7, .int (g96)), (0, .ref (base + 121))]) (aX12_worked 178 rfl) (by decide) rfl ?_
                                      exact hw_L (j85 (g96) (by show 0 ≤ (g96).toInt ∧ (g96).toInt ≤ 1; omega)) ⟨rfl, rfl, trivial⟩
                                    refine hw_lceq (tgt := 315) (aX12_worked 173 rfl) (aX12_worked 174 rfl) (by decide) rfl rfl (fun cd99 => ?_) (fun cd99 => ?_)
                                    · refine hw_ic (v := (0 : Int32)) (aX12_worked 177 rfl) (by decide) ?_
                                      exact hw_L (j97 ((0 : Int32)) (by have := ((by decide : (0 : Int32).toInt = 0) : ((0 : Int32)).toInt = 0); show 0 ≤ ((0 : Int32)).toInt ∧ ((0 : Int32)).toInt ≤ 1; omega)) ⟨rfl, trivial⟩
                                    · refine hw_ic (v := (1 : Int32)) (aX12_worked 175 rfl) (by decide) ?_
                                      refine xw_goto (tgt := 316) (aX12_worked 176 rfl) (by decide) ?_
                                      exact hw_L (j97 ((1 : Int32)) (by have := ((by decide : (1 : Int32).toInt = 1) : ((1 : Int32)).toInt = 1); show 0 ≤ ((1 : Int32)).toInt ∧ ((1 : Int32)).toInt ≤ 1; omega)) ⟨rfl, trivial⟩
                                  · refine xw_lloadn (aX12_worked 162 rfl) rfl ?_
                                    refine xw_lload (aX12_worked 163 rfl) rfl ?_
                                    have j102 : ∀ (g101 : Int32), (0 ≤ (g101).toInt ∧ (g101).toInt ≤ 1) → hw sk base (d + 2) none 176 299 [(0, .ref (base + 121))] [.int (g101)] (n, sl, SH, FI, FL, FR) (h_J (fun r s => ∃ FI' FL', s = (n, sl, SH, FI', FL', FR) ∧ FI = FI' ∧ FL = FL')) := by
                                      intro g101 q103
                                      have rg_g101 := i_rng g101
                                      refine xw_istore (L2 := [(7, .int (g101)), (0, .ref (base + 121))]) (aX12_worked 169 rfl) (by decide) rfl ?_
                                      refine xw_goto (tgt := 318) (aX12_worked 170 rfl) (by decide) ?_
                                      exact hw_L (j85 (g101) (by show 0 ≤ (g101).toInt ∧ (g101).toInt ≤ 1; omega)) ⟨rfl, rfl, trivial⟩
                                    refine hw_lcge (tgt := 298) (aX12_worked 164 rfl) (aX12_worked 165 rfl) (by decide) rfl rfl (fun cd104 => ?_) (fun cd104 => ?_)
                                    · refine hw_ic (v := (0 : Int32)) (aX12_worked 168 rfl) (by decide) ?_
                                      exact hw_L (j102 ((0 : Int32)) (by have := ((by decide : (0 : Int32).toInt = 0) : ((0 : Int32)).toInt = 0); show 0 ≤ ((0 : Int32)).toInt ∧ ((0 : Int32)).toInt ≤ 1; omega)) ⟨rfl, trivial⟩
                                    · refine hw_ic (v := (1 : Int32)) (aX12_worked 166 rfl) (by decide) ?_
                                      refine xw_goto (tgt := 299) (aX12_worked 167 rfl) (by decide) ?_
                                      exact hw_L (j102 ((1 : Int32)) (by have := ((by decide : (1 : Int32).toInt = 1) : ((1 : Int32)).toInt = 1); show 0 ≤ ((1 : Int32)).toInt ∧ ((1 : Int32)).toInt ≤ 1; omega)) ⟨rfl, trivial⟩
                                · refine xw_lloadn (aX12_worked 150 rfl) rfl ?_
                                  refine xw_lload (aX12_worked 151 rfl) rfl ?_
                                  have j107 : ∀ (g106 : Int32), (0 ≤ (g106).toInt ∧ (g106).toInt ≤ 1) → hw sk base (d + 2) none 176 276 [(0, .ref (base + 121))] [.int (g106)] (n, sl, SH, FI, FL, FR) (h_J (fun r s => ∃ FI' FL', s = (n, sl, SH, FI', FL', FR) ∧ FI = FI' ∧ FL = FL')) := by
                                    intro g106 q108
                                    have rg_g106 := i_rng g106
                                    refine xw_istore (L2 := [(7, .int (g106)), (0, .ref (base + 121))]) (aX12_worked 157 rfl) (by decide) rfl ?_
                                    refine xw_goto (tgt := 318) (aX12_worked 158 rfl) (by decide) ?_
                                    exact hw_L (j85 (g106) (by show 0 ≤ (g106).toInt ∧ (g106).toInt ≤ 1; omega)) ⟨rfl, rfl, trivial⟩
                                  refine hw_lcgt (tgt := 275) (aX12_worked 152 rfl) (aX12_worked 153 rfl) (by decide) rfl rfl (fun cd109 => ?_) (fun cd109 => ?_)
                                  · refine hw_ic (v := (0 : Int32)) (aX12_worked 156 rfl) (by decide) ?_
                                    exact hw_L (j107 ((0 : Int32)) (by have := ((by decide : (0 : Int32).toInt = 0) : ((0 : Int32)).toInt = 0); show 0 ≤ ((0 : Int32)).toInt ∧ ((0 : Int32)).toInt ≤ 1; omega)) ⟨rfl, trivial⟩
                                  · refine hw_ic (v := (1 : Int32)) (aX12_worked 154 rfl) (by decide) ?_
                                    refine xw_goto (tgt := 276) (aX12_worked 155 rfl) (by decide) ?_
                                    exact hw_L (j107 ((1 : Int32)) (by have := ((by decide : (1 : Int32).toInt = 1) : ((1 : Int32)).toInt = 1); show 0 ≤ ((1 : Int32)).toInt ∧ ((1 : Int32)).toInt ≤ 1; omega)) ⟨rfl, trivial⟩
                              · refine xw_lloadn (aX12_worked 138 rfl) rfl ?_
                                refine xw_lload (aX12_worked 139 rfl) rfl ?_
                                have j112 : ∀ (g111 : Int32), (0 ≤ (g111).toInt ∧ (g111).toInt ≤ 1) → hw sk base (d + 2) none 176 253 [(0, .ref (base + 121))] [.int (g111)] (n, sl, SH, FI, FL, FR) (h_J (fun r s => ∃ FI' FL', s = (n, sl, SH, FI', FL', FR) ∧ FI = FI' ∧ FL = FL')) := by
                                  intro g111 q113
                                  have rg_g111 := i_rng g111
                                  refine xw_istore (L2 := [(7, .int (g111)), (0, .ref (base + 121))]) (aX12_worked 145 rfl) (by decide) rfl ?_
                                  refine xw_goto (tgt := 318) (aX12_worked 146 rfl) (by decide) ?_
                                  exact hw_L (j85 (g111) (by show 0 ≤ (g111).toInt ∧ (g111).toInt ≤ 1; omega)) ⟨rfl, rfl, trivial⟩
                                refine hw_lcle (tgt := 252) (aX12_worked 140 rfl) (aX12_worked 141 rfl) (by decide) rfl rfl (fun cd114 => ?_) (fun cd114 => ?_)
                                · refine hw_ic (v := (0 : Int32)) (aX12_worked 144 rfl) (by decide) ?_
                                  exact hw_L (j112 ((0 : Int32)) (by have := ((by decide : (0 : Int32).toInt = 0) : ((0 : Int32)).toInt = 0); show 0 ≤ ((0 : Int32)).toInt ∧ ((0 : Int32)).toInt ≤ 1; omega)) ⟨rfl, trivial⟩
                                · refine hw_ic (v := (1 : Int32)) (aX12_worked 142 rfl) (by decide) ?_
                                  refine xw_goto (tgt := 253) (aX12_worked 143 rfl) (by decide) ?_
                                  exact hw_L (j112 ((1 : Int32)) (by have := ((by decide : (1 : Int32).toInt = 1) : ((1 : Int32)).toInt = 1); show 0 ≤ ((1 : Int32)).toInt ∧ ((1 : Int32)).toInt ≤ 1; omega)) ⟨rfl, trivial⟩
                            · refine xw_lloadn (aX12_worked 126 rfl) rfl ?_
                              refine xw_lload (aX12_worked 127 rfl) rfl ?_
                              have j117 : ∀ (g116 : Int32), (0 ≤ (g116).toInt ∧ (g116).toInt ≤ 1) → hw sk base (d + 2) none 176 230 [(0, .ref (base + 121))] [.int (g116)] (n, sl, SH, FI, FL, FR) (h_J (fun r s => ∃ FI' FL', s = (n, sl, SH, FI', FL', FR) ∧ FI = FI' ∧ FL = FL')) := by
                                intro g116 q118
                                have rg_g116 := i_rng g116
                                refine xw_istore (L2 := [(7, .int (g116)), (0, .ref (base + 121))]) (aX12_worked 133 rfl) (by decide) rfl ?_
                                refine xw_goto (tgt := 318) (aX12_worked 134 rfl) (by decide) ?_
                                exact hw_L (j85 (g116) (by show 0 ≤ (g116).toInt ∧ (g116).toInt ≤ 1; omega)) ⟨rfl, rfl, trivial⟩
                              refine hw_lclt (tgt := 229) (aX12_worked 128 rfl) (aX12_worked 129 rfl) (by decide) rfl rfl (fun cd119 => ?_) (fun cd119 => ?_)
                              · refine hw_ic (v := (0 : Int32)) (aX12_worked 132 rfl) (by decide) ?_
                                exact hw_L (j117 ((0 : Int32)) (by have := ((by decide : (0 : Int32).toInt = 0) : ((0 : Int32)).toInt = 0); show 0 ≤ ((0 : Int32)).toInt ∧ ((0 : Int32)).toInt ≤ 1; omega)) ⟨rfl, trivial⟩
                              · refine hw_ic (v := (1 : Int32)) (aX12_worked 130 rfl) (by decide) ?_
                                refine xw_goto (tgt := 230) (aX12_worked 131 rfl) (by decide) ?_
                                exact hw_L (j117 ((1 : Int32)) (by have := ((by decide : (1 : Int32).toInt = 1) : ((1 : Int32)).toInt = 1); show 0 ≤ ((1 : Int32)).toInt ∧ ((1 : Int32)).toInt ≤ 1; omega)) ⟨rfl, trivial⟩
                          · refine xw_lloadn (aX12_worked 114 rfl) rfl ?_
                            refine xw_lload (aX12_worked 115 rfl) rfl ?_
                            have j122 : ∀ (g121 : Int32), (0 ≤ (g121).toInt ∧ (g121).toInt ≤ 1) → hw sk base (d + 2) none 176 207 [(0, .ref (base + 121))] [.int (g121)] (n, sl, SH, FI, FL, FR) (h_J (fun r s => ∃ FI' FL', s = (n, sl, SH, FI', FL', FR) ∧ FI = FI' ∧ FL = FL')) := by
                              intro g121 q123
                              have rg_g121 := i_rng g121
                              refine xw_istore (L2 := [(7, .int (g121)), (0, .ref (base + 121))]) (aX12_worked 121 rfl) (by decide) rfl ?_
                              refine xw_goto (tgt := 318) (aX12_worked 122 rfl) (by decide) ?_
                              exact hw_L (j85 (g121) (by show 0 ≤ (g121).toInt ∧ (g121).toInt ≤ 1; omega)) ⟨rfl, rfl, trivial⟩
                            refine hw_lcne (tgt := 206) (aX12_worked 116 rfl) (aX12_worked 117 rfl) (by decide) rfl rfl (fun cd124 => ?_) (fun cd124 => ?_)
                            · refine hw_ic (v := (0 : Int32)) (aX12_worked 120 rfl) (by decide) ?_
                              exact hw_L (j122 ((0 : Int32)) (by have := ((by decide : (0 : Int32).toInt = 0) : ((0 : Int32)).toInt = 0); show 0 ≤ ((0 : Int32)).toInt ∧ ((0 : Int32)).toInt ≤ 1; omega)) ⟨rfl, trivial⟩
                            · refine hw_ic (v := (1 : Int32)) (aX12_worked 118 rfl) (by decide) ?_
                              refine xw_goto (tgt := 207) (aX12_worked 119 rfl) (by decide) ?_
                              exact hw_L (j122 ((1 : Int32)) (by have := ((by decide : (1 : Int32).toInt = 1) : ((1 : Int32)).toInt = 1); show 0 ≤ ((1 : Int32)).toInt ∧ ((1 : Int32)).toInt ≤ 1; omega)) ⟨rfl, trivial⟩
                        · refine xw_iload (aX12_worked 96 rfl) rfl ?_
                          refine hw_ifeq (tgt := 183) (aX12_worked 97 rfl) (by decide) rfl (fun cd125 => ?_) (fun cd125 => ?_)
                          · refine xw_lloadn (aX12_worked 106 rfl) rfl ?_
                            refine xw_lload (aX12_worked 107 rfl) rfl ?_
                            refine xw_l2i (aX12_worked 108 rfl) ?_
                            refine hw_ti (fun x126 => ?_)
                            have b127 := i_rng x126
                            refine xw_lshr (aX12_worked 109 rfl) ?_
                            refine hw_tl (fun x128 => ?_)
                            have b129 := l_rng x128
                            refine xw_lret (aX12_worked 110 rfl) rfl ?_
                            have e130 : (x128).toInt = (x128).toInt := rfl
                            exact ⟨x128, rfl, _, _, rfl, rfl, rfl⟩
                          · refine xw_lloadn (aX12_worked 98 rfl) rfl ?_
                            refine hw_lc (v := (0 : Int64)) (aX12_worked 99 rfl) (by decide) ?_
                            refine hw_lcge (tgt := 179) (aX12_worked 100 rfl) (aX12_worked 101 rfl) (by decide) rfl (by decide : (0 : Int64).toInt = 0) (fun cd131 => ?_) (fun cd131 => ?_)
                            · refine hw_lc (v := (0 : Int64)) (aX12_worked 104 rfl) (by decide) ?_
                              refine xw_goto (tgt := 188) (aX12_worked 105 rfl) (by decide) ?_
                              refine xw_lret (aX12_worked 110 rfl) rfl ?_
                              have e132 : ((0 : Int64)).toInt = 0 := (by decide : (0 : Int64).toInt = 0)
                              exact ⟨(0 : Int64), rfl, _, _, rfl, rfl, rfl⟩
                            · refine xw_ldc2 (aX12_worked 102 rfl) wk_RX12_226 ?_
                              refine xw_goto (tgt := 188) (aX12_worked 103 rfl) (by decide) ?_
                              refine xw_lret (aX12_worked 110 rfl) rfl ?_
                              have e133 : (((-1) : Int64)).toInt = (-1) := (by decide : ((-1) : Int64).toInt = (-1))
                              exact ⟨((-1) : Int64), rfl, _, _, rfl, rfl, rfl⟩
                      · refine xw_iload (aX12_worked 84 rfl) rfl ?_
                        refine hw_ifeq (tgt := 150) (aX12_worked 85 rfl) (by decide) rfl (fun cd134 => ?_) (fun cd134 => ?_)
                        · refine xw_lloadn (aX12_worked 88 rfl) rfl ?_
                          refine xw_lload (aX12_worked 89 rfl) rfl ?_
                          refine xw_l2i (aX12_worked 90 rfl) ?_
                          refine hw_ti (fun x135 => ?_)
                          have b136 := i_rng x135
                          refine xw_lushr (aX12_worked 91 rfl) ?_
                          refine hw_tl (fun x137 => ?_)
                          have b138 := l_rng x137
                          refine xw_lret (aX12_worked 92 rfl) rfl ?_
                          have e139 : (x137).toInt = (x137).toInt := rfl
                          exact ⟨x137, rfl, _, _, rfl, rfl, rfl⟩
                        · refine hw_lc (v := (0 : Int64)) (aX12_worked 86 rfl) (by decide) ?_
                          refine xw_goto (tgt := 155) (aX12_worked 87 rfl) (by decide) ?_
                          refine xw_lret (aX12_worked 92 rfl) rfl ?_
                          have e140 : ((0 : Int64)).toInt = 0 := (by decide : (0 : Int64).toInt = 0)
                          exact ⟨(0 : Int64), rfl, _, _, rfl, rfl, rfl⟩
                    · refine xw_iload (aX12_worked 72 rfl) rfl ?_
                      refine hw_ifeq (tgt := 129) (aX12_worked 73 rfl) (by decide) rfl (fun cd141 => ?_) (fun cd141 => ?_)
                      · refine xw_lloadn (aX12_worked 76 rfl) rfl ?_
                        refine xw_lload (aX12_worked 77 rfl) rfl ?_
                        refine xw_l2i (aX12_worked 78 rfl) ?_
                        refine hw_ti (fun x142 => ?_)
                        have b143 := i_rng x142
                        refine xw_lshl (aX12_worked 79 rfl) ?_
                        refine hw_tl (fun x144 => ?_)
                        have b145 := l_rng x144
                        refine xw_lret (aX12_worked 80 rfl) rfl ?_
                        have e146 : (x144).toInt = (x144).toInt := rfl
                        exact ⟨x144, rfl, _, _, rfl, rfl, rfl⟩
                      · refine hw_lc (v := (0 : Int64)) (aX12_worked 74 rfl) (by decide) ?_
                        refine xw_goto (tgt := 134) (aX12_worked 75 rfl) (by decide) ?_
                        refine xw_lret (aX12_worked 80 rfl) rfl ?_
                        have e147 : ((0 : Int64)).toInt = 0 := (by decide : (0 : Int64).toInt = 0)
                        exact ⟨(0 : Int64), rfl, _, _, rfl, rfl, rfl⟩
                  have j148 : hw sk base (d + 2) none 176 107 [(0, .ref (base + 121)), (1, .int (a1)), (2, .long (a2)), (4, .long (a3))] [] (n, sl, SH, FI, FL, FR) (h_J (fun r s => ∃ FI' FL', s = (n, sl, SH, FI', FL', FR) ∧ FI = FI' ∧ FL = FL')) := by
                    refine hw_ic (v := (1 : Int32)) (aX12_worked 65 rfl) (by decide) ?_
                    refine xw_goto (tgt := 112) (aX12_worked 66 rfl) (by decide) ?_
                    exact hw_L (j59 ((1 : Int32)) (by have := ((by decide : (1 : Int32).toInt = 1) : ((1 : Int32)).toInt = 1); show 0 ≤ ((1 : Int32)).toInt ∧ ((1 : Int32)).toInt ≤ 1; omega)) ⟨rfl, rfl, rfl, rfl, trivial⟩
                  refine hw_lclt (tgt := 107) (aX12_worked 59 rfl) (aX12_worked 60 rfl) (by decide) rfl (by decide : (0 : Int64).toInt = 0) (fun cd149 => ?_) (fun cd149 => ?_)
                  · exact hw_L (j148) ⟨rfl, rfl, rfl, rfl, trivial⟩
                  · refine xw_lload (aX12_worked 61 rfl) rfl ?_
                    refine xw_ldc2 (aX12_worked 62 rfl) wk_RX12_250 ?_
                    refine hw_lcle (tgt := 111) (aX12_worked 63 rfl) (aX12_worked 64 rfl) (by decide) rfl (by decide : (63 : Int64).toInt = 63) (fun cd150 => ?_) (fun cd150 => ?_)
                    · refine hw_ic (v := (0 : Int32)) (aX12_worked 67 rfl) (by decide) ?_
                      exact hw_L (j59 ((0 : Int32)) (by have := ((by decide : (0 : Int32).toInt = 0) : ((0 : Int32)).toInt = 0); show 0 ≤ ((0 : Int32)).toInt ∧ ((0 : Int32)).toInt ≤ 1; omega)) ⟨rfl, rfl, rfl, rfl, trivial⟩
                    · exact hw_L (j148) ⟨rfl, rfl, rfl, rfl, trivial⟩
                · refine hw_aloadn (aX12_worked 52 rfl) rfl ?_
                  refine xw_lloadn (aX12_worked 53 rfl) rfl ?_
                  refine xw_lload (aX12_worked 54 rfl) rfl ?_
                  refine hw_callV (Bs := [.long (a2), .long (a3)]) (rest := []) (aX12_worked 55 rfl) wc_RX12_246 (by decide) rfl wi_yX12_rest wv_yX12_rest (c121 hS) (s121 hS) rfl rfl rfl (Nat.le_of_ble_eq_true rfl) (Nat.le_of_ble_eq_true rfl) (m_rest (d := d) hS hF (a2) (a3) (by show (a3).toInt ≠ 0; omega)) (fun v151 sv152 p153 => ?_)
                  obtain ⟨r157, rfl, FI155, FL156, rfl, rfl, rfl⟩ := p153
                  have rg_r157 := l_rng r157
                  show hw sk base _ none _ _ _ [.long (r157)] _ _
                  refine xw_lret (aX12_worked 56 rfl) rfl ?_
                  have e158 : (r157).toInt = (r157).toInt := rfl
                  exact ⟨r157, rfl, _, _, rfl, rfl, rfl⟩
              · refine xw_lloadn (aX12_worked 45 rfl) rfl ?_
                refine xw_lload (aX12_worked 46 rfl) rfl ?_
                refine xw_ldiv (aX12_worked 47 rfl) (l_ne0 rfl (by omega)) ?_
                refine hw_tl (fun x159 => ?_)
                have b160 := l_rng x159
                refine xw_lret (aX12_worked 48 rfl) rfl ?_
                have e161 : (x159).toInt = (x159).toInt := rfl
                exact ⟨x159, rfl, _, _, rfl, rfl, rfl⟩
            · refine xw_lloadn (aX12_worked 38 rfl) rfl ?_
              refine xw_lload (aX12_worked 39 rfl) rfl ?_
              refine xw_lmul (aX12_worked 40 rfl) ?_
              refine hw_tl (fun x162 => ?_)
              have b163 := l_rng x162
              refine xw_lret (aX12_worked 41 rfl) rfl ?_
              have e164 : (x162).toInt = (x162).toInt := rfl
              exact ⟨x162, rfl, _, _, rfl, rfl, rfl⟩
          · refine xw_lloadn (aX12_worked 31 rfl) rfl ?_
            refine xw_lload (aX12_worked 32 rfl) rfl ?_
            refine xw_lsub (aX12_worked 33 rfl) ?_
            refine hw_tl (fun x165 => ?_)
            have b166 := l_rng x165
            refine xw_lret (aX12_worked 34 rfl) rfl ?_
            have e167 : (x165).toInt = (x165).toInt := rfl
            exact ⟨x165, rfl, _, _, rfl, rfl, rfl⟩
        · refine xw_lloadn (aX12_worked 24 rfl) rfl ?_
          refine xw_lload (aX12_worked 25 rfl) rfl ?_
          refine xw_ladd (aX12_worked 26 rfl) ?_
          refine hw_tl (fun x168 => ?_)
          have b169 := l_rng x168
          refine xw_lret (aX12_worked 27 rfl) rfl ?_
          have e170 : (x168).toInt = (x168).toInt := rfl
          exact ⟨x168, rfl, _, _, rfl, rfl, rfl⟩
      · refine xw_lloadn (aX12_worked 17 rfl) rfl ?_
        refine xw_lload (aX12_worked 18 rfl) rfl ?_
        refine xw_lxor (aX12_worked 19 rfl) ?_
        refine hw_tl (fun x171 => ?_)
        have b172 := l_rng x171
        refine xw_lret (aX12_worked 20 rfl) rfl ?_
        have e173 : (x171).toInt = (x171).toInt := rfl
        exact ⟨x171, rfl, _, _, rfl, rfl, rfl⟩
    · refine xw_lloadn (aX12_worked 10 rfl) rfl ?_
      refine xw_lload (aX12_worked 11 rfl) rfl ?_
      refine xw_lor (aX12_worked 12 rfl) ?_
      refine hw_tl (fun x174 => ?_)
      have b175 := l_rng x174
      refine xw_lret (aX12_worked 13 rfl) rfl ?_
      have e176 : (x174).toInt = (x174).toInt := rfl
      exact ⟨x174, rfl, _, _, rfl, rfl, rfl⟩
  · refine xw_lloadn (aX12_worked 3 rfl) rfl ?_
    refine xw_lload (aX12_worked 4 rfl) rfl ?_
    refine xw_land (aX12_worked 5 rfl) ?_
    refine hw_tl (fun x177 => ?_)
    have b178 := l_rng x177
    refine xw_lret (aX12_worked 6 rfl) rfl ?_
    have e179 : (x177).toInt = (x177).toInt := rfl
    exact ⟨x177, rfl, _, _, rfl, rfl, rfl⟩
def nX12_isBase : Nat := 0xac04ac030500a7fc00b52f6404602e042400b42a8000112100b42a2a1b009e2e042400b42a24009a2e043c00b42a2f00a7fc00b52f043f00b42a2a1000a0062e043c00b42a4600a7fc00b52f882f043f00b42a0700b42a2a1600a0052e043c00b42aac0305009e2e042700b42a
theorem bX12_isBase : cX12_isBase.data.toList.map UInt8.toNat = x_un nX12_isBase 109 := by decide +kernel
def iX12_isBase : List (Nat × Jvm.ClassFile.Instr × Nat) := [(0, .aload_n 0, 1), (1, .getfield 39, 3), (4, .iconst 1, 1), (5, .iaload, 1), (6, .ifCond .le 5, 3), (9, .iconst 0, 1), (10, .ireturn, 1), (11, .aload_n 0, 1), (12, .getfield 60, 3), (15, .iconst 1, 1), (16, .iaload, 1), (17, .iconst 2, 1), (18, .if_icmp .ne 22, 3), (21, .aload_n 0, 1), (22, .aload_n 0, 1), (23, .getfield 7, 3), (26, .aload_n 0, 1), (27, .getfield 63, 3), (30, .iconst 1, 1), (31, .laload, 1), (32, .l2i, 1), (33, .laload, 1), (34, .putfield 252, 3), (37, .goto 70, 3), (40, .aload_n 0, 1), (41, .getfield 60, 3), (44, .iconst 1, 1), (45, .iaload, 1), (46, .iconst 3, 1), (47, .if_icmp .ne 16, 3), (50, .aload_n 0, 1), (51, .aload_n 0, 1), (52, .getfield 63, 3), (55, .iconst 1, 1), (56, .laload, 1), (57, .putfield 252, 3), (60, .goto 47, 3), (63, .aload_n 0, 1), (64, .getfield 60, 3), (67, .iconst 1, 1), (68, .iaload, 1), (69, .ifCond .ne 36, 3), (72, .aload_n 0, 1), (73, .getfield 36, 3), (76, .iconst 1, 1), (77, .iaload, 1), (78, .ifCond .le 27, 3), (81, .aload_n 0, 1), (82, .aload_n 0, 1), (83, .getfield 33, 3), (86, .sipush 128, 3), (89, .aload_n 0, 1), (90, .getfield 36, 3), (93, .iconst 1, 1), (94, .iaload, 1), (95, .iadd, 1), (96, .iconst 1, 1), (97, .isub, 1), (98, .laload, 1), (99, .putfield 252, 3), (102, .goto 5, 3), (105, .iconst 0, 1), (106, .ireturn, 1), (107, .iconst 1, 1), (108, .ireturn, 1)]
theorem dX12_isBase : x_il nX12_isBase 109 iX12_isBase = true := by decide +kernel
theorem aX12_isBase (k : Nat) {pc : Nat} {i : Jvm.ClassFile.Instr} {len : Nat} (hk : iX12_isBase[k]? = some (pc, i, len)) : x_at xMM 177 pc i len yX12_isBase 1 (some .boolean) := ⟨cX12_isBase, rfl, x_il_ok bX12_isBase dX12_isBase k hk⟩
set_option maxHeartbeats 4000000 in
set_option maxRecDepth 100000 in
theorem m_isBase {sk : xK} {base d n sl : Nat} {SH : Nat → Nat × Nat} {FI : Nat → Nat → Int32} {FL : Nat → Nat → Int64} {FR : Nat → Nat → Option Nat} (hS : h_S n SH) (hF : h_FR FR) (ai128 : h_ai 128 2 0 128 FI) (ai129 : h_ai 129 2 0 16 FI) (rel_hold : rl_h 2 (FI 136) (FL 137) (FI 138)) : hw sk base d none 177 0 [(0, .ref (base + 121))] [] (n, sl, SH, FI, FL, FR) (h_I (fun r s => ∃ FI' FL', s = (n, sl, SH, FI', FL', FR) ∧ FI = FI' ∧ h_fr FL FL' [39] [] ∧ (0 ≤ r.toInt ∧ r.toInt ≤ 1))) := by
  refine hw_aloadn (aX12_isBase 0 rfl) rfl ?_
  refine hw_get (v := .ref (base + 129)) (aX12_isBase 1 rfl) wf_RX12_39 (c121 hS) (s121 hS) (by decide) (congrArg (fun r => va_rf (h_rf base r)) (r121_16 hF)) ?_
  refine hw_ic (v := (1 : Int32)) (aX12_isBase 2 rfl) (by decide) ?_
  refine hw_iald (v := FI 129 1) (aX12_isBase 3 rfl) (c129 hS) (s129 hS) (h_in (by decide : (1 : Int32).toInt = 1) (by omega) (by omega)) (show (FI) 129 ((1 : Int32)).toNatClampNeg = FI 129 1 from rfl) ?_
  have e1 : 0 ≤ (FI 129 1).toInt ∧ (FI 129 1).toInt ≤ 16 := ai129 1 (by decide)
  refine hw_ifle (tgt := 11) (aX12_isBase 4 rfl) (by decide) rfl (fun cd2 => ?_) (fun cd2 => ?_)
  · refine hw_aloadn (aX12_isBase 7 rfl) rfl ?_
    refine hw_get (v := .ref (base + 136)) (aX12_isBase 8 rfl) wf_RX12_60 (c121 hS) (s121 hS) (by decide) (congrArg (fun r => va_rf (h_rf base r)) (r121_23 hF)) ?_
    refine hw_ic (v := (1 : Int32)) (aX12_isBase 9 rfl) (by decide) ?_
    refine hw_iald (v := FI 136 1) (aX12_isBase 10 rfl) (c136 hS) (s136 hS) (h_in (by decide : (1 : Int32).toInt = 1) (by omega) (by omega)) (show (FI) 136 ((1 : Int32)).toNatClampNeg = FI 136 1 from rfl) ?_
    have e3 := i_rng (FI 136 1)
    refine hw_ic (v := (2 : Int32)) (aX12_isBase 11 rfl) (by decide) ?_
    refine hw_icne (tgt := 40) (aX12_isBase 12 rfl) (by decide) rfl (by decide : (2 : Int32).toInt = 2) (fun cd4 => ?_) (fun cd4 => ?_)
    · refine hw_aloadn (aX12_isBase 24 rfl) rfl ?_
      refine hw_get (v := .ref (base + 136)) (aX12_isBase 25 rfl) wf_RX12_60 (c121 hS) (s121 hS) (by decide) (congrArg (fun r => va_rf (h_rf base r)) (r121_23 hF)) ?_
      refine hw_ic (v := (1 : Int32)) (aX12_isBase 26 rfl) (by decide) ?_
      refine hw_iald (v := FI 136 1) (aX12_isBase 27 rfl) (c136 hS) (s136 hS) (h_in (by decide : (1 : Int32).toInt = 1) (by omega) (by omega)) (show (FI) 136 ((1 : Int32)).toNatClampNeg = FI 136 1 from rfl) ?_
      refine hw_ic (v := (3 : Int32)) (aX12_isBase 28 rfl) (by decide) ?_
      refine hw_icne (tgt := 63) (aX12_isBase 29 rfl) (by decide) rfl (by decide : (3 : Int32).toInt = 3) (fun cd5 => ?_) (fun cd5 => ?_)
      · refine hw_aloadn (aX12_isBase 37 rfl) rfl ?_
        refine hw_get (v := .ref (base + 136)) (aX12_isBase 38 rfl) wf_RX12_60 (c121 hS) (s121 hS) (by decide) (congrArg (fun r => va_rf (h_rf base r)) (r121_23 hF)) ?_
        refine hw_ic (v := (1 : Int32)) (aX12_isBase 39 rfl) (by decide) ?_
        refine hw_iald (v := FI 136 1) (aX12_isBase 40 rfl) (c136 hS) (s136 hS) (h_in (by decide : (1 : Int32).toInt = 1) (by omega) (by omega)) (show (FI) 136 ((1 : Int32)).toNatClampNeg = FI 136 1 from rfl) ?_
        refine hw_ifne (tgt := 105) (aX12_isBase 41 rfl) (by decide) rfl (fun cd6 => ?_) (fun cd6 => ?_)
        · refine hw_ic (v := (0 : Int32)) (aX12_isBase 61 rfl) (by decide) ?_
          refine xw_iret (aX12_isBase 62 rfl) rfl (by decide) ?_
          have e7 : ((0 : Int32)).toInt = 0 := (by decide : (0 : Int32).toInt = 0)
          exact ⟨(0 : Int32), rfl, _, _, rfl, rfl, fr_rf, (by show 0 ≤ ((0 : Int32)).toInt ∧ ((0 : Int32)).toInt ≤ 1; omega)⟩
        · refine hw_aloadn (aX12_isBase 42 rfl) rfl ?_
          refine hw_get (v := .ref (base + 128)) (aX12_isBase 43 rfl) wf_RX12_36 (c121 hS) (s121 hS) (by decide) (congrArg (fun r => va_rf (h_rf base r)) (r121_15 hF)) ?_
          refine hw_ic (v := (1 : Int32)) (aX12_isBase 44 rfl) (by decide) ?_
          refine hw_iald (v := FI 128 1) (aX12_isBase 45 rfl) (c128 hS) (s128 hS) (h_in (by decide : (1 : Int32).toInt = 1) (by omega) (by omega)) (show (FI) 128 ((1 : Int32)).toNatClampNeg = FI 128 1 from rfl) ?_
          have e8 : 0 ≤ (FI 128 1).toInt ∧ (FI 128 1).toInt ≤ 128 := ai128 1 (by decide)
          refine hw_ifle (tgt := 105) (aX12_isBase 46 rfl) (by decide) rfl (fun cd9 => ?_) (fun cd9 => ?_)
          · refine hw_ic (v := (0 : Int32)) (aX12_isBase 61 rfl) (by decide) ?_
            refine xw_iret (aX12_isBase 62 rfl) rfl (by decide) ?_
            have e10 : ((0 : Int32)).toInt = 0 := (by decide : (0 : Int32).toInt = 0)
            exact ⟨(0 : Int32), rfl, _, _, rfl, rfl, fr_rf, (by show 0 ≤ ((0 : Int32)).toInt ∧ ((0 : Int32)).toInt ≤ 1; omega)⟩
          · refine hw_aloadn (aX12_isBase 47 rfl) rfl ?_
            refine hw_aloadn (aX12_isBase 48 rfl) rfl ?_
            refine hw_get (v := .ref (base + 127)) (aX12_isBase 49 rfl) wf_RX12_33 (c121 hS) (s121 hS) (by decide) (congrArg (fun r => va_rf (h_rf base r)) (r121_14 hF)) ?_
            refine hw_sp (v := (128 : Int32)) (aX12_isBase 50 rfl) (by decide) ?_
            refine hw_aloadn (aX12_isBase 51 rfl) rfl ?_
            refine hw_get (v := .ref (base + 128)) (aX12_isBase 52 rfl) wf_RX12_36 (c121 hS) (s121 hS) (by decide) (congrArg (fun r => va_rf (h_rf base r)) (r121_15 hF)) ?_
            refine hw_ic (v := (1 : Int32)) (aX12_isBase 53 rfl) (by decide) ?_
            refine hw_iald (v := FI 128 1) (aX12_isBase 54 rfl) (c128 hS) (s128 hS) (h_in (by decide : (1 : Int32).toInt = 1) (by omega) (by omega)) (show (FI) 128 ((1 : Int32)).toNatClampNeg = FI 128 1 from rfl) ?_
            refine xw_iadd (aX12_isBase 55 rfl) ?_
            refine hw_tie (A := (128) + ((FI 128 1).toInt)) (i_add (by decide : (128 : Int32).toInt = 128) rfl (by omega) (by omega)) (fun x11 e12 => ?_)
            refine hw_ic (v := (1 : Int32)) (aX12_isBase 56 rfl) (by decide) ?_
            refine xw_isub (aX12_isBase 57 rfl) ?_
            refine hw_tie (A := ((128) + ((FI 128 1).toInt)) - (1)) (i_sub e12 (by decide : (1 : Int32).toInt = 1) (by omega) (by omega)) (fun x13 e14 => ?_)
            refine hw_lald (v := FL 127 (x13).toNatClampNeg) (aX12_isBase 58 rfl) (c127 hS) (s127 hS) (h_in e14 (by omega) (by omega)) rfl ?_
            refine hw_tl (fun x15 => ?_)
            have b16 := l_rng x15
            refine hw_putl (aX12_isBase 59 rfl) wf_RX12_252 (c121 hS) (s121 hS) (by decide) rfl rfl ?_
            refine xw_goto (tgt := 107) (aX12_isBase 60 rfl) (by decide) ?_
            refine hw_ic (v := (1 : Int32)) (aX12_isBase 63 rfl) (by decide) ?_
            refine xw_iret (aX12_isBase 64 rfl) rfl (by decide) ?_
            have e17 : ((1 : Int32)).toInt = 1 := (by decide : (1 : Int32).toInt = 1)
            exact ⟨(1 : Int32), rfl, _, _, rfl, rfl, (fr_up fr_rf (by decide)), (by show 0 ≤ ((1 : Int32)).toInt ∧ ((1 : Int32)).toInt ≤ 1; omega)⟩
      · refine hw_aloadn (aX12_isBase 30 rfl) rfl ?_
        refine hw_aloadn (aX12_isBase 31 rfl) rfl ?_
        refine hw_get (v := .ref (base + 137)) (aX12_isBase 32 rfl) wf_RX12_63 (c121 hS) (s121 hS) (by decide) (congrArg (fun r => va_rf (h_rf base r)) (r121_24 hF)) ?_
        refine hw_ic (v := (1 : Int32)) (aX12_isBase 33 rfl) (by decide) ?_
        refine hw_lald (v := FL 137 1) (aX12_isBase 34 rfl) (c137 hS) (s137 hS) (h_in (by decide : (1 : Int32).toInt = 1) (by omega) (by omega)) (show (FL) 137 ((1 : Int32)).toNatClampNeg = FL 137 1 from rfl) ?_
        have e18 := l_rng (FL 137 1)
        refine hw_putl (aX12_isBase 35 rfl) wf_RX12_252 (c121 hS) (s121 hS) (by decide) rfl rfl ?_
        refine xw_goto (tgt := 107) (aX12_isBase 36 rfl) (by decide) ?_
        refine hw_ic (v := (1 : Int32)) (aX12_isBase 63 rfl) (by decide) ?_
        refine xw_iret (aX12_isBase 64 rfl) rfl (by decide) ?_
        have e19 : ((1 : Int32)).toInt = 1 := (by decide : (1 : Int32).toInt = 1)
        exact ⟨(1 : Int32), rfl, _, _, rfl, rfl, (fr_up fr_rf (by decide)), (by show 0 ≤ ((1 : Int32)).toInt ∧ ((1 : Int32)).toInt ≤ 1; omega)⟩
    · refine hw_aloadn (aX12_isBase 13 rfl) rfl ?_
      refine hw_aloadn (aX12_isBase 14 rfl) rfl ?_
      refine hw_get (v := .ref (base + 122)) (aX12_isBase 15 rfl) wf_RX12_7 (c121 hS) (s121 hS) (by decide) (congrArg (fun r => va_rf (h_rf base r)) (r121_1 hF)) ?_
      refine hw_aloadn (aX12_isBase 16 rfl) rfl ?_
      refine hw_get (v := .ref (base + 137)) (aX12_isBase 17 rfl) wf_RX12_63 (c121 hS) (s121 hS) (by decide) (congrArg (fun r => va_rf (h_rf base r)) (r121_24 hF)) ?_
      refine hw_ic (v := (1 : Int32)) (aX12_isBase 18 rfl) (by decide) ?_
      refine hw_lald (v := FL 137 1) (aX12_isBase 19 rfl) (c137 hS) (s137 hS) (h_in (by decide : (1 : Int32).toInt = 1) (by omega) (by omega)) (show (FL) 137 ((1 : Int32)).toNatClampNeg = FL 137 1 from rfl) ?_
      have e20 := l_rng (FL 137 1)
      have hq := rel_hold 1 (by decide)
      have e21 : 0 ≤ (FL 137 1).toInt ∧ (FL 137 1).toInt ≤ 31 := by omega
      refine xw_l2i (aX12_isBase 20 rfl) ?_
      refine hw_tie (A := (FL 137 1).toInt) (l_2i rfl (by omega) (by omega)) (fun x22 e23 => ?_)
      refine hw_lald (v := FL 122 (x22).toNatClampNeg) (aX12_isBase 21 rfl) (c122 hS) (s122 hS) (h_in e23 (by omega) (by omega)) rfl ?_
      refine hw_tl (fun x24 => ?_)
      have b25 := l_rng x24
      refine hw_putl (aX12_isBase 22 rfl) wf_RX12_252 (c121 hS) (s121 hS) (by decide) rfl rfl ?_
      refine xw_goto (tgt := 107) (aX12_isBase 23 rfl) (by decide) ?_
      refine hw_ic (v := (1 : Int32)) (aX12_isBase 63 rfl) (by decide) ?_
      refine xw_iret (aX12_isBase 64 rfl) rfl (by decide) ?_
      have e26 : ((1 : Int32)).toInt = 1 := (by decide : (1 : Int32).toInt = 1)
      exact ⟨(1 : Int32), rfl, _, _, rfl, rfl, (fr_up fr_rf (by decide)), (by show 0 ≤ ((1 : Int32)).toInt ∧ ((1 : Int32)).toInt ≤ 1; omega)⟩
  · refine hw_ic (v := (0 : Int32)) (aX12_isBase 5 rfl) (by decide) ?_
    refine xw_iret (aX12_isBase 6 rfl) rfl (by decide) ?_
    have e27 : ((0 : Int32)).toInt = 0 := (by decide : (0 : Int32).toInt = 0)
    exact ⟨(0 : Int32), rfl, _, _, rfl, rfl, fr_rf, (by show 0 ≤ ((0 : Int32)).toInt ∧ ((0 : Int32)).toInt ≤ 1; omega)⟩
def nX12_pushed : Nat := 0xb10201b52e1b2400b42a2a0d00a40201b42a2e1b2400b42a4f60042e1b2400b42a1b2400b42a5020602e1b2400b42a681b8000112100b42a
theorem bX12_pushed : cX12_pushed.data.toList.map UInt8.toNat = x_un nX12_pushed 56 := by decide +kernel
def iX12_pushed : List (Nat × Jvm.ClassFile.Instr × Nat) := [(0, .aload_n 0, 1), (1, .getfield 33, 3), (4, .sipush 128, 3), (7, .iload_n 1, 1), (8, .imul, 1), (9, .aload_n 0, 1), (10, .getfield 36, 3), (13, .iload_n 1, 1), (14, .iaload, 1), (15, .iadd, 1), (16, .lload_n 2, 1), (17, .lastore, 1), (18, .aload_n 0, 1), (19, .getfield 36, 3), (22, .iload_n 1, 1), (23, .aload_n 0, 1), (24, .getfield 36, 3), (27, .iload_n 1, 1), (28, .iaload, 1), (29, .iconst 1, 1), (30, .iadd, 1), (31, .iastore, 1), (32, .aload_n 0, 1), (33, .getfield 36, 3), (36, .iload_n 1, 1), (37, .iaload, 1), (38, .aload_n 0, 1), (39, .getfield 258, 3), (42, .if_icmp .le 13, 3), (45, .aload_n 0, 1), (46, .aload_n 0, 1), (47, .getfield 36, 3), (50, .iload_n 1, 1), (51, .iaload, 1), (52, .putfield 258, 3), (55, .return_, 1)]
theorem dX12_pushed : x_il nX12_pushed 56 iX12_pushed = true := by decide +kernel
theorem aX12_pushed (k : Nat) {pc : Nat} {i : Jvm.ClassFile.Instr} {len : Nat} (hk : iX12_pushed[k]? = some (pc, i, len)) : x_at xMM 180 pc i len yX12_pushed 4 none := ⟨cX12_pushed, rfl, x_il_ok bX12_pushed dX12_pushed k hk⟩
set_option maxHeartbeats 4000000 in
set_option maxRecDepth 100000 in
theorem m_pushed {sk : xK} {base d n sl : Nat} {SH : Nat → Nat × Nat} {FI : Nat → Nat → Int32} {FL : Nat → Nat → Int64} {FR : Nat → Nat → Option Nat} (hS : h_S n SH) (hF : h_FR FR) (a1 : Int32) (a2 : Int64) (g0 : (FI 128 (a1).toNatClampNeg).toInt ≤ 127) (g1 : 0 ≤ (a1).toInt ∧ (a1).toInt ≤ 1) (ai128 : h_ai 128 2 0 128 FI) : hw sk base d none 180 0 [(0, .ref (base + 121)), (1, .int (a1)), (2, .long (a2))] [] (n, sl, SH, FI, FL, FR) (h_V (fun s => ∃ FI' FL', s = (n, sl, SH, FI', FL', FR) ∧ h_fr FI FI' [32] [128] ∧ h_fr FL FL' [] [127] ∧ h_ai 128 2 0 128 FI')) := by
  have rg_a1 := i_rng a1
  have rg_a2 := l_rng a2
  refine hw_aloadn (aX12_pushed 0 rfl) rfl ?_
  refine hw_get (v := .ref (base + 127)) (aX12_pushed 1 rfl) wf_RX12_33 (c121 hS) (s121 hS) (by decide) (congrArg (fun r => va_rf (h_rf base r)) (r121_14 hF)) ?_
  refine hw_sp (v := (128 : Int32)) (aX12_pushed 2 rfl) (by decide) ?_
  refine xw_iloadn (aX12_pushed 3 rfl) rfl ?_
  refine xw_imul (aX12_pushed 4 rfl) ?_
  refine hw_tie (A := (128) * ((a1).toInt)) (i_mul (by decide : (128 : Int32).toInt = 128) rfl (by omega) (by omega)) (fun x1 e2 => ?_)
  refine hw_aloadn (aX12_pushed 5 rfl) rfl ?_
  refine hw_get (v := .ref (base + 128)) (aX12_pushed 6 rfl) wf_RX12_36 (c121 hS) (s121 hS) (by decide) (congrArg (fun r => va_rf (h_rf base r)) (r121_15 hF)) ?_
  refine xw_iloadn (aX12_pushed 7 rfl) rfl ?_
  refine hw_iald (v := FI 128 (a1).toNatClampNeg) (aX12_pushed 8 rfl) (c128 hS) (s128 hS) (h_in rfl (by omega) (by omega)) rfl ?_
  have e3 : 0 ≤ (FI 128 (a1).toNatClampNeg).toInt ∧ (FI 128 (a1).toNatClampNeg).toInt ≤ 128 := ai_at ai128 rfl (by omega) (by omega)
  refine xw_iadd (aX12_pushed 9 rfl) ?_
  refine hw_tie (A := ((128) * ((a1).toInt)) + ((FI 128 (a1).toNatClampNeg).toInt)) (i_add e2 rfl (by omega) (by omega)) (fun x4 e5 => ?_)
  refine xw_lloadn (aX12_pushed 10 rfl) rfl ?_
  refine hw_last (aX12_pushed 11 rfl) (c127 hS) (s127 hS) (h_in e5 (by omega) (by omega)) ?_
  refine hw_aloadn (aX12_pushed 12 rfl) rfl ?_
  refine hw_get (v := .ref (base + 128)) (aX12_pushed 13 rfl) wf_RX12_36 (c121 hS) (s121 hS) (by decide) (congrArg (fun r => va_rf (h_rf base r)) (r121_15 hF)) ?_
  refine xw_iloadn (aX12_pushed 14 rfl) rfl ?_
  refine hw_aloadn (aX12_pushed 15 rfl) rfl ?_
  refine hw_get (v := .ref (base + 128)) (aX12_pushed 16 rfl) wf_RX12_36 (c121 hS) (s121 hS) (by decide) (congrArg (fun r => va_rf (h_rf base r)) (r121_15 hF)) ?_
  refine xw_iloadn (aX12_pushed 17 rfl) rfl ?_
  refine hw_iald (v := FI 128 (a1).toNatClampNeg) (aX12_pushed 18 rfl) (c128 hS) (s128 hS) (h_in rfl (by omega) (by omega)) rfl ?_
  have e6 : 0 ≤ (FI 128 (a1).toNatClampNeg).toInt ∧ (FI 128 (a1).toNatClampNeg).toInt ≤ 128 := ai_at ai128 rfl (by omega) (by omega)
  refine hw_ic (v := (1 : Int32)) (aX12_pushed 19 rfl) (by decide) ?_
  refine xw_iadd (aX12_pushed 20 rfl) ?_
  refine hw_tie (A := ((FI 128 (a1).toNatClampNeg).toInt) + (1)) (i_add rfl (by decide : (1 : Int32).toInt = 1) (by omega) (by omega)) (fun x7 e8 => ?_)
  refine hw_iast (aX12_pushed 21 rfl) (c128 hS) (s128 hS) (h_in rfl (by omega) (by omega)) ?_
  have e9 : h_ai 128 2 0 128 (h_up FI 128 (a1).toNatClampNeg (x7)) := ai_up ai128 e8 (by omega) (by omega)
  refine hw_aloadn (aX12_pushed 22 rfl) rfl ?_
  refine hw_get (v := .ref (base + 128)) (aX12_pushed 23 rfl) wf_RX12_36 (c121 hS) (s121 hS) (by decide) (congrArg (fun r => va_rf (h_rf base r)) (r121_15 hF)) ?_
  refine xw_iloadn (aX12_pushed 24 rfl) rfl ?_
  refine hw_iald (v := (h_up FI 128 (a1).toNatClampNeg (x7)) 128 (a1).toNatClampNeg) (aX12_pushed 25 rfl) (c128 hS) (s128 hS) (h_in rfl (by omega) (by omega)) rfl ?_
  have e10 : 0 ≤ ((h_up FI 128 (a1).toNatClampNeg (x7)) 128 (a1).toNatClampNeg).toInt ∧ ((h_up FI 128 (a1).toNatClampNeg (x7)) 128 (a1).toNatClampNeg).toInt ≤ 128 := ai_at e9 rfl (by omega) (by omega)
  refine hw_aloadn (aX12_pushed 26 rfl) rfl ?_
  refine hw_get (v := .int (FI 121 32)) (aX12_pushed 27 rfl) wf_RX12_258 (c121 hS) (s121 hS) (by decide) (congrArg Value.int (show (h_up FI 128 (a1).toNatClampNeg (x7)) 121 32 = FI 121 32 from rfl)) ?_
  have e11 := i_rng (FI 121 32)
  refine hw_icle (tgt := 55) (aX12_pushed 28 rfl) (by decide) rfl rfl (fun cd12 => ?_) (fun cd12 => ?_)
  · refine xw_vret (aX12_pushed 35 rfl) rfl ?_
    exact ⟨rfl, _, _, rfl, (fr_ua fr_rf (by decide) (by decide)), (fr_ua fr_rf (by decide) (by decide)), e9⟩
  · refine hw_aloadn (aX12_pushed 29 rfl) rfl ?_
    refine hw_aloadn (aX12_pushed 30 rfl) rfl ?_
    refine hw_get (v := .ref (base + 128)) (aX12_pushed 31 rfl) wf_RX12_36 (c121 hS) (s121 hS) (by decide) (congrArg (fun r => va_rf (h_rf base r)) (r121_15 hF)) ?_
    refine xw_iloadn (aX12_pushed 32 rfl) rfl ?_
    refine hw_iald (v := (h_up FI 128 (a1).toNatClampNeg (x7)) 128 (a1).toNatClampNeg) (aX12_pushed 33 rfl) (c128 hS) (s128 hS) (h_in rfl (by omega) (by omega)) rfl ?_
    have e13 : 0 ≤ ((h_up FI 128 (a1).toNatClampNeg (x7)) 128 (a1).toNatClampNeg).toInt ∧ ((h_up FI 128 (a1).toNatClampNeg (x7)) 128 (a1).toNatClampNeg).toInt ≤ 128 := ai_at e9 rfl (by omega) (by omega)
    refine hw_puti (aX12_pushed 34 rfl) wf_RX12_258 (c121 hS) (s121 hS) (by decide) rfl rfl ?_
    refine xw_vret (aX12_pushed 35 rfl) rfl ?_
    exact ⟨rfl, _, _, rfl, (fr_up (fr_ua fr_rf (by decide) (by decide)) (by decide)), (fr_ua fr_rf (by decide) (by decide)), (show h_ai 128 2 0 128 (h_up (h_up FI 128 (a1).toNatClampNeg (x7)) 121 32 ((h_up FI 128 (a1).toNatClampNeg (x7)) 128 (a1).toNatClampNeg)) from (ai_nc e9 (by decide)))⟩
def nX12_isPiece : Nat := 0xac044f031b2400b42a4f031b3c00b42a4f60042e1b2700b42a1b2700b42a4f6007152e1b3900b42a1b3900b42a502f6404602e1b2400b42a681b8000112100b42a08152d00b42a4f0408152a00b42a25009e2e1b2400b42a2e009a2e1b3c00b42a4f2e1b4200b42a08153600b42a502f1b3f00b42a08152d00b42a4f2e1b3c00b42a08152a00b42a4f88051608153300b42a4f071508153000b42a0836602e1b2700b42a681b1010ac030500a40010116007152e1b3900b42a073668882108100800a788210800991cac030500993801b6da001405162a0f009a3801b65401140600a7da00140900991c212a24009f10102e1b2700b42a
theorem bX12_isPiece : cX12_isPiece.data.toList.map UInt8.toNat = x_un nX12_isPiece 247 := by decide +kernel
def iX12_isPiece : List (Nat × Jvm.ClassFile.Instr × Nat) := [(0, .aload_n 0, 1), (1, .getfield 39, 3), (4, .iload_n 1, 1), (5, .iaload, 1), (6, .bipush 16, 2), (8, .if_icmp .eq 36, 3), (11, .aload_n 0, 1), (12, .lload_n 3, 1), (13, .iload_n 2, 1), (14, .ifCond .eq 9, 3), (17, .ldc2_w 218, 3), (20, .goto 6, 3), (23, .ldc2_w 340, 3), (26, .invokevirtual 312, 3), (29, .ifCond .ne 15, 3), (32, .aload_n 0, 1), (33, .lload 5, 2), (35, .ldc2_w 218, 3), (38, .invokevirtual 312, 3), (41, .ifCond .eq 5, 3), (44, .iconst 0, 1), (45, .ireturn, 1), (46, .iload_n 2, 1), (47, .ifCond .eq 8, 3), (50, .lload_n 3, 1), (51, .l2i, 1), (52, .goto 8, 3), (55, .bipush 8, 2), (57, .lload_n 3, 1), (58, .l2i, 1), (59, .imul, 1), (60, .istore 7, 2), (62, .aload_n 0, 1), (63, .getfield 57, 3), (66, .iload_n 1, 1), (67, .iaload, 1), (68, .iload 7, 2), (70, .iadd, 1), (71, .sipush 4096, 3), (74, .if_icmp .le 5, 3), (77, .iconst 0, 1), (78, .ireturn, 1), (79, .bipush 16, 2), (81, .iload_n 1, 1), (82, .imul, 1), (83, .aload_n 0, 1), (84, .getfield 39, 3), (87, .iload_n 1, 1), (88, .iaload, 1), (89, .iadd, 1), (90, .istore 8, 2), (92, .aload_n 0, 1), (93, .getfield 48, 3), (96, .iload 8, 2), (98, .iload 7, 2), (100, .iastore, 1), (101, .aload_n 0, 1), (102, .getfield 51, 3), (105, .iload 8, 2), (107, .lload 5, 2), (109, .l2i, 1), (110, .iastore, 1), (111, .aload_n 0, 1), (112, .getfield 42, 3), (115, .iload 8, 2), (117, .aload_n 0, 1), (118, .getfield 60, 3), (121, .iload_n 1, 1), (122, .iaload, 1), (123, .iastore, 1), (124, .aload_n 0, 1), (125, .getfield 45, 3), (128, .iload 8, 2), (130, .aload_n 0, 1), (131, .getfield 63, 3), (134, .iload_n 1, 1), (135, .laload, 1), (136, .lastore, 1), (137, .aload_n 0, 1), (138, .getfield 54, 3), (141, .iload 8, 2), (143, .aload_n 0, 1), (144, .getfield 66, 3), (147, .iload_n 1, 1), (148, .iaload, 1), (149, .iastore, 1), (150, .aload_n 0, 1), (151, .getfield 60, 3), (154, .iload_n 1, 1), (155, .iaload, 1), (156, .ifCond .ne 46, 3), (159, .aload_n 0, 1), (160, .getfield 36, 3), (163, .iload_n 1, 1), (164, .iaload, 1), (165, .ifCond .le 37, 3), (168, .aload_n 0, 1), (169, .getfield 42, 3), (172, .iload 8, 2), (174, .iconst 1, 1), (175, .iastore, 1), (176, .aload_n 0, 1), (177, .getfield 45, 3), (180, .iload 8, 2), (182, .aload_n 0, 1), (183, .getfield 33, 3), (186, .sipush 128, 3), (189, .iload_n 1, 1), (190, .imul, 1), (191, .aload_n 0, 1), (192, .getfield 36, 3), (195, .iload_n 1, 1), (196, .iaload, 1), (197, .iadd, 1), (198, .iconst 1, 1), (199, .isub, 1), (200, .laload, 1), (201, .lastore, 1), (202, .aload_n 0, 1), (203, .getfield 57, 3), (206, .iload_n 1, 1), (207, .aload_n 0, 1), (208, .getfield 57, 3), (211, .iload_n 1, 1), (212, .iaload, 1), (213, .iload 7, 2), (215, .iadd, 1), (216, .iastore, 1), (217, .aload_n 0, 1), (218, .getfield 39, 3), (221, .iload_n 1, 1), (222, .aload_n 0, 1), (223, .getfield 39, 3), (226, .iload_n 1, 1), (227, .iaload, 1), (228, .iconst 1, 1), (229, .iadd, 1), (230, .iastore, 1), (231, .aload_n 0, 1), (232, .getfield 60, 3), (235, .iload_n 1, 1), (236, .iconst 0, 1), (237, .iastore, 1), (238, .aload_n 0, 1), (239, .getfield 36, 3), (242, .iload_n 1, 1), (243, .iconst 0, 1), (244, .iastore, 1), (245, .iconst 1, 1), (246, .ireturn, 1)]
theorem dX12_isPiece : x_il nX12_isPiece 247 iX12_isPiece = true := by decide +kernel
theorem aX12_isPiece (k : Nat) {pc : Nat} {i : Jvm.ClassFile.Instr} {len : Nat} (hk : iX12_isPiece[k]? = some (pc, i, len)) : x_at xMM 182 pc i len yX12_isPiece 9 (some .boolean) := ⟨cX12_isPiece, rfl, x_il_ok bX12_isPiece dX12_isPiece k hk⟩
set_option maxHeartbeats 4000000 in
set_option maxRecDepth 100000 in
theorem m_isPiece {sk : xK} {base d n sl : Nat} {SH : Nat → Nat × Nat} {FI : Nat → Nat → Int32} {FL : Nat → Nat → Int64} {FR : Nat → Nat → Option Nat} (hS : h_S n SH) (hF : h_FR FR) (a1 : Int32) (a2 : Int32) (a3 : Int64) (a4 : Int64) (g0 : 0 ≤ (a2).toInt ∧ (a2).toInt ≤ 1) (g1 : 0 ≤ (a1).toInt ∧ (a1).toInt ≤ 1) (ai128 : h_ai 128 2 0 128 FI) (ai129 : h_ai 129 2 0 16 FI) (ai132 : h_ai 132 32 0 4096 FI) (ai133 : h_ai 133 32 0 4096 FI) (ai135 : h_ai 135 2 0 4096 FI) (rel_hold : rl_h 2 (FI 136) (FL 137) (FI 138)) (rel_piece : rl_h 32 (FI 130) (FL 131) (FI 134)) : hw sk base (d + 1) none 182 0 [(0, .ref (base + 121)), (1, .int (a1)), (2, .int (a2)), (3, .long (a3)), (5, .long (a4))] [] (n, sl, SH, FI, FL, FR) (h_I (fun r s => ∃ FI' FL', s = (n, sl, SH, FI', FL', FR) ∧ h_fr FI FI' [] [128, 129, 130, 132, 133, 134, 135, 136] ∧ h_fr FL FL' [] [131] ∧ (0 ≤ r.toInt ∧ r.toInt ≤ 1) ∧ h_ai 128 2 0 128 FI' ∧ h_ai 129 2 0 16 FI' ∧ h_ai 132 32 0 4096 FI' ∧ h_ai 133 32 0 4096 FI' ∧ h_ai 135 2 0 4096 FI' ∧ (rl_h 2 (FI' 136) (FL' 137) (FI' 138)) ∧ (rl_h 32 (FI' 130) (FL' 131) (FI' 134)))) := by
  have rg_a1 := i_rng a1
  have rg_a2 := i_rng a2
  have rg_a3 := l_rng a3
  have rg_a4 := l_rng a4
  refine hw_aloadn (aX12_isPiece 0 rfl) rfl ?_
  refine hw_get (v := .ref (base + 129)) (aX12_isPiece 1 rfl) wf_RX12_39 (c121 hS) (s121 hS) (by decide) (congrArg (fun r => va_rf (h_rf base r)) (r121_16 hF)) ?_
  refine xw_iloadn (aX12_isPiece 2 rfl) rfl ?_
  refine hw_iald (v := FI 129 (a1).toNatClampNeg) (aX12_isPiece 3 rfl) (c129 hS) (s129 hS) (h_in rfl (by omega) (by omega)) rfl ?_
  have e1 : 0 ≤ (FI 129 (a1).toNatClampNeg).toInt ∧ (FI 129 (a1).toNatClampNeg).toInt ≤ 16 := ai_at ai129 rfl (by omega) (by omega)
  refine hw_bp (v := (16 : Int32)) (aX12_isPiece 4 rfl) (by decide) ?_
  refine hw_iceq (tgt := 44) (aX12_isPiece 5 rfl) (by decide) rfl (by decide : (16 : Int32).toInt = 16) (fun cd2 => ?_) (fun cd2 => ?_)
  · refine hw_ic (v := (0 : Int32)) (aX12_isPiece 20 rfl) (by decide) ?_
    refine xw_iret (aX12_isPiece 21 rfl) rfl (by decide) ?_
    have e3 : ((0 : Int32)).toInt = 0 := (by decide : (0 : Int32).toInt = 0)
    exact ⟨(0 : Int32), rfl, _, _, rfl, fr_rf, fr_rf, (by show 0 ≤ ((0 : Int32)).toInt ∧ ((0 : Int32)).toInt ≤ 1; omega), ai128, ai129, ai132, ai133, ai135, (show rl_h 2 ((FI) 136) ((FL) 137) ((FI) 138) from rel_hold), (show rl_h 32 ((FI) 130) ((FL) 131) ((FI) 134) from rel_piece)⟩
  · refine hw_aloadn (aX12_isPiece 6 rfl) rfl ?_
    refine xw_lloadn (aX12_isPiece 7 rfl) rfl ?_
    refine xw_iloadn (aX12_isPiece 8 rfl) rfl ?_
    have j97 : ∀ (g5 : Int64), (512 ≤ (g5).toInt ∧ (g5).toInt ≤ 4096) → ((a2).toInt = 1 → ((g5)).toInt = 4096) → ((a2).toInt = 0 → ((g5)).toInt = 512) → hw sk base (d + 1) none 182 26 [(0, .ref (base + 121)), (1, .int (a1)), (2, .int (a2)), (3, .long (a3)), (5, .long (a4))] [.long (g5), .long (a3), .ref (base + 121)] (n, sl, SH, FI, FL, FR) (h_I (fun r s => ∃ FI' FL', s = (n, sl, SH, FI', FL', FR) ∧ h_fr FI FI' [] [128, 129, 130, 132, 133, 134, 135, 136] ∧ h_fr FL FL' [] [131] ∧ (0 ≤ r.toInt ∧ r.toInt ≤ 1) ∧ h_ai 128 2 0 128 FI' ∧ h_ai 129 2 0 16 FI' ∧ h_ai 132 32 0 4096 FI' ∧ h_ai 133 32 0 4096 FI' ∧ h_ai 135 2 0 4096 FI' ∧ (rl_h 2 (FI' 136) (FL' 137) (FI' 138)) ∧ (rl_h 32 (FI' 130) (FL' 131) (FI' 134)))) := by
      intro g5 q98 fc26_0 fc26_1
      have rg_g5 := l_rng g5
      refine hw_callV (Bs := [.long (a3), .long (g5)]) (rest := []) (aX12_isPiece 13 rfl) wc_RX12_312 (by decide) rfl wi_yX12_isAbove wv_yX12_isAbove (c121 hS) (s121 hS) rfl rfl rfl (Nat.le_of_ble_eq_true rfl) (Nat.le_of_ble_eq_true rfl) (m_isAbove (d := d) hS hF (a3) (g5) ) (fun v99 sv100 p101 => ?_)
      obtain ⟨r105, rfl, FI103, FL104, rfl, rfl, rfl, t106, t107⟩ := p101
      have rg_r105 := i_rng r105
      show hw sk base _ none _ _ _ [.int (r105)] _ _
      refine hw_ifne (tgt := 44) (aX12_isPiece 14 rfl) (by decide) rfl (fun cd108 => ?_) (fun cd108 => ?_)
      · refine hw_ic (v := (0 : Int32)) (aX12_isPiece 20 rfl) (by decide) ?_
        refine xw_iret (aX12_isPiece 21 rfl) rfl (by decide) ?_
        have e109 : ((0 : Int32)).toInt = 0 := (by decide : (0 : Int32).toInt = 0)
        exact ⟨(0 : Int32), rfl, _, _, rfl, fr_rf, fr_rf, (by show 0 ≤ ((0 : Int32)).toInt ∧ ((0 : Int32)).toInt ≤ 1; omega), ai128, ai129, ai132, ai133, ai135, (show rl_h 2 ((FI) 136) ((FL) 137) ((FI) 138) from rel_hold), (show rl_h 32 ((FI) 130) ((FL) 131) ((FI) 134) from rel_piece)⟩
      · refine hw_aloadn (aX12_isPiece 15 rfl) rfl ?_
        refine xw_lload (aX12_isPiece 16 rfl) rfl ?_
        refine xw_ldc2 (aX12_isPiece 17 rfl) wk_RX12_218 ?_
        refine hw_callV (Bs := [.long (a4), .long ((4096 : Int64))]) (rest := []) (aX12_isPiece 18 rfl) wc_RX12_312 (by decide) rfl wi_yX12_isAbove wv_yX12_isAbove (c121 hS) (s121 hS) rfl rfl rfl (Nat.le_of_ble_eq_true rfl) (Nat.le_of_ble_eq_true rfl) (m_isAbove (d := d) hS hF (a4) ((4096 : Int64)) ) (fun v110 sv111 p112 => ?_)
        obtain ⟨r116, rfl, FI114, FL115, rfl, rfl, rfl, t117, t118⟩ := p112
        have rg_r116 := i_rng r116
        have e119 : ((4096 : Int64)).toInt = 4096 := (by decide : (4096 : Int64).toInt = 4096)
        show hw sk base _ none _ _ _ [.int (r116)] _ _
        refine hw_ifeq (tgt := 46) (aX12_isPiece 19 rfl) (by decide) rfl (fun cd120 => ?_) (fun cd120 => ?_)
        · have e121 : 0 ≤ (a3).toInt ∧ (a3).toInt ≤ 4096 := by omega
          have e122 : 0 ≤ (a4).toInt ∧ (a4).toInt ≤ 4096 := by omega
          refine xw_iloadn (aX12_isPiece 22 rfl) rfl ?_
          have j189 : ∀ (g131 : Int32), (0 ≤ (g131).toInt ∧ (g131).toInt ≤ 4096) → hw sk base (d + 1) none 182 60 [(0, .ref (base + 121)), (1, .int (a1)), (5, .long (a4))] [.int (g131)] (n, sl, SH, FI, FL, FR) (h_I (fun r s => ∃ FI' FL', s = (n, sl, SH, FI', FL', FR) ∧ h_fr FI FI' [] [128, 129, 130, 132, 133, 134, 135, 136] ∧ h_fr FL FL' [] [131] ∧ (0 ≤ r.toInt ∧ r.toInt ≤ 1) ∧ h_ai 128 2 0 128 FI' ∧ h_ai 129 2 0 16 FI' ∧ h_ai 132 32 0 4096 FI' ∧ h_ai 133 32 0 4096 FI' ∧ h_ai 135 2 0 4096 FI' ∧ (rl_h 2 (FI' 136) (FL' 137) (FI' 138)) ∧ (rl_h 32 (FI' 130) (FL' 131) (FI' 134)))) := by
            intro g131 q190
            have rg_g131 := i_rng g131
            refine xw_istore (L2 := [(7, .int (g131)), (0, .ref (base + 121)), (1, .int (a1)), (5, .long (a4))]) (aX12_isPiece 31 rfl) (by decide) rfl ?_
            refine hw_aloadn (aX12_isPiece 32 rfl) rfl ?_
            refine hw_get (v := .ref (base + 135)) (aX12_isPiece 33 rfl) wf_RX12_57 (c121 hS) (s121 hS) (by decide) (congrArg (fun r => va_rf (h_rf base r)) (r121_22 hF)) ?_
            refine xw_iloadn (aX12_isPiece 34 rfl) rfl ?_
            refine hw_iald (v := FI 135 (a1).toNatClampNeg) (aX12_isPiece 35 rfl) (c135 hS) (s135 hS) (h_in rfl (by omega) (by omega)) rfl ?_
            have e191 : 0 ≤ (FI 135 (a1).toNatClampNeg).toInt ∧ (FI 135 (a1).toNatClampNeg).toInt ≤ 4096 := ai_at ai135 rfl (by omega) (by omega)
            refine xw_iload (aX12_isPiece 36 rfl) rfl ?_
            refine xw_iadd (aX12_isPiece 37 rfl) ?_
            refine hw_tie (A := ((FI 135 (a1).toNatClampNeg).toInt) + ((g131).toInt)) (i_add rfl rfl (by omega) (by omega)) (fun x192 e193 => ?_)
            refine hw_sp (v := (4096 : Int32)) (aX12_isPiece 38 rfl) (by decide) ?_
            refine hw_icle (tgt := 79) (aX12_isPiece 39 rfl) (by decide) e193 (by decide : (4096 : Int32).toInt = 4096) (fun cd194 => ?_) (fun cd194 => ?_)
            · refine hw_bp (v := (16 : Int32)) (aX12_isPiece 42 rfl) (by decide) ?_
              refine xw_iloadn (aX12_isPiece 43 rfl) rfl ?_
              refine xw_imul (aX12_isPiece 44 rfl) ?_
              refine hw_tie (A := (16) * ((a1).toInt)) (i_mul (by decide : (16 : Int32).toInt = 16) rfl (by omega) (by omega)) (fun x195 e196 => ?_)
              refine hw_aloadn (aX12_isPiece 45 rfl) rfl ?_
              refine hw_get (v := .ref (base + 129)) (aX12_isPiece 46 rfl) wf_RX12_39 (c121 hS) (s121 hS) (by decide) (congrArg (fun r => va_rf (h_rf base r)) (r121_16 hF)) ?_
              refine xw_iloadn (aX12_isPiece 47 rfl) rfl ?_
              refine hw_iald (v := FI 129 (a1).toNatClampNeg) (aX12_isPiece 48 rfl) (c129 hS) (s129 hS) (h_in rfl (by omega) (by omega)) rfl ?_
              have e197 : 0 ≤ (FI 129 (a1).toNatClampNeg).toInt ∧ (FI 129 (a1).toNatClampNeg).toInt ≤ 16 := ai_at ai129 rfl (by omega) (by omega)
              have e198 : 0 ≤ (FI 129 (a1).toNatClampNeg).toInt ∧ (FI 129 (a1).toNatClampNeg).toInt ≤ 15 := by omega
              refine xw_iadd (aX12_isPiece 49 rfl) ?_
              refine hw_tie (A := ((16) * ((a1).toInt)) + ((FI 129 (a1).toNatClampNeg).toInt)) (i_add e196 rfl (by omega) (by omega)) (fun x199 e200 => ?_)
              refine xw_istore (L2 := [(8, .int (x199)), (7, .int (g131)), (0, .ref (base + 121)), (1, .int (a1)), (5, .long (a4))]) (aX12_isPiece 50 rfl) (by decide) rfl ?_
              refine hw_aloadn (aX12_isPiece 51 rfl) rfl ?_
              refine hw_get (v := .ref (base + 132)) (aX12_isPiece 52 rfl) wf_RX12_48 (c121 hS) (s121 hS) (by decide) (congrArg (fun r => va_rf (h_rf base r)) (r121_19 hF)) ?_
              refine xw_iload (aX12_isPiece 53 rfl) rfl ?_
              refine xw_iload (aX12_isPiece 54 rfl) rfl ?_
              refine hw_iast (aX12_isPiece 55 rfl) (c132 hS) (s132 hS) (h_in e200 (by omega) (by omega)) ?_
              have e201 : h_ai 132 32 0 4096 (h_up FI 132 (x199).toNatClampNeg (g131)) := ai_up ai132 rfl (by omega) (by omega)
              refine hw_aloadn (aX12_isPiece 56 rfl) rfl ?_
              refine hw_get (v := .ref (base + 133)) (aX12_isPiece 57 rfl) wf_RX12_51 (c121 hS) (s121 hS) (by decide) (congrArg (fun r => va_rf (h_rf base r)) (r121_20 hF)) ?_
              refine xw_iload (aX12_isPiece 58 rfl) rfl ?_
              refine xw_lload (aX12_isPiece 59 rfl) rfl ?_
              refine xw_l2i (aX12_isPiece 60 rfl) ?_
              refine hw_tie (A := (a4).toInt) (l_2i rfl (by omega) (by omega)) (fun x202 e203 => ?_)
              refine hw_iast (aX12_isPiece 61 rfl) (c133 hS) (s133 hS) (h_in e200 (by omega) (by omega)) ?_
              have e204 : h_ai 133 32 0 4096 (h_up (h_up FI 132 (x199).toNatClampNeg (g131)) 133 (x199).toNatClampNeg (x202)) := ai_up (show h_ai 133 32 0 4096 (h_up FI 132 (x199).toNatClampNeg (g131)) from (ai_nc ai133 (by decide))) e203 (by omega) (by omega)
              refine hw_aloadn (aX12_isPiece 62 rfl) rfl ?_
              refine hw_get (v := .ref (base + 130)) (aX12_isPiece 63 rfl) wf_RX12_42 (c121 hS) (s121 hS) (by decide) (congrArg (fun r => va_rf (h_rf base r)) (r121_17 hF)) ?_
              refine xw_iload (aX12_isPiece 64 rfl) rfl ?_
              refine hw_aloadn (aX12_isPiece 65 rfl) rfl ?_
              refine hw_get (v := .ref (base + 136)) (aX12_isPiece 66 rfl) wf_RX12_60 (c121 hS) (s121 hS) (by decide) (congrArg (fun r => va_rf (h_rf base r)) (r121_23 hF)) ?_
              refine xw_iloadn (aX12_isPiece 67 rfl) rfl ?_
              refine hw_iald (v := FI 136 (a1).toNatClampNeg) (aX12_isPiece 68 rfl) (c136 hS) (s136 hS) (h_in rfl (by omega) (by omega)) rfl ?_
              have e205 := i_rng (FI 136 (a1).toNatClampNeg)
              refine hw_iast (aX12_isPiece 69 rfl) (c130 hS) (s130 hS) (h_in e200 (by omega) (by omega)) ?_
              refine hw_aloadn (aX12_isPiece 70 rfl) rfl ?_
              refine hw_get (v := .ref (base + 131)) (aX12_isPiece 71 rfl) wf_RX12_45 (c121 hS) (s121 hS) (by decide) (congrArg (fun r => va_rf (h_rf base r)) (r121_18 hF)) ?_
              refine xw_iload (aX12_isPiece 72 rfl) rfl ?_
              refine hw_aloadn (aX12_isPiece 73 rfl) rfl ?_
              refine hw_get (v := .ref (base + 137)) (aX12_isPiece 74 rfl) wf_RX12_63 (c121 hS) (s121 hS) (by decide) (congrArg (fun r => va_rf (h_rf base r)) (r121_24 hF)) ?_
              refine xw_iloadn (aX12_isPiece 75 rfl) rfl ?_
              refine hw_lald (v := FL 137 (a1).toNatClampNeg) (aX12_isPiece 76 rfl) (c137 hS) (s137 hS) (h_in rfl (by omega) (by omega)) rfl ?_
              have e206 := l_rng (FL 137 (a1).toNatClampNeg)
              refine hw_last (aX12_isPiece 77 rfl) (c131 hS) (s131 hS) (h_in e200 (by omega) (by omega)) ?_
              refine hw_aloadn (aX12_isPiece 78 rfl) rfl ?_
              refine hw_get (v := .ref (base + 134)) (aX12_isPiece 79 rfl) wf_RX12_54 (c121 hS) (s121 hS) (by decide) (congrArg (fun r => va_rf (h_rf base r)) (r121_21 hF)) ?_
              refine xw_iload (aX12_isPiece 80 rfl) rfl ?_
              refine hw_aloadn (aX12_isPiece 81 rfl) rfl ?_
              refine hw_get (v := .ref (base + 138)) (aX12_isPiece 82 rfl) wf_RX12_66 (c121 hS) (s121 hS) (by decide) (congrArg (fun r => va_rf (h_rf base r)) (r121_25 hF)) ?_
              refine xw_iloadn (aX12_isPiece 83 rfl) rfl ?_
              refine hw_iald (v := FI 138 (a1).toNatClampNeg) (aX12_isPiece 84 rfl) (c138 hS) (s138 hS) (h_in rfl (by omega) (by omega)) rfl ?_
              have e207 := i_rng (FI 138 (a1).toNatClampNeg)
              refine hw_iast (aX12_isPiece 85 rfl) (c134 hS) (s134 hS) (h_in e200 (by omega) (by omega)) ?_
              have rl208 : rl_h 32 ((h_up (h_up (h_up (h_up FI 132 (x199).toNatClampNeg (g131)) 133 (x199).toNatClampNeg (x202)) 130 (x199).toNatClampNeg (FI 136 (a1).toNatClampNeg)) 134 (x199).toNatClampNeg (FI 138 (a1).toNatClampNeg)) 130) ((h_up FL 131 (x199).toNatClampNeg (FL 137 (a1).toNatClampNeg)) 131) ((h_up (h_up (h_up (h_up FI 132 (x199).toNatClampNeg (g131)) 133 (x199).toNatClampNeg (x202)) 130 (x199).toNatClampNeg (FI 136 (a1).toNatClampNeg)) 134 (x199).toNatClampNeg (FI 138 (a1).toNatClampNeg)) 134) := rl_h_up rel_piece (rel_hold _ (i_lt (rfl : (a1).toInt = _) (by omega) (by omega))).1 (rel_hold _ (i_lt (rfl : (a1).toInt = _) (by omega) (by omega))).2
              refine hw_aloadn (aX12_isPiece 86 rfl) rfl ?_
              refine hw_get (v := .ref (base + 136)) (aX12_isPiece 87 rfl) wf_RX12_60 (c121 hS) (s121 hS) (by decide) (congrArg (fun r => va_rf (h_rf base r)) (r121_23 hF)) ?_
              refine xw_iloadn (aX12_isPiece 88 rfl) rfl ?_
              refine hw_iald (v := FI 136 (a1).toNatClampNeg) (aX12_isPiece 89 rfl) (c136 hS) (s136 hS) (h_in rfl (by omega) (by omega)) rfl ?_
              refine hw_ti (fun x209 => ?_)
              have b210 := i_rng x209
              have j247 : ∀  (FIj224 : Nat → Nat → Int32) (FLj231 : Nat → Nat → Int64), (h_fr FI FIj224 [] [128, 129, 130, 132, 133, 134, 135, 136]) → (h_ai 135 2 0 4096 FIj224) → (h_ai 133 32 0 4096 FIj224) → (h_ai 132 32 0 4096 FIj224) → (h_ai 129 2 0 16 FIj224) → (h_ai 128 2 0 128 FIj224) → (h_fr FL FLj231 [] [131]) → (rl_h 2 ((FIj224) 136) ((FLj231) 137) ((FIj224) 138)) → (rl_h 32 ((FIj224) 130) ((FLj231) 131) ((FIj224) 134)) → ((FIj224) 135 = FI 135) → ((FIj224) 129 = FI 129) → hw sk base (d + 1) none 182 202 [(0, .ref (base + 121)), (1, .int (a1)), (7, .int (g131))] [] (n, sl, SH, FIj224, FLj231, FR) (h_I (fun r s => ∃ FI' FL', s = (n, sl, SH, FI', FL', FR) ∧ h_fr FI FI' [] [128, 129, 130, 132, 133, 134, 135, 136] ∧ h_fr FL FL' [] [131] ∧ (0 ≤ r.toInt ∧ r.toInt ≤ 1) ∧ h_ai 128 2 0 128 FI' ∧ h_ai 129 2 0 16 FI' ∧ h_ai 132 32 0 4096 FI' ∧ h_ai 133 32 0 4096 FI' ∧ h_ai 135 2 0 4096 FI' ∧ (rl_h 2 (FI' 136) (FL' 137) (FI' 138)) ∧ (rl_h 32 (FI' 130) (FL' 131) (FI' 134)))) := by
                intro FIj224 FLj231 fr225 ai226 ai227 ai228 ai229 ai230 fr232 rl233 rl234 fc202_0 fc202_1
                have hq5 : ((FIj224) 135 (a1).toNatClampNeg).toInt = (FI 135 (a1).toNatClampNeg).toInt := by rw [fc202_0]
                have hq6 : ((FIj224) 129 (a1).toNatClampNeg).toInt = (FI 129 (a1).toNatClampNeg).toInt := by rw [fc202_1]
                refine hw_aloadn (aX12_isPiece 118 rfl) rfl ?_
                refine hw_get (v := .ref (base + 135)) (aX12_isPiece 119 rfl) wf_RX12_57 (c121 hS) (s121 hS) (by decide) (congrArg (fun r => va_rf (h_rf base r)) (r121_22 hF)) ?_
                refine xw_iloadn (aX12_isPiece 120 rfl) rfl ?_
                refine hw_aloadn (aX12_isPiece 121 rfl) rfl ?_
                refine hw_get (v := .ref (base + 135)) (aX12_isPiece 122 rfl) wf_RX12_57 (c121 hS) (s121 hS) (by decide) (congrArg (fun r => va_rf (h_rf base r)) (r121_22 hF)) ?_
                refine xw_iloadn (aX12_isPiece 123 rfl) rfl ?_
                refine hw_iald (v := FIj224 135 (a1).toNatClampNeg) (aX12_isPiece 124 rfl) (c135 hS) (s135 hS) (h_in rfl (by omega) (by omega)) rfl ?_
                have e248 : 0 ≤ (FIj224 135 (a1).toNatClampNeg).toInt ∧ (FIj224 135 (a1).toNatClampNeg).toInt ≤ 4096 := ai_at ai226 rfl (by omega) (by omega)
                refine xw_iload (aX12_isPiece 125 rfl) rfl ?_
                refine xw_iadd (aX12_isPiece 126 rfl) ?_
                refine hw_tie (A := ((FIj224 135 (a1).toNatClampNeg).toInt) + ((g131).toInt)) (i_add rfl rfl (by omega) (by omega)) (fun x249 e250 => ?_)
                refine hw_iast (aX12_isPiece 127 rfl) (c135 hS) (s135 hS) (h_in rfl (by omega) (by omega)) ?_
                have e251 : h_ai 135 2 0 4096 (h_up FIj224 135 (a1).toNatClampNeg (x249)) := ai_up ai226 e250 (by omega) (by omega)
                refine hw_aloadn (aX12_isPiece 128 rfl) rfl ?_
                refine hw_get (v := .ref (base + 129)) (aX12_isPiece 129 rfl) wf_RX12_39 (c121 hS) (s121 hS) (by decide) (congrArg (fun r => va_rf (h_rf base r)) (r121_16 hF)) ?_
                refine xw_iloadn (aX12_isPiece 130 rfl) rfl ?_
                refine hw_aloadn (aX12_isPiece 131 rfl) rfl ?_
                refine hw_get (v := .ref (base + 129)) (aX12_isPiece 132 rfl) wf_RX12_39 (c121 hS) (s121 hS) (by decide) (congrArg (fun r => va_rf (h_rf base r)) (r121_16 hF)) ?_
                refine xw_iloadn (aX12_isPiece 133 rfl) rfl ?_
                refine hw_iald (v := FIj224 129 (a1).toNatClampNeg) (aX12_isPiece 134 rfl) (c129 hS) (s129 hS) (h_in rfl (by omega) (by omega)) rfl ?_
                have e252 : 0 ≤ (FIj224 129 (a1).toNatClampNeg).toInt ∧ (FIj224 129 (a1).toNatClampNeg).toInt ≤ 16 := ai_at ai229 rfl (by omega) (by omega)
                have e253 : 0 ≤ (FIj224 129 (a1).toNatClampNeg).toInt ∧ (FIj224 129 (a1).toNatClampNeg).toInt ≤ 15 := by omega
                refine hw_ic (v := (1 : Int32)) (aX12_isPiece 135 rfl) (by decide) ?_
                refine xw_iadd (aX12_isPiece 136 rfl) ?_
                refine hw_tie (A := ((FIj224 129 (a1).toNatClampNeg).toInt) + (1)) (i_add rfl (by decide : (1 : Int32).toInt = 1) (by omega) (by omega)) (fun x254 e255 => ?_)
                refine hw_iast (aX12_isPiece 137 rfl) (c129 hS) (s129 hS) (h_in rfl (by omega) (by omega)) ?_
                have e256 : h_ai 129 2 0 16 (h_up (h_up FIj224 135 (a1).toNatClampNeg (x249)) 129 (a1).toNatClampNeg (x254)) := ai_up (show h_ai 129 2 0 16 (h_up FIj224 135 (a1).toNatClampNeg (x249)) from (ai_nc ai229 (by decide))) e255 (by omega) (by omega)
                refine hw_aloadn (aX12_isPiece 138 rfl) rfl ?_
                refine hw_get (v := .ref (base + 136)) (aX12_isPiece 139 rfl) wf_RX12_60 (c121 hS) (s121 hS) (by decide) (congrArg (fun r => va_rf (h_rf base r)) (r121_23 hF)) ?_
                refine xw_iloadn (aX12_isPiece 140 rfl) rfl ?_
                refine hw_ic (v := (0 : Int32)) (aX12_isPiece 141 rfl) (by decide) ?_
                refine hw_iast (aX12_isPiece 142 rfl) (c136 hS) (s136 hS) (h_in rfl (by omega) (by omega)) ?_
                have rl257 : rl_h 2 ((h_up (h_up (h_up FIj224 135 (a1).toNatClampNeg (x249)) 129 (a1).toNatClampNeg (x254)) 136 (a1).toNatClampNeg ((0 : Int32))) 136) ((FLj231) 137) ((h_up (h_up (h_up FIj224 135 (a1).toNatClampNeg (x249)) 129 (a1).toNatClampNeg (x254)) 136 (a1).toNatClampNeg ((0 : Int32))) 138) := rl_h_k rl233 (by decide) (by decide)
                refine hw_aloadn (aX12_isPiece 143 rfl) rfl ?_
                refine hw_get (v := .ref (base + 128)) (aX12_isPiece 144 rfl) wf_RX12_36 (c121 hS) (s121 hS) (by decide) (congrArg (fun r => va_rf (h_rf base r)) (r121_15 hF)) ?_
                refine xw_iloadn (aX12_isPiece 145 rfl) rfl ?_
                refine hw_ic (v := (0 : Int32)) (aX12_isPiece 146 rfl) (by decide) ?_
                refine hw_iast (aX12_isPiece 147 rfl) (c128 hS) (s128 hS) (h_in rfl (by omega) (by omega)) ?_
                have e258 : h_ai 128 2 0 128 (h_up (h_up (h_up (h_up FIj224 135 (a1).toNatClampNeg (x249)) 129 (a1).toNatClampNeg (x254)) 136 (a1).toNatClampNeg ((0 : Int32))) 128 (a1).toNatClampNeg ((0 : Int32))) := ai_up (show h_ai 128 2 0 128 (h_up (h_up (h_up FIj224 135 (a1).toNatClampNeg (x249)) 129 (a1).toNatClampNeg (x254)) 136 (a1).toNatClampNeg ((0 : Int32))) from (ai_nc (ai_nc (ai_nc ai230 (by decide)) (by decide)) (by decide))) (by decide : (0 : Int32).toInt = 0) (by omega) (by omega)
                refine hw_ic (v := (1 : Int32)) (aX12_isPiece 148 rfl) (by decide) ?_
                refine xw_iret (aX12_isPiece 149 rfl) rfl (by decide) ?_
                have e259 : ((1 : Int32)).toInt = 1 := (by decide : (1 : Int32).toInt = 1)
                exact ⟨(1 : Int32), rfl, _, _, rfl, (fr_ua (fr_ua (fr_ua (fr_ua fr225 (by decide) (by decide)) (by decide) (by decide)) (by decide) (by decide)) (by decide) (by decide)), fr232, (by show 0 ≤ ((1 : Int32)).toInt ∧ ((1 : Int32)).toInt ≤ 1; omega), e258, (show h_ai 129 2 0 16 (h_up (h_up (h_up (h_up FIj224 135 (a1).toNatClampNeg (x249)) 129 (a1).toNatClampNeg (x254)) 136 (a1).toNatClampNeg ((0 : Int32))) 128 (a1).toNatClampNeg ((0 : Int32))) from (ai_nc (ai_nc e256 (by decide)) (by decide))), (show h_ai 132 32 0 4096 (h_up (h_up (h_up (h_up FIj224 135 (a1).toNatClampNeg (x249)) 129 (a1).toNatClampNeg (x254)) 136 (a1).toNatClampNeg ((0 : Int32))) 128 (a1).toNatClampNeg ((0 : Int32))) from (ai_nc (ai_nc (ai_nc (ai_nc ai228 (by decide)) (by decide)) (by decide)) (by decide))), (show h_ai 133 32 0 4096 (h_up (h_up (h_up (h_up FIj224 135 (a1).toNatClampNeg (x249)) 129 (a1).toNatClampNeg (x254)) 136 (a1).toNatClampNeg ((0 : Int32))) 128 (a1).toNatClampNeg ((0 : Int32))) from (ai_nc (ai_nc (ai_nc (ai_nc ai227 (by decide)) (by decide)) (by decide)) (by decide))), (show h_ai 135 2 0 4096 (h_up (h_up (h_up (h_up FIj224 135 (a1).toNatClampNeg (x249)) 129 (a1).toNatClampNeg (x254)) 136 (a1).toNatClampNeg ((0 : Int32))) 128 (a1).toNatClampNeg ((0 : Int32))) from (ai_nc (ai_nc (ai_nc e251 (by decide)) (by decide)) (by decide))), (show rl_h 2 ((h_up (h_up (h_up (h_up FIj224 135 (a1).toNatClampNeg (x249)) 129 (a1).toNatClampNeg (x254)) 136 (a1).toNatClampNeg ((0 : Int32))) 128 (a1).toNatClampNeg ((0 : Int32))) 136) ((FLj231) 137) ((h_up (h_up (h_up (h_up FIj224 135 (a1).toNatClampNeg (x249)) 129 (a1).toNatClampNeg (x254)) 136 (a1).toNatClampNeg ((0 : Int32))) 128 (a1).toNatClampNeg ((0 : Int32))) 138) from rl257), (show rl_h 32 ((h_up (h_up (h_up (h_up FIj224 135 (a1).toNatClampNeg (x249)) 129 (a1).toNatClampNeg (x254)) 136 (a1).toNatClampNeg ((0 : Int32))) 128 (a1).toNatClampNeg ((0 : Int32))) 130) ((FLj231) 131) ((h_up (h_up (h_up (h_up FIj224 135 (a1).toNatClampNeg (x249)) 129 (a1).toNatClampNeg (x254)) 136 (a1).toNatClampNeg ((0 : Int32))) 128 (a1).toNatClampNeg ((0 : Int32))) 134) from rl234)⟩
              refine hw_ifne (tgt := 202) (aX12_isPiece 90 rfl) (by decide) rfl (fun cd260 => ?_) (fun cd260 => ?_)
              · exact hw_L (j247 (h_up (h_up (h_up (h_up FI 132 (x199).toNatClampNeg (g131)) 133 (x199).toNatClampNeg (x202)) 130 (x199).toNatClampNeg (FI 136 (a1).toNatClampNeg)) 134 (x199).toNatClampNeg (FI 138 (a1).toNatClampNeg)) (h_up FL 131 (x199).toNatClampNeg (FL 137 (a1).toNatClampNeg)) (fr_ua (fr_ua (fr_ua (fr_ua fr_rf (by decide) (by decide)) (by decide) (by decide)) (by decide) (by decide)) (by decide) (by decide)) (show h_ai 135 2 0 4096 (h_up (h_up (h_up (h_up FI 132 (x199).toNatClampNeg (g131)) 133 (x199).toNatClampNeg (x202)) 130 (x199).toNatClampNeg (FI 136 (a1).toNatClampNeg)) 134 (x199).toNatClampNeg (FI 138 (a1).toNatClampNeg)) from (show h_ai 135 2 0 4096 (h_up (h_up (h_up (h_up FI 132 (x199).toNatClampNeg (g131)) 133 (x199).toNatClampNeg (x202)) 130 (x199).toNatClampNeg (FI 136 (a1).toNatClampNeg)) 134 (x199).toNatClampNeg (FI 138 (a1).toNatClampNeg)) from (ai_nc (ai_nc (ai_nc (ai_nc ai135 (by decide)) (by decide)) (by decide)) (by decide)))) (show h_ai 133 32 0 4096 (h_up (h_up (h_up (h_up FI 132 (x199).toNatClampNeg (g131)) 133 (x199).toNatClampNeg (x202)) 130 (x199).toNatClampNeg (FI 136 (a1).toNatClampNeg)) 134 (x199).toNatClampNeg (FI 138 (a1).toNatClampNeg)) from (show h_ai 133 32 0 4096 (h_up (h_up (h_up (h_up FI 132 (x199).toNatClampNeg (g131)) 133 (x199).toNatClampNeg (x202)) 130 (x199).toNatClampNeg (FI 136 (a1).toNatClampNeg)) 134 (x199).toNatClampNeg (FI 138 (a1).toNatClampNeg)) from (ai_nc (ai_nc e204 (by decide)) (by decide)))) (show h_ai 132 32 0 4096 (h_up (h_up (h_up (h_up FI 132 (x199).toNatClampNeg (g131)) 133 (x199).toNatClampNeg (x202)) 130 (x199).toNatClampNeg (FI 136 (a1).toNatClampNeg)) 134 (x199).toNatClampNeg (FI 138 (a1).toNatClampNeg)) from (show h_ai 132 32 0 4096 (h_up (h_up (h_up (h_up FI 132 (x199).toNatClampNeg (g131)) 133 (x199).toNatClampNeg (x202)) 130 (x199).toNatClampNeg (FI 136 (a1).toNatClampNeg)) 134 (x199).toNatClampNeg (FI 138 (a1).toNatClampNeg)) from (ai_nc (ai_nc (ai_nc e201 (by decide)) (by decide)) (by decide)))) (show h_ai 129 2 0 16 (h_up (h_up (h_up (h_up FI 132 (x199).toNatClampNeg (g131)) 133 (x199).toNatClampNeg (x202)) 130 (x199).toNatClampNeg (FI 136 (a1).toNatClampNeg)) 134 (x199).toNatClampNeg (FI 138 (a1).toNatClampNeg)) from (show h_ai 129 2 0 16 (h_up (h_up (h_up (h_up FI 132 (x199).toNatClampNeg (g131)) 133 (x199).toNatClampNeg (x202)) 130 (x199).toNatClampNeg (FI 136 (a1).toNatClampNeg)) 134 (x199).toNatClampNeg (FI 138 (a1).toNatClampNeg)) from (ai_nc (ai_nc (ai_nc (ai_nc ai129 (by decide)) (by decide)) (by decide)) (by decide)))) (show h_ai 128 2 0 128 (h_up (h_up (h_up (h_up FI 132 (x199).toNatClampNeg (g131)) 133 (x199).toNatClampNeg (x202)) 130 (x199).toNatClampNeg (FI 136 (a1).toNatClampNeg)) 134 (x199).toNatClampNeg (FI 138 (a1).toNatClampNeg)) from (show h_ai 128 2 0 128 (h_up (h_up (h_up (h_up FI 132 (x199).toNatClampNeg (g131)) 133 (x199).toNatClampNeg (x202)) 130 (x199).toNatClampNeg (FI 136 (a1).toNatClampNeg)) 134 (x199).toNatClampNeg (FI 138 (a1).toNatClampNeg)) from (ai_nc (ai_nc (ai_nc (ai_nc ai128 (by decide)) (by decide)) (by decide)) (by decide)))) (fr_ua fr_rf (by decide) (by decide)) (show rl_h 2 ((h_up (h_up (h_up (h_up FI 132 (x199).toNatClampNeg (g131)) 133 (x199).toNatClampNeg (x202)) 130 (x199).toNatClampNeg (FI 136 (a1).toNatClampNeg)) 134 (x199).toNatClampNeg (FI 138 (a1).toNatClampNeg)) 136) ((h_up FL 131 (x199).toNatClampNeg (FL 137 (a1).toNatClampNeg)) 137) ((h_up (h_up (h_up (h_up FI 132 (x199).toNatClampNeg (g131)) 133 (x199).toNatClampNeg (x202)) 130 (x199).toNatClampNeg (FI 136 (a1).toNatClampNeg)) 134 (x199).toNatClampNeg (FI 138 (a1).toNatClampNeg)) 138) from rel_hold) (show rl_h 32 ((h_up (h_up (h_up (h_up FI 132 (x199).toNatClampNeg (g131)) 133 (x199).toNatClampNeg (x202)) 130 (x199).toNatClampNeg (FI 136 (a1).toNatClampNeg)) 134 (x199).toNatClampNeg (FI 138 (a1).toNatClampNeg)) 130) ((h_up FL 131 (x199).toNatClampNeg (FL 137 (a1).toNatClampNeg)) 131) ((h_up (h_up (h_up (h_up FI 132 (x199).toNatClampNeg (g131)) 133 (x199).toNatClampNeg (x202)) 130 (x199).toNatClampNeg (FI 136 (a1).toNatClampNeg)) 134 (x199).toNatClampNeg (FI 138 (a1).toNatClampNeg)) 134) from rl208) (show (h_up (h_up (h_up (h_up FI 132 (x199).toNatClampNeg (g131)) 133 (x199).toNatClampNeg (x202)) 130 (x199).toNatClampNeg (FI 136 (a1).toNatClampNeg)) 134 (x199).toNatClampNeg (FI 138 (a1).toNatClampNeg)) 135 = FI 135 from rfl) (show (h_up (h_up (h_up (h_up FI 132 (x199).toNatClampNeg (g131)) 133 (x199).toNatClampNeg (x202)) 130 (x199).toNatClampNeg (FI 136 (a1).toNatClampNeg)) 134 (x199).toNatClampNeg (FI 138 (a1).toNatClampNeg)) 129 = FI 129 from rfl)) ⟨rfl, rfl, rfl, trivial⟩
              · refine hw_aloadn (aX12_isPiece 91 rfl) rfl ?_
                refine hw_get (v := .ref (base + 128)) (aX12_isPiece 92 rfl) wf_RX12_36 (c121 hS) (s121 hS) (by decide) (congrArg (fun r => va_rf (h_rf base r)) (r121_15 hF)) ?_
                refine xw_iloadn (aX12_isPiece 93 rfl) rfl ?_
                refine hw_iald (v := FI 128 (a1).toNatClampNeg) (aX12_isPiece 94 rfl) (c128 hS) (s128 hS) (h_in rfl (by omega) (by omega)) rfl ?_
                have e261 : 0 ≤ (FI 128 (a1).toNatClampNeg).toInt ∧ (FI 128 (a1).toNatClampNeg).toInt ≤ 128 := ai_at ai128 rfl (by omega) (by omega)
                refine hw_ifle (tgt := 202) (aX12_isPiece 95 rfl) (by decide) rfl (fun cd262 => ?_) (fun cd262 => ?_)
                · exact hw_L (j247 (h_up (h_up (h_up (h_up FI 132 (x199).toNatClampNeg (g131)) 133 (x199).toNatClampNeg (x202)) 130 (x199).toNatClampNeg (FI 136 (a1).toNatClampNeg)) 134 (x199).toNatClampNeg (FI 138 (a1).toNatClampNeg)) (h_up FL 131 (x199).toNatClampNeg (FL 137 (a1).toNatClampNeg)) (fr_ua (fr_ua (fr_ua (fr_ua fr_rf (by decide) (by decide)) (by decide) (by decide)) (by decide) (by decide)) (by decide) (by decide)) (show h_ai 135 2 0 4096 (h_up (h_up (h_up (h_up FI 132 (x199).toNatClampNeg (g131)) 133 (x199).toNatClampNeg (x202)) 130 (x199).toNatClampNeg (FI 136 (a1).toNatClampNeg)) 134 (x199).toNatClampNeg (FI 138 (a1).toNatClampNeg)) from (show h_ai 135 2 0 4096 (h_up (h_up (h_up (h_up FI 132 (x199).toNatClampNeg (g131)) 133 (x199).toNatClampNeg (x202)) 130 (x199).toNatClampNeg (FI 136 (a1).toNatClampNeg)) 134 (x199).toNatClampNeg (FI 138 (a1).toNatClampNeg)) from (ai_nc (ai_nc (ai_nc (ai_nc ai135 (by decide)) (by decide)) (by decide)) (by decide)))) (show h_ai 133 32 0 4096 (h_up (h_up (h_up (h_up FI 132 (x199).toNatClampNeg (g131)) 133 (x199).toNatClampNeg (x202)) 130 (x199).toNatClampNeg (FI 136 (a1).toNatClampNeg)) 134 (x199).toNatClampNeg (FI 138 (a1).toNatClampNeg)) from (show h_ai 133 32 0 4096 (h_up (h_up (h_up (h_up FI 132 (x199).toNatClampNeg (g131)) 133 (x199).toNatClampNeg (x202)) 130 (x199).toNatClampNeg (FI 136 (a1).toNatClampNeg)) 134 (x199).toNatClampNeg (FI 138 (a1).toNatClampNeg)) from (ai_nc (ai_nc e204 (by decide)) (by decide)))) (show h_ai 132 32 0 4096 (h_up (h_up (h_up (h_up FI 132 (x199).toNatClampNeg (g131)) 133 (x199).toNatClampNeg (x202)) 130 (x199).toNatClampNeg (FI 136 (a1).toNatClampNeg)) 134 (x199).toNatClampNeg (FI 138 (a1).toNatClampNeg)) from (show h_ai 132 32 0 4096 (h_up (h_up (h_up (h_up FI 132 (x199).toNatClampNeg (g131)) 133 (x199).toNatClampNeg (x202)) 130 (x199).toNatClampNeg (FI 136 (a1).toNatClampNeg)) 134 (x199).toNatClampNeg (FI 138 (a1).toNatClampNeg)) from (ai_nc (ai_nc (ai_nc e201 (by decide)) (by decide)) (by decide)))) (show h_ai 129 2 0 16 (h_up (h_up (h_up (h_up FI 132 (x199).toNatClampNeg (g131)) 133 (x199).toNatClampNeg (x202)) 130 (x199).toNatClampNeg (FI 136 (a1).toNatClampNeg)) 134 (x199).toNatClampNeg (FI 138 (a1).toNatClampNeg)) from (show h_ai 129 2 0 16 (h_up (h_up (h_up (h_up FI 132 (x199).toNatClampNeg (g131)) 133 (x199).toNatClampNeg (x202)) 130 (x199).toNatClampNeg (FI 136 (a1).toNatClampNeg)) 134 (x199).toNatClampNeg (FI 138 (a1).toNatClampNeg)) from (ai_nc (ai_nc (ai_nc (ai_nc ai129 (by decide)) (by decide)) (by decide)) (by decide)))) (show h_ai 128 2 0 128 (h_up (h_up (h_up (h_up FI 132 (x199).toNatClampNeg (g131)) 133 (x199).toNatClampNeg (x202)) 130 (x199).toNatClampNeg (FI 136 (a1).toNatClampNeg)) 134 (x199).toNatClampNeg (FI 138 (a1).toNatClampNeg)) from (show h_ai 128 2 0 128 (h_up (h_up (h_up (h_up FI 132 (x199).toNatClampNeg (g131)) 133 (x199).toNatClampNeg (x202)) 130 (x199).toNatClampNeg (FI 136 (a1).toNatClampNeg)) 134 (x199).toNatClampNeg (FI 138 (a1).toNatClampNeg)) from (ai_nc (ai_nc (ai_nc (ai_nc ai128 (by decide)) (by decide)) (by decide)) (by decide)))) (fr_ua fr_rf (by decide) (by decide)) (show rl_h 2 ((h_up (h_up (h_up (h_up FI 132 (x199).toNatClampNeg (g131)) 133 (x199).toNatClampNeg (x202)) 130 (x199).toNatClampNeg (FI 136 (a1).toNatClampNeg)) 134 (x199).toNatClampNeg (FI 138 (a1).toNatClampNeg)) 136) ((h_up FL 131 (x199).toNatClampNeg (FL 137 (a1).toNatClampNeg)) 137) ((h_up (h_up (h_up (h_up FI 132 (x199).toNatClampNeg (g131)) 133 (x199).toNatClampNeg (x202)) 130 (x199).toNatClampNeg (FI 136 (a1).toNatClampNeg)) 134 (x199).toNatClampNeg (FI 138 (a1).toNatClampNeg)) 138) from rel_hold) (show rl_h 32 ((h_up (h_up (h_up (h_up FI 132 (x199).toNatClampNeg (g131)) 133 (x199).toNatClampNeg (x202)) 130 (x199).toNatClampNeg (FI 136 (a1).toNatClampNeg)) 134 (x199).toNatClampNeg (FI 138 (a1).toNatClampNeg)) 130) ((h_up FL 131 (x199).toNatClampNeg (FL 137 (a1).toNatClampNeg)) 131) ((h_up (h_up (h_up (h_up FI 132 (x199).toNatClampNeg (g131)) 133 (x199).toNatClampNeg (x202)) 130 (x199).toNatClampNeg (FI 136 (a1).toNatClampNeg)) 134 (x199).toNatClampNeg (FI 138 (a1).toNatClampNeg)) 134) from rl208) (show (h_up (h_up (h_up (h_up FI 132 (x199).toNatClampNeg (g131)) 133 (x199).toNatClampNeg (x202)) 130 (x199).toNatClampNeg (FI 136 (a1).toNatClampNeg)) 134 (x199).toNatClampNeg (FI 138 (a1).toNatClampNeg)) 135 = FI 135 from rfl) (show (h_up (h_up (h_up (h_up FI 132 (x199).toNatClampNeg (g131)) 133 (x199).toNatClampNeg (x202)) 130 (x199).toNatClampNeg (FI 136 (a1).toNatClampNeg)) 134 (x199).toNatClampNeg (FI 138 (a1).toNatClampNeg)) 129 = FI 129 from rfl)) ⟨rfl, rfl, rfl, trivial⟩
                · refine hw_aloadn (aX12_isPiece 96 rfl) rfl ?_
                  refine hw_get (v := .ref (base + 130)) (aX12_isPiece 97 rfl) wf_RX12_42 (c121 hS) (s121 hS) (by decide) (congrArg (fun r => va_rf (h_rf base r)) (r121_17 hF)) ?_
                  refine xw_iload (aX12_isPiece 98 rfl) rfl ?_
                  refine hw_ic (v := (1 : Int32)) (aX12_isPiece 99 rfl) (by decide) ?_
                  refine hw_iast (aX12_isPiece 100 rfl) (c130 hS) (s130 hS) (h_in e200 (by omega) (by omega)) ?_
                  refine hw_aloadn (aX12_isPiece 101 rfl) rfl ?_
                  refine hw_get (v := .ref (base + 131)) (aX12_isPiece 102 rfl) wf_RX12_45 (c121 hS) (s121 hS) (by decide) (congrArg (fun r => va_rf (h_rf base r)) (r121_18 hF)) ?_
                  refine xw_iload (aX12_isPiece 103 rfl) rfl ?_
                  refine hw_aloadn (aX12_isPiece 104 rfl) rfl ?_
                  refine hw_get (v := .ref (base + 127)) (aX12_isPiece 105 rfl) wf_RX12_33 (c121 hS) (s121 hS) (by decide) (congrArg (fun r => va_rf (h_rf base r)) (r121_14 hF)) ?_
                  refine hw_sp (v := (128 : Int32)) (aX12_isPiece 106 rfl) (by decide) ?_
                  refine xw_iloadn (aX12_isPiece 107 rfl) rfl ?_
                  refine xw_imul (aX12_isPiece 108 rfl) ?_
                  refine hw_tie (A := (128) * ((a1).toInt)) (i_mul (by decide : (128 : Int32).toInt = 128) rfl (by omega) (by omega)) (fun x263 e264 => ?_)
                  refine hw_aloadn (aX12_isPiece 109 rfl) rfl ?_
                  refine hw_get (v := .ref (base + 128)) (aX12_isPiece 110 rfl) wf_RX12_36 (c121 hS) (s121 hS) (by decide) (congrArg (fun r => va_rf (h_rf base r)) (r121_15 hF)) ?_
                  refine xw_iloadn (aX12_isPiece 111 rfl) rfl ?_
                  refine hw_iald (v := FI 128 (a1).toNatClampNeg) (aX12_isPiece 112 rfl) (c128 hS) (s128 hS) (h_in rfl (by omega) (by omega)) rfl ?_
                  have e265 : 0 ≤ (FI 128 (a1).toNatClampNeg).toInt ∧ (FI 128 (a1).toNatClampNeg).toInt ≤ 128 := ai_at ai128 rfl (by omega) (by omega)
                  refine xw_iadd (aX12_isPiece 113 rfl) ?_
                  refine hw_tie (A := ((128) * ((a1).toInt)) + ((FI 128 (a1).toNatClampNeg).toInt)) (i_add e264 rfl (by omega) (by omega)) (fun x266 e267 => ?_)
                  refine hw_ic (v := (1 : Int32)) (aX12_isPiece 114 rfl) (by decide) ?_
                  refine xw_isub (aX12_isPiece 115 rfl) ?_
                  refine hw_tie (A := (((128) * ((a1).toInt)) + ((FI 128 (a1).toNatClampNeg).toInt)) - (1)) (i_sub e267 (by decide : (1 : Int32).toInt = 1) (by omega) (by omega)) (fun x268 e269 => ?_)
                  refine hw_lald (v := FL 127 (x268).toNatClampNeg) (aX12_isPiece 116 rfl) (c127 hS) (s127 hS) (h_in e269 (by omega) (by omega)) rfl ?_
                  refine hw_tl (fun x270 => ?_)
                  have b271 := l_rng x270
                  refine hw_last (aX12_isPiece 117 rfl) (c131 hS) (s131 hS) (h_in e200 (by omega) (by omega)) ?_
                  have rl272 : rl_h 32 ((h_up (h_up (h_up (h_up (h_up FI 132 (x199).toNatClampNeg (g131)) 133 (x199).toNatClampNeg (x202)) 130 (x199).toNatClampNeg (FI 136 (a1).toNatClampNeg)) 134 (x199).toNatClampNeg (FI 138 (a1).toNatClampNeg)) 130 (x199).toNatClampNeg ((1 : Int32))) 130) ((h_up (h_up FL 131 (x199).toNatClampNeg (FL 137 (a1).toNatClampNeg)) 131 (x199).toNatClampNeg (x270)) 131) ((h_up (h_up (h_up (h_up (h_up FI 132 (x199).toNatClampNeg (g131)) 133 (x199).toNatClampNeg (x202)) 130 (x199).toNatClampNeg (FI 136 (a1).toNatClampNeg)) 134 (x199).toNatClampNeg (FI 138 (a1).toNatClampNeg)) 130 (x199).toNatClampNeg ((1 : Int32))) 134) := rl_h_kv rl208 (by decide) (by decide)
                  exact hw_L (j247 (h_up (h_up (h_up (h_up (h_up FI 132 (x199).toNatClampNeg (g131)) 133 (x199).toNatClampNeg (x202)) 130 (x199).toNatClampNeg (FI 136 (a1).toNatClampNeg)) 134 (x199).toNatClampNeg (FI 138 (a1).toNatClampNeg)) 130 (x199).toNatClampNeg ((1 : Int32))) (h_up (h_up FL 131 (x199).toNatClampNeg (FL 137 (a1).toNatClampNeg)) 131 (x199).toNatClampNeg (x270)) (fr_ua (fr_ua (fr_ua (fr_ua (fr_ua fr_rf (by decide) (by decide)) (by decide) (by decide)) (by decide) (by decide)) (by decide) (by decide)) (by decide) (by decide)) (show h_ai 135 2 0 4096 (h_up (h_up (h_up (h_up (h_up FI 132 (x199).toNatClampNeg (g131)) 133 (x199).toNatClampNeg (x202)) 130 (x199).toNatClampNeg (FI 136 (a1).toNatClampNeg)) 134 (x199).toNatClampNeg (FI 138 (a1).toNatClampNeg)) 130 (x199).toNatClampNeg ((1 : Int32))) from (show h_ai 135 2 0 4096 (h_up (h_up (h_up (h_up (h_up FI 132 (x199).toNatClampNeg (g131)) 133 (x199).toNatClampNeg (x202)) 130 (x199).toNatClampNeg (FI 136 (a1).toNatClampNeg)) 134 (x199).toNatClampNeg (FI 138 (a1).toNatClampNeg)) 130 (x199).toNatClampNeg ((1 : Int32))) from (ai_nc (ai_nc (ai_nc (ai_nc (ai_nc ai135 (by decide)) (by decide)) (by decide)) (by decide)) (by decide)))) (show h_ai 133 32 0 4096 (h_up (h_up (h_up (h_up (h_up FI 132 (x199).toNatClampNeg (g131)) 133 (x199).toNatClampNeg (x202)) 130 (x199).toNatClampNeg (FI 136 (a1).toNatClampNeg)) 134 (x199).toNatClampNeg (FI 138 (a1).toNatClampNeg)) 130 (x199).toNatClampNeg ((1 : Int32))) from (show h_ai 133 32 0 4096 (h_up (h_up (h_up (h_up (h_up FI 132 (x199).toNatClampNeg (g131)) 133 (x199).toNatClampNeg (x202)) 130 (x199).toNatClampNeg (FI 136 (a1).toNatClampNeg)) 134 (x199).toNatClampNeg (FI 138 (a1).toNatClampNeg)) 130 (x199).toNatClampNeg ((1 : Int32))) from (ai_nc (ai_nc (ai_nc e204 (by decide)) (by decide)) (by decide)))) (show h_ai 132 32 0 4096 (h_up (h_up (h_up (h_up (h_up FI 132 (x199).toNatClampNeg (g131)) 133 (x199).toNatClampNeg (x202)) 130 (x199).toNatClampNeg (FI 136 (a1).toNatClampNeg)) 134 (x199).toNatClampNeg (FI 138 (a1).toNatClampNeg)) 130 (x199).toNatClampNeg ((1 : Int32))) from (show h_ai 132 32 0 4096 (h_up (h_up (h_up (h_up (h_up FI 132 (x199).toNatClampNeg (g131)) 133 (x199).toNatClampNeg (x202)) 130 (x199).toNatClampNeg (FI 136 (a1).toNatClampNeg)) 134 (x199).toNatClampNeg (FI 138 (a1).toNatClampNeg)) 130 (x199).toNatClampNeg ((1 : Int32))) from (ai_nc (ai_nc (ai_nc (ai_nc e201 (by decide)) (by decide)) (by decide)) (by decide)))) (show h_ai 129 2 0 16 (h_up (h_up (h_up (h_up (h_up FI 132 (x199).toNatClampNeg (g131)) 133 (x199).toNatClampNeg (x202)) 130 (x199).toNatClampNeg (FI 136 (a1).toNatClampNeg)) 134 (x199).toNatClampNeg (FI 138 (a1).toNatClampNeg)) 130 (x199).toNatClampNeg ((1 : Int32))) from (show h_ai 129 2 0 16 (h_up (h_up (h_up (h_up (h_up FI 132 (x199).toNatClampNeg (g131)) 133 (x199).toNatClampNeg (x202)) 130 (x199).toNatClampNeg (FI 136 (a1).toNatClampNeg)) 134 (x199).toNatClampNeg (FI 138 (a1).toNatClampNeg)) 130 (x199).toNatClampNeg ((1 : Int32))) from (ai_nc (ai_nc (ai_nc (ai_nc (ai_nc ai129 (by decide)) (by decide)) (by decide)) (by decide)) (by decide)))) (show h_ai 128 2 0 128 (h_up (h_up (h_up (h_up (h_up FI 132 (x199).toNatClampNeg (g131)) 133 (x199).toNatClampNeg (x202)) 130 (x199).toNatClampNeg (FI 136 (a1).toNatClampNeg)) 134 (x199).toNatClampNeg (FI 138 (a1).toNatClampNeg)) 130 (x199).toNatClampNeg ((1 : Int32))) from (show h_ai 128 2 0 128 (h_up (h_up (h_up (h_up (h_up FI 132 (x199).toNatClampNeg (g131)) 133 (x199).toNatClampNeg (x202)) 130 (x199).toNatClampNeg (FI 136 (a1).toNatClampNeg)) 134 (x199).toNatClampNeg (FI 138 (a1).toNatClampNeg)) 130 (x199).toNatClampNeg ((1 : Int32))) from (ai_nc (ai_nc (ai_nc (ai_nc (ai_nc ai128 (by decide)) (by decide)) (by decide)) (by decide)) (by decide)))) (fr_ua (fr_ua fr_rf (by decide) (by decide)) (by decide) (by decide)) (show rl_h 2 ((h_up (h_up (h_up (h_up (h_up FI 132 (x199).toNatClampNeg (g131)) 133 (x199).toNatClampNeg (x202)) 130 (x199).toNatClampNeg (FI 136 (a1).toNatClampNeg)) 134 (x199).toNatClampNeg (FI 138 (a1).toNatClampNeg)) 130 (x199).toNatClampNeg ((1 : Int32))) 136) ((h_up (h_up FL 131 (x199).toNatClampNeg (FL 137 (a1).toNatClampNeg)) 131 (x199).toNatClampNeg (x270)) 137) ((h_up (h_up (h_up (h_up (h_up FI 132 (x199).toNatClampNeg (g131)) 133 (x199).toNatClampNeg (x202)) 130 (x199).toNatClampNeg (FI 136 (a1).toNatClampNeg)) 134 (x199).toNatClampNeg (FI 138 (a1).toNatClampNeg)) 130 (x199).toNatClampNeg ((1 : Int32))) 138) from rel_hold) (show rl_h 32 ((h_up (h_up (h_up (h_up (h_up FI 132 (x199).toNatClampNeg (g131)) 133 (x199).toNatClampNeg (x202)) 130 (x199).toNatClampNeg (FI 136 (a1).toNatClampNeg)) 134 (x199).toNatClampNeg (FI 138 (a1).toNatClampNeg)) 130 (x199).toNatClampNeg ((1 : Int32))) 130) ((h_up (h_up FL 131 (x199).toNatClampNeg (FL 137 (a1).toNatClampNeg)) 131 (x199).toNatClampNeg (x270)) 131) ((h_up (h_up (h_up (h_up (h_up FI 132 (x199).toNatClampNeg (g131)) 133 (x199).toNatClampNeg (x202)) 130 (x199).toNatClampNeg (FI 136 (a1).toNatClampNeg)) 134 (x199).toNatClampNeg (FI 138 (a1).toNatClampNeg)) 130 (x199).toNatClampNeg ((1 : Int32))) 134) from rl272) (show (h_up (h_up (h_up (h_up (h_up FI 132 (x199).toNatClampNeg (g131)) 133 (x199).toNatClampNeg (x202)) 130 (x199).toNatClampNeg (FI 136 (a1).toNatClampNeg)) 134 (x199).toNatClampNeg (FI 138 (a1).toNatClampNeg)) 130 (x199).toNatClampNeg ((1 : Int32))) 135 = FI 135 from rfl) (show (h_up (h_up (h_up (h_up (h_up FI 132 (x199).toNatClampNeg (g131)) 133 (x199).toNatClampNeg (x202)) 130 (x199).toNatClampNeg (FI 136 (a1).toNatClampNeg)) 134 (x199).toNatClampNeg (FI 138 (a1).toNatClampNeg)) 130 (x199).toNatClampNeg ((1 : Int32))) 129 = FI 129 from rfl)) ⟨rfl, rfl, rfl, trivial⟩
            · refine hw_ic (v := (0 : Int32)) (aX12_isPiece 40 rfl) (by decide) ?_
              refine xw_iret (aX12_isPiece 41 rfl) rfl (by decide) ?_
              have e273 : ((0 : Int32)).toInt = 0 := (by decide : (0 : Int32).toInt = 0)
              exact ⟨(0 : Int32), rfl, _, _, rfl, fr_rf, fr_rf, (by show 0 ≤ ((0 : Int32)).toInt ∧ ((0 : Int32)).toInt ≤ 1; omega), ai128, ai129, ai132, ai133, ai135, (show rl_h 2 ((FI) 136) ((FL) 137) ((FI) 138) from rel_hold), (show rl_h 32 ((FI) 130) ((FL) 131) ((FI) 134) from rel_piece)⟩
          refine hw_ifeq (tgt := 55) (aX12_isPiece 23 rfl) (by decide) rfl (fun cd274 => ?_) (fun cd274 => ?_)
          · have e275 : 0 ≤ (a3).toInt ∧ (a3).toInt ≤ 512 := by omega
            refine hw_bp (v := (8 : Int32)) (aX12_isPiece 27 rfl) (by decide) ?_
            refine xw_lloadn (aX12_isPiece 28 rfl) rfl ?_
            refine xw_l2i (aX12_isPiece 29 rfl) ?_
            refine hw_tie (A := (a3).toInt) (l_2i rfl (by omega) (by omega)) (fun x276 e277 => ?_)
            refine xw_imul (aX12_isPiece 30 rfl) ?_
            refine hw_tie (A := (8) * ((a3).toInt)) (i_mul (by decide : (8 : Int32).toInt = 8) e277 (by omega) (by omega)) (fun x278 e279 => ?_)
            exact hw_L (j189 (x278) (by have := (e279 : (x278).toInt = (8) * ((a3).toInt)); show 0 ≤ (x278).toInt ∧ (x278).toInt ≤ 4096; omega)) ⟨rfl, rfl, rfl, trivial⟩
          · refine xw_lloadn (aX12_isPiece 24 rfl) rfl ?_
            refine xw_l2i (aX12_isPiece 25 rfl) ?_
            refine hw_tie (A := (a3).toInt) (l_2i rfl (by omega) (by omega)) (fun x280 e281 => ?_)
            refine xw_goto (tgt := 60) (aX12_isPiece 26 rfl) (by decide) ?_
            exact hw_L (j189 (x280) (by have := (e281 : (x280).toInt = (a3).toInt); show 0 ≤ (x280).toInt ∧ (x280).toInt ≤ 4096; omega)) ⟨rfl, rfl, rfl, trivial⟩
        · refine hw_ic (v := (0 : Int32)) (aX12_isPiece 20 rfl) (by decide) ?_
          refine xw_iret (aX12_isPiece 21 rfl) rfl (by decide) ?_
          have e282 : ((0 : Int32)).toInt = 0 := (by decide : (0 : Int32).toInt = 0)
          exact ⟨(0 : Int32), rfl, _, _, rfl, fr_rf, fr_rf, (by show 0 ≤ ((0 : Int32)).toInt ∧ ((0 : Int32)).toInt ≤ 1; omega), ai128, ai129, ai132, ai133, ai135, (show rl_h 2 ((FI) 136) ((FL) 137) ((FI) 138) from rel_hold), (show rl_h 32 ((FI) 130) ((FL) 131) ((FI) 134) from rel_piece)⟩
    refine hw_ifeq (tgt := 23) (aX12_isPiece 9 rfl) (by decide) rfl (fun cd283 => ?_) (fun cd283 => ?_)
    · refine xw_ldc2 (aX12_isPiece 12 rfl) wk_RX12_340 ?_
      exact hw_L (j97 ((512 : Int64)) (by have := ((by decide : (512 : Int64).toInt = 512) : ((512 : Int64)).toInt = 512); show 512 ≤ ((512 : Int64)).toInt ∧ ((512 : Int64)).toInt ≤ 4096; omega) (by have := ((by decide : (512 : Int64).toInt = 512) : ((512 : Int64)).toInt = 512); omega) (by have := ((by decide : (512 : Int64).toInt = 512) : ((512 : Int64)).toInt = 512); omega)) ⟨rfl, rfl, rfl, rfl, rfl, trivial⟩
    · refine xw_ldc2 (aX12_isPiece 10 rfl) wk_RX12_218 ?_
      refine xw_goto (tgt := 26) (aX12_isPiece 11 rfl) (by decide) ?_
      exact hw_L (j97 ((4096 : Int64)) (by have := ((by decide : (4096 : Int64).toInt = 4096) : ((4096 : Int64)).toInt = 4096); show 512 ≤ ((4096 : Int64)).toInt ∧ ((4096 : Int64)).toInt ≤ 4096; omega) (by have := ((by decide : (4096 : Int64).toInt = 4096) : ((4096 : Int64)).toInt = 4096); omega) (by have := ((by decide : (4096 : Int64).toInt = 4096) : ((4096 : Int64)).toInt = 4096); omega)) ⟨rfl, rfl, rfl, rfl, rfl, trivial⟩
def nX12_pushes_ : Nat := 0xad200400a72f64882064040a152100b42a1200a015101bad08160600a014101bad06160600a012101bad61c900b42a2f1b00b42a0700b42a1200a09c00111badcd00b42a0800a09700111bad6104162f88200700b42a0e00a09200111bad61202f6470101b0700b42a0f00a38f00111b1600a170101bad856430101b0900a34f101b0f00a130101b
theorem bX12_pushes_ : cX12_pushes_.data.toList.map UInt8.toNat = x_un nX12_pushes_ 136 := by decide +kernel
def iX12_pushes_ : List (Nat × Jvm.ClassFile.Instr × Nat) := [(0, .iload_n 1, 1), (1, .bipush 48, 2), (3, .if_icmp .lt 15, 3), (6, .iload_n 1, 1), (7, .bipush 79, 2), (9, .if_icmp .gt 9, 3), (12, .iload_n 1, 1), (13, .bipush 48, 2), (15, .isub, 1), (16, .i2l, 1), (17, .lreturn, 1), (18, .iload_n 1, 1), (19, .bipush 112, 2), (21, .if_icmp .lt 22, 3), (24, .iload_n 1, 1), (25, .sipush 143, 3), (28, .if_icmp .gt 15, 3), (31, .aload_n 0, 1), (32, .getfield 7, 3), (35, .iload_n 1, 1), (36, .bipush 112, 2), (38, .isub, 1), (39, .laload, 1), (40, .lload_n 2, 1), (41, .ladd, 1), (42, .lreturn, 1), (43, .iload_n 1, 1), (44, .sipush 146, 3), (47, .if_icmp .ne 14, 3), (50, .aload_n 0, 1), (51, .getfield 7, 3), (54, .lload_n 2, 1), (55, .l2i, 1), (56, .laload, 1), (57, .lload 4, 2), (59, .ladd, 1), (60, .lreturn, 1), (61, .iload_n 1, 1), (62, .sipush 151, 3), (65, .if_icmp .ne 8, 3), (68, .aload_n 0, 1), (69, .getfield 205, 3), (72, .lreturn, 1), (73, .iload_n 1, 1), (74, .sipush 156, 3), (77, .if_icmp .ne 18, 3), (80, .aload_n 0, 1), (81, .getfield 7, 3), (84, .aload_n 0, 1), (85, .getfield 27, 3), (88, .laload, 1), (89, .aload_n 0, 1), (90, .getfield 201, 3), (93, .ladd, 1), (94, .lreturn, 1), (95, .iload_n 1, 1), (96, .bipush 18, 2), (98, .if_icmp .ne 6, 3), (101, .lload 6, 2), (103, .lreturn, 1), (104, .iload_n 1, 1), (105, .bipush 20, 2), (107, .if_icmp .ne 6, 3), (110, .lload 8, 2), (112, .lreturn, 1), (113, .iload_n 1, 1), (114, .bipush 21, 2), (116, .if_icmp .ne 18, 3), (119, .aload_n 0, 1), (120, .getfield 33, 3), (123, .iload 10, 2), (125, .iconst 1, 1), (126, .isub, 1), (127, .lload_n 2, 1), (128, .l2i, 1), (129, .isub, 1), (130, .laload, 1), (131, .goto 4, 3), (134, .lload_n 2, 1), (135, .lreturn, 1)]
theorem dX12_pushes_ : x_il nX12_pushes_ 136 iX12_pushes_ = true := by decide +kernel
theorem aX12_pushes_ (k : Nat) {pc : Nat} {i : Jvm.ClassFile.Instr} {len : Nat} (hk : iX12_pushes_[k]? = some (pc, i, len)) : x_at xMM 183 pc i len yX12_pushes_ 11 (some .long) := ⟨cX12_pushes_, rfl, x_il_ok bX12_pushes_ dX12_pushes_ k hk⟩
set_option maxHeartbeats 4000000 in
set_option maxRecDepth 100000 in
theorem m_pushes_ {sk : xK} {base d n sl : Nat} {SH : Nat → Nat × Nat} {FI : Nat → Nat → Int32} {FL : Nat → Nat → Int64} {FR : Nat → Nat → Option Nat} (hS : h_S n SH) (hF : h_FR FR) (a1 : Int32) (a2 : Int64) (a3 : Int64) (a4 : Int64) (a5 : Int64) (a6 : Int32) (g0 : (a1).toInt = 146 → 0 ≤ (a2).toInt ∧ (a2).toInt ≤ 31) (g1 : (a1).toInt = 156 → (FI 121 6).toInt ≠ -1) (g2 : (a1).toInt = 21 → 0 ≤ (a2).toInt ∧ (a2).toInt ≤ 255 ∧ 0 ≤ (a6).toInt - 1 - (a2).toInt) (g3 : 0 ≤ (a6).toInt ∧ (a6).toInt ≤ 256) (g4 : -1 ≤ (FI 121 6).toInt ∧ (FI 121 6).toInt ≤ 31) : hw sk base d none 183 0 [(0, .ref (base + 121)), (1, .int (a1)), (2, .long (a2)), (4, .long (a3)), (6, .long (a4)), (8, .long (a5)), (10, .int (a6))] [] (n, sl, SH, FI, FL, FR) (h_J (fun r s => ∃ FI' FL', s = (n, sl, SH, FI', FL', FR) ∧ FI = FI' ∧ FL = FL')) := by
  have rg_a1 := i_rng a1
  have rg_a2 := l_rng a2
  have rg_a3 := l_rng a3
  have rg_a4 := l_rng a4
  have rg_a5 := l_rng a5
  have rg_a6 := i_rng a6
  refine xw_iloadn (aX12_pushes_ 0 rfl) rfl ?_
  refine hw_bp (v := (48 : Int32)) (aX12_pushes_ 1 rfl) (by decide) ?_
  refine hw_iclt (tgt := 18) (aX12_pushes_ 2 rfl) (by decide) rfl (by decide : (48 : Int32).toInt = 48) (fun cd1 => ?_) (fun cd1 => ?_)
  · refine xw_iloadn (aX12_pushes_ 11 rfl) rfl ?_
    refine hw_bp (v := (112 : Int32)) (aX12_pushes_ 12 rfl) (by decide) ?_
    refine hw_iclt (tgt := 43) (aX12_pushes_ 13 rfl) (by decide) rfl (by decide : (112 : Int32).toInt = 112) (fun cd2 => ?_) (fun cd2 => ?_)
    · refine xw_iloadn (aX12_pushes_ 26 rfl) rfl ?_
      refine hw_sp (v := (146 : Int32)) (aX12_pushes_ 27 rfl) (by decide) ?_
      refine hw_icne (tgt := 61) (aX12_pushes_ 28 rfl) (by decide) rfl (by decide : (146 : Int32).toInt = 146) (fun cd3 => ?_) (fun cd3 => ?_)
      · refine xw_iloadn (aX12_pushes_ 37 rfl) rfl ?_
        refine hw_sp (v := (151 : Int32)) (aX12_pushes_ 38 rfl) (by decide) ?_
        refine hw_icne (tgt := 73) (aX12_pushes_ 39 rfl) (by decide) rfl (by decide : (151 : Int32).toInt = 151) (fun cd4 => ?_) (fun cd4 => ?_)
        · refine xw_iloadn (aX12_pushes_ 43 rfl) rfl ?_
          refine hw_sp (v := (156 : Int32)) (aX12_pushes_ 44 rfl) (by decide) ?_
          refine hw_icne (tgt := 95) (aX12_pushes_ 45 rfl) (by decide) rfl (by decide : (156 : Int32).toInt = 156) (fun cd5 => ?_) (fun cd5 => ?_)
          · refine xw_iloadn (aX12_pushes_ 55 rfl) rfl ?_
            refine hw_bp (v := (18 : Int32)) (aX12_pushes_ 56 rfl) (by decide) ?_
            refine hw_icne (tgt := 104) (aX12_pushes_ 57 rfl) (by decide) rfl (by decide : (18 : Int32).toInt = 18) (fun cd6 => ?_) (fun cd6 => ?_)
            · refine xw_iloadn (aX12_pushes_ 60 rfl) rfl ?_
              refine hw_bp (v := (20 : Int32)) (aX12_pushes_ 61 rfl) (by decide) ?_
              refine hw_icne (tgt := 113) (aX12_pushes_ 62 rfl) (by decide) rfl (by decide : (20 : Int32).toInt = 20) (fun cd7 => ?_) (fun cd7 => ?_)
              · refine xw_iloadn (aX12_pushes_ 65 rfl) rfl ?_
                refine hw_bp (v := (21 : Int32)) (aX12_pushes_ 66 rfl) (by decide) ?_
                refine hw_icne (tgt := 134) (aX12_pushes_ 67 rfl) (by decide) rfl (by decide : (21 : Int32).toInt = 21) (fun cd8 => ?_) (fun cd8 => ?_)
                · refine xw_lloadn (aX12_pushes_ 78 rfl) rfl ?_
                  refine xw_lret (aX12_pushes_ 79 rfl) rfl ?_
                  have e9 : (a2).toInt = (a2).toInt := rfl
                  exact ⟨a2, rfl, _, _, rfl, rfl, rfl⟩
                · refine hw_aloadn (aX12_pushes_ 68 rfl) rfl ?_
                  refine hw_get (v := .ref (base + 127)) (aX12_pushes_ 69 rfl) wf_RX12_33 (c121 hS) (s121 hS) (by decide) (congrArg (fun r => va_rf (h_rf base r)) (r121_14 hF)) ?_
                  refine xw_iload (aX12_pushes_ 70 rfl) rfl ?_
                  refine hw_ic (v := (1 : Int32)) (aX12_pushes_ 71 rfl) (by decide) ?_
                  refine xw_isub (aX12_pushes_ 72 rfl) ?_
                  refine hw_tie (A := ((a6).toInt) - (1)) (i_sub rfl (by decide : (1 : Int32).toInt = 1) (by omega) (by omega)) (fun x10 e11 => ?_)
                  refine xw_lloadn (aX12_pushes_ 73 rfl) rfl ?_
                  have e12 : 0 ≤ (a2).toInt ∧ (a2).toInt ≤ 255 := by omega
                  refine xw_l2i (aX12_pushes_ 74 rfl) ?_
                  refine hw_tie (A := (a2).toInt) (l_2i rfl (by omega) (by omega)) (fun x13 e14 => ?_)
                  refine xw_isub (aX12_pushes_ 75 rfl) ?_
                  refine hw_tie (A := (((a6).toInt) - (1)) - ((a2).toInt)) (i_sub e11 e14 (by omega) (by omega)) (fun x15 e16 => ?_)
                  refine hw_lald (v := FL 127 (x15).toNatClampNeg) (aX12_pushes_ 76 rfl) (c127 hS) (s127 hS) (h_in e16 (by omega) (by omega)) rfl ?_
                  refine hw_tl (fun x17 => ?_)
                  have b18 := l_rng x17
                  refine xw_goto (tgt := 135) (aX12_pushes_ 77 rfl) (by decide) ?_
                  refine xw_lret (aX12_pushes_ 79 rfl) rfl ?_
                  have e19 : (x17).toInt = (x17).toInt := rfl
                  exact ⟨x17, rfl, _, _, rfl, rfl, rfl⟩
              · refine xw_lload (aX12_pushes_ 63 rfl) rfl ?_
                refine xw_lret (aX12_pushes_ 64 rfl) rfl ?_
                have e20 : (a5).toInt = (a5).toInt := rfl
                exact ⟨a5, rfl, _, _, rfl, rfl, rfl⟩
            · refine xw_lload (aX12_pushes_ 58 rfl) rfl ?_
              refine xw_lret (aX12_pushes_ 59 rfl) rfl ?_
              have e21 : (a4).toInt = (a4).toInt := rfl
              exact ⟨a4, rfl, _, _, rfl, rfl, rfl⟩
          · omega
        · omega
      · omega
    · omega
  · refine xw_iloadn (aX12_pushes_ 3 rfl) rfl ?_
    refine hw_bp (v := (79 : Int32)) (aX12_pushes_ 4 rfl) (by decide) ?_
    refine hw_icgt (tgt := 18) (aX12_pushes_ 5 rfl) (by decide) rfl (by decide : (79 : Int32).toInt = 79) (fun cd22 => ?_) (fun cd22 => ?_)
    · refine xw_iloadn (aX12_pushes_ 11 rfl) rfl ?_
      refine hw_bp (v := (112 : Int32)) (aX12_pushes_ 12 rfl) (by decide) ?_
      refine hw_iclt (tgt := 43) (aX12_pushes_ 13 rfl) (by decide) rfl (by decide : (112 : Int32).toInt = 112) (fun cd23 => ?_) (fun cd23 => ?_)
      · refine xw_iloadn (aX12_pushes_ 26 rfl) rfl ?_
        refine hw_sp (v := (146 : Int32)) (aX12_pushes_ 27 rfl) (by decide) ?_
        refine hw_icne (tgt := 61) (aX12_pushes_ 28 rfl) (by decide) rfl (by decide : (146 : Int32).toInt = 146) (fun cd24 => ?_) (fun cd24 => ?_)
        · refine xw_iloadn (aX12_pushes_ 37 rfl) rfl ?_
          refine hw_sp (v := (151 : Int32)) (aX12_pushes_ 38 rfl) (by decide) ?_
          refine hw_icne (tgt := 73) (aX12_pushes_ 39 rfl) (by decide) rfl (by decide : (151 : Int32).toInt = 151) (fun cd25 => ?_) (fun cd25 => ?_)
          · refine xw_iloadn (aX12_pushes_ 43 rfl) rfl ?_
            refine hw_sp (v := (156 : Int32)) (aX12_pushes_ 44 rfl) (by decide) ?_
            refine hw_icne (tgt := 95) (aX12_pushes_ 45 rfl) (by decide) rfl (by decide : (156 : Int32).toInt = 156) (fun cd26 => ?_) (fun cd26 => ?_)
            · refine xw_iloadn (aX12_pushes_ 55 rfl) rfl ?_
              refine hw_bp (v := (18 : Int32)) (aX12_pushes_ 56 rfl) (by decide) ?_
              refine hw_icne (tgt := 104) (aX12_pushes_ 57 rfl) (by decide) rfl (by decide : (18 : Int32).toInt = 18) (fun cd27 => ?_) (fun cd27 => ?_)
              · refine xw_iloadn (aX12_pushes_ 60 rfl) rfl ?_
                refine hw_bp (v := (20 : Int32)) (aX12_pushes_ 61 rfl) (by decide) ?_
                refine hw_icne (tgt := 113) (aX12_pushes_ 62 rfl) (by decide) rfl (by decide : (20 : Int32).toInt = 20) (fun cd28 => ?_) (fun cd28 => ?_)
                · refine xw_iloadn (aX12_pushes_ 65 rfl) rfl ?_
                  refine hw_bp (v := (21 : Int32)) (aX12_pushes_ 66 rfl) (by decide) ?_
                  refine hw_icne (tgt := 134) (aX12_pushes_ 67 rfl) (by decide) rfl (by decide : (21 : Int32).toInt = 21) (fun cd29 => ?_) (fun cd29 => ?_)
                  · refine xw_lloadn (aX12_pushes_ 78 rfl) rfl ?_
                    refine xw_lret (aX12_pushes_ 79 rfl) rfl ?_
                    have e30 : (a2).toInt = (a2).toInt := rfl
                    exact ⟨a2, rfl, _, _, rfl, rfl, rfl⟩
                  · omega
                · omega
              · omega
            · omega
          · omega
        · omega
      · refine xw_iloadn (aX12_pushes_ 14 rfl) rfl ?_
        refine hw_sp (v := (143 : Int32)) (aX12_pushes_ 15 rfl) (by decide) ?_
        refine hw_icgt (tgt := 43) (aX12_pushes_ 16 rfl) (by decide) rfl (by decide : (143 : Int32).toInt = 143) (fun cd31 => ?_) (fun cd31 => ?_)
        · refine xw_iloadn (aX12_pushes_ 26 rfl) rfl ?_
          refine hw_sp (v := (146 : Int32)) (aX12_pushes_ 27 rfl) (by decide) ?_
          refine hw_icne (tgt := 61) (aX12_pushes_ 28 rfl) (by decide) rfl (by decide : (146 : Int32).toInt = 146) (fun cd32 => ?_) (fun cd32 => ?_)
          · refine xw_iloadn (aX12_pushes_ 37 rfl) rfl ?_
            refine hw_sp (v := (151 : Int32)) (aX12_pushes_ 38 rfl) (by decide) ?_
            refine hw_icne (tgt := 73) (aX12_pushes_ 39 rfl) (by decide) rfl (by decide : (151 : Int32).toInt = 151) (fun cd33 => ?_) (fun cd33 => ?_)
            · refine xw_iloadn (aX12_pushes_ 43 rfl) rfl ?_
              refine hw_sp (v := (156 : Int32)) (aX12_pushes_ 44 rfl) (by decide) ?_
              refine hw_icne (tgt := 95) (aX12_pushes_ 45 rfl) (by decide) rfl (by decide : (156 : Int32).toInt = 156) (fun cd34 => ?_) (fun cd34 => ?_)
              · refine xw_iloadn (aX12_pushes_ 55 rfl) rfl ?_
                refine hw_bp (v := (18 : Int32)) (aX12_pushes_ 56 rfl) (by decide) ?_
                refine hw_icne (tgt := 104) (aX12_pushes_ 57 rfl) (by decide) rfl (by decide : (18 : Int32).toInt = 18) (fun cd35 => ?_) (fun cd35 => ?_)
                · refine xw_iloadn (aX12_pushes_ 60 rfl) rfl ?_
                  refine hw_bp (v := (20 : Int32)) (aX12_pushes_ 61 rfl) (by decide) ?_
                  refine hw_icne (tgt := 113) (aX12_pushes_ 62 rfl) (by decide) rfl (by decide : (20 : Int32).toInt = 20) (fun cd36 => ?_) (fun cd36 => ?_)
                  · refine xw_iloadn (aX12_pushes_ 65 rfl) rfl ?_
                    refine hw_bp (v := (21 : Int32)) (aX12_pushes_ 66 rfl) (by decide) ?_
                    refine hw_icne (tgt := 134) (aX12_pushes_ 67 rfl) (by decide) rfl (by decide : (21 : Int32).toInt = 21) (fun cd37 => ?_) (fun cd37 => ?_)
                    · refine xw_lloadn (aX12_pushes_ 78 rfl) rfl ?_
                      refine xw_lret (aX12_pushes_ 79 rfl) rfl ?_
                      have e38 : (a2).toInt = (a2).toInt := rfl
                      exact ⟨a2, rfl, _, _, rfl, rfl, rfl⟩
                    · omega
                  · omega
                · omega
              · refine hw_aloadn (aX12_pushes_ 46 rfl) rfl ?_
                refine hw_get (v := .ref (base + 122)) (aX12_pushes_ 47 rfl) wf_RX12_7 (c121 hS) (s121 hS) (by decide) (congrArg (fun r => va_rf (h_rf base r)) (r121_1 hF)) ?_
                refine hw_aloadn (aX12_pushes_ 48 rfl) rfl ?_
                refine hw_get (v := .int (FI 121 6)) (aX12_pushes_ 49 rfl) wf_RX12_27 (c121 hS) (s121 hS) (by decide) (congrArg Value.int (show FI 121 6 = FI 121 6 from rfl)) ?_
                have e39 : 0 ≤ (FI 121 6).toInt ∧ (FI 121 6).toInt ≤ 31 := by omega
                refine hw_lald (v := FL 122 (FI 121 6).toNatClampNeg) (aX12_pushes_ 50 rfl) (c122 hS) (s122 hS) (h_in rfl (by omega) (by omega)) rfl ?_
                refine hw_tl (fun x40 => ?_)
                have b41 := l_rng x40
                refine hw_aloadn (aX12_pushes_ 51 rfl) rfl ?_
                refine hw_get (v := .long (FL 121 7)) (aX12_pushes_ 52 rfl) wf_RX12_201 (c121 hS) (s121 hS) (by decide) (congrArg Value.long (show FL 121 7 = FL 121 7 from rfl)) ?_
                have e42 := l_rng (FL 121 7)
                refine xw_ladd (aX12_pushes_ 53 rfl) ?_
                refine hw_tl (fun x43 => ?_)
                have b44 := l_rng x43
                refine xw_lret (aX12_pushes_ 54 rfl) rfl ?_
                have e45 : (x43).toInt = (x43).toInt := rfl
                exact ⟨x43, rfl, _, _, rfl, rfl, rfl⟩
            · refine hw_aloadn (aX12_pushes_ 40 rfl) rfl ?_
              refine hw_get (v := .long (FL 121 8)) (aX12_pushes_ 41 rfl) wf_RX12_205 (c121 hS) (s121 hS) (by decide) (congrArg Value.long (show FL 121 8 = FL 121 8 from rfl)) ?_
              have e46 := l_rng (FL 121 8)
              refine xw_lret (aX12_pushes_ 42 rfl) rfl ?_
              have e47 : (FL 121 8).toInt = (FL 121 8).toInt := rfl
              exact ⟨FL 121 8, rfl, _, _, rfl, rfl, rfl⟩
          · refine hw_aloadn (aX12_pushes_ 29 rfl) rfl ?_
            refine hw_get (v := .ref (base + 122)) (aX12_pushes_ 30 rfl) wf_RX12_7 (c121 hS) (s121 hS) (by decide) (congrArg (fun r => va_rf (h_rf base r)) (r121_1 hF)) ?_
            refine xw_lloadn (aX12_pushes_ 31 rfl) rfl ?_
            have e48 : 0 ≤ (a2).toInt ∧ (a2).toInt ≤ 31 := by omega
            refine xw_l2i (aX12_pushes_ 32 rfl) ?_
            refine hw_tie (A := (a2).toInt) (l_2i rfl (by omega) (by omega)) (fun x49 e50 => ?_)
            refine hw_lald (v := FL 122 (x49).toNatClampNeg) (aX12_pushes_ 33 rfl) (c122 hS) (s122 hS) (h_in e50 (by omega) (by omega)) rfl ?_
            refine hw_tl (fun x51 => ?_)
            have b52 := l_rng x51
            refine xw_lload (aX12_pushes_ 34 rfl) rfl ?_
            refine xw_ladd (aX12_pushes_ 35 rfl) ?_
            refine hw_tl (fun x53 => ?_)
            have b54 := l_rng x53
            refine xw_lret (aX12_pushes_ 36 rfl) rfl ?_
            have e55 : (x53).toInt = (x53).toInt := rfl
            exact ⟨x53, rfl, _, _, rfl, rfl, rfl⟩
        · refine hw_aloadn (aX12_pushes_ 17 rfl) rfl ?_
          refine hw_get (v := .ref (base + 122)) (aX12_pushes_ 18 rfl) wf_RX12_7 (c121 hS) (s121 hS) (by decide) (congrArg (fun r => va_rf (h_rf base r)) (r121_1 hF)) ?_
          refine xw_iloadn (aX12_pushes_ 19 rfl) rfl ?_
          refine hw_bp (v := (112 : Int32)) (aX12_pushes_ 20 rfl) (by decide) ?_
          refine xw_isub (aX12_pushes_ 21 rfl) ?_
          refine hw_tie (A := ((a1).toInt) - (112)) (i_sub rfl (by decide : (112 : Int32).toInt = 112) (by omega) (by omega)) (fun x56 e57 => ?_)
          refine hw_lald (v := FL 122 (x56).toNatClampNeg) (aX12_pushes_ 22 rfl) (c122 hS) (s122 hS) (h_in e57 (by omega) (by omega)) rfl ?_
          refine hw_tl (fun x58 => ?_)
          have b59 := l_rng x58
          refine xw_lloadn (aX12_pushes_ 23 rfl) rfl ?_
          refine xw_ladd (aX12_pushes_ 24 rfl) ?_
          refine hw_tl (fun x60 => ?_)
          have b61 := l_rng x60
          refine xw_lret (aX12_pushes_ 25 rfl) rfl ?_
          have e62 : (x60).toInt = (x60).toInt := rfl
          exact ⟨x60, rfl, _, _, rfl, rfl, rfl⟩
    · refine xw_iloadn (aX12_pushes_ 6 rfl) rfl ?_
      refine hw_bp (v := (48 : Int32)) (aX12_pushes_ 7 rfl) (by decide) ?_
      refine xw_isub (aX12_pushes_ 8 rfl) ?_
      refine hw_tie (A := ((a1).toInt) - (48)) (i_sub rfl (by decide : (48 : Int32).toInt = 48) (by omega) (by omega)) (fun x63 e64 => ?_)
      refine xw_i2l (aX12_pushes_ 9 rfl) ?_
      refine hw_tle (A := ((a1).toInt) - (48)) (i_2l e64) (fun x65 e66 => ?_)
      refine xw_lret (aX12_pushes_ 10 rfl) rfl ?_
      have e67 : (x65).toInt = ((a1).toInt) - (48) := e66
      exact ⟨x65, rfl, _, _, rfl, rfl, rfl⟩
