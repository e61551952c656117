def nX7_readWord : Nat := 0xb12c00b55100b62a2a2600b5601b3600b42a2ad7ffa70101840900994400b83900b6601b3600b42a2a13009a3d00b83900b6601b3600b42a2a2900a208101b3c03
theorem bX7_readWord : cX7_readWord.data.toList.map UInt8.toNat = x_un nX7_readWord 65 := by decide +kernel
def iX7_readWord : List (Nat × Jvm.ClassFile.Instr × Nat) := [(0, .iconst 0, 1), (1, .istore_n 1, 1), (2, .iload_n 1, 1), (3, .bipush 8, 2), (5, .if_icmp .ge 41, 3), (8, .aload_n 0, 1), (9, .aload_n 0, 1), (10, .getfield 54, 3), (13, .iload_n 1, 1), (14, .iadd, 1), (15, .invokevirtual 57, 3), (18, .invokestatic 61, 3), (21, .ifCond .ne 19, 3), (24, .aload_n 0, 1), (25, .aload_n 0, 1), (26, .getfield 54, 3), (29, .iload_n 1, 1), (30, .iadd, 1), (31, .invokevirtual 57, 3), (34, .invokestatic 68, 3), (37, .ifCond .eq 9, 3), (40, .iinc 1 1, 3), (43, .goto (-41), 3), (46, .aload_n 0, 1), (47, .aload_n 0, 1), (48, .getfield 54, 3), (51, .iload_n 1, 1), (52, .iadd, 1), (53, .putfield 38, 3), (56, .aload_n 0, 1), (57, .aload_n 0, 1), (58, .invokevirtual 81, 3), (61, .putfield 44, 3), (64, .return_, 1)]
theorem dX7_readWord : x_il nX7_readWord 65 iX7_readWord = true := by decide +kernel
theorem aX7_readWord (k : Nat) {pc : Nat} {i : Jvm.ClassFile.Instr} {len : Nat} (hk : iX7_readWord[k]? = some (pc, i, len)) : x_at xMM 70 pc i len yX7_readWord 2 none := ⟨cX7_readWord, rfl, x_il_ok bX7_readWord dX7_readWord k hk⟩
set_option maxHeartbeats 4000000 in
set_option maxRecDepth 100000 in
theorem k_X7_readWord {sk : xK} {base d n sl : Nat} {SH : Nat → Nat × Nat} {FI : Nat → Nat → Int32} {FL : Nat → Nat → Int64} {FR : Nat → Nat → Option Nat} (hS : h_S n SH) (hF : h_FR FR) (hI : g_I FI) (hR : g_R n SH FR) (g0 : (FI 111 7).toInt < (FI 111 6).toInt) (gg0 : 97 ≤ (g_let SH FI FR (FI 111 7)).toInt ∧ (g_let SH FI FR (FI 111 7)).toInt ≤ 122) : hw sk base (d + 6) none 70 0 [(0, .ref (base + 111))] [] (n, sl, SH, FI, FL, FR) (h_V (fun s => ∃ FI', s = (n, sl, SH, FI', FL, FR) ∧ g_I FI' ∧ g_fr n (shd SH) [(111, 8), (111, 9)] [] [] FI FI' ∧ ((FI 111 7).toInt + 1 ≤ (FI' 111 8).toInt ∧ (FI' 111 8).toInt ≤ (FI 111 7).toInt + 8) ∧ (4 ≤ (FI' 111 9).toInt))) := by
  obtain ⟨x1, h2⟩ : ∃ y, FI 111 7 = y := ⟨_, rfl⟩
  have h2l := congrArg Int32.toInt h2
  have b3 := gI_111_7 hI; rw [h2] at b3
  obtain ⟨x4, h5⟩ : ∃ y, FI 111 6 = y := ⟨_, rfl⟩
  have h5l := congrArg Int32.toInt h5
  have b6 := gI_111_6 hI; rw [h5] at b6
  obtain ⟨x7, h8⟩ : ∃ y, FI 111 8 = y := ⟨_, rfl⟩
  have h8l := congrArg Int32.toInt h8
  have b9 := gI_111_8 hI; rw [h8] at b9
  obtain ⟨x10, h11⟩ : ∃ y, FI 111 9 = y := ⟨_, rfl⟩
  have h11l := congrArg Int32.toInt h11
  have := i_rng x10
  refine hw_ic (v := (0 : Int32)) (aX7_readWord 0 rfl) (by decide) ?_
  refine xw_istoren (L2 := [(1, .int ((0 : Int32))), (0, .ref (base + 111))]) (aX7_readWord 1 rfl) (by decide) rfl ?_
  have lp14 : ∀ (m : Nat) (y1 : Int32), (0 ≤ (y1).toInt ∧ (y1).toInt ≤ 8) → ((FI 111 7).toInt + (y1).toInt ≤ (FI 111 6).toInt) → 8 - (y1).toInt < m → hw sk base (d + 6) none 70 2 [(1, .int (y1)), (0, .ref (base + 111))] [] (n, sl, SH, FI, FL, FR) (h_V (fun s => ∃ FI', s = (n, sl, SH, FI', FL, FR) ∧ g_I FI' ∧ g_fr n (shd SH) [(111, 8), (111, 9)] [] [] FI FI' ∧ ((FI 111 7).toInt + 1 ≤ (FI' 111 8).toInt ∧ (FI' 111 8).toInt ≤ (FI 111 7).toInt + 8) ∧ (4 ≤ (FI' 111 9).toInt))) := by
    intro m
    induction m with
    | zero => intro y1 iv12 iv13 hm; omega
    | succ m ih =>
      intro y1 iv12 iv13 hm
      have rg_y1 := i_rng y1
      refine xw_iloadn (aX7_readWord 2 rfl) rfl ?_
      refine hw_bp (v := (8 : Int32)) (aX7_readWord 3 rfl) (by decide) ?_
      refine hw_icge (tgt := 46) (aX7_readWord 4 rfl) (by decide) rfl (by decide : (8 : Int32).toInt = 8) (fun cd15 => ?_) (fun cd15 => ?_)
      · have hl1 : 1 ≤ (y1).toInt := by omega
        refine hw_aloadn (aX7_readWord 23 rfl) rfl ?_
        refine hw_aloadn (aX7_readWord 24 rfl) rfl ?_
        refine hw_get (v := .int (x1)) (aX7_readWord 25 rfl) wf_RX7_54 (c111 hS) (s111 hS) (by decide) (congrArg Value.int (show FI 111 7 = x1 from h2)) ?_
        refine xw_iloadn (aX7_readWord 26 rfl) rfl ?_
        refine xw_iadd (aX7_readWord 27 rfl) ?_
        refine hw_tie (A := ((x1).toInt) + ((y1).toInt)) (i_add rfl rfl (by omega) (by omega)) (fun x16 e17 => ?_)
        refine hv_puti (aX7_readWord 28 rfl) wf_RX7_38 (c111 hS) (s111 hS) (by decide) rfl rfl (fun FI18 u19 => ?_)
        have hI20 : g_I FI18 := gU_111_8 hI u19 (by have := (e17 : (x16).toInt = ((x1).toInt) + ((y1).toInt)); omega) (by have := (e17 : (x16).toInt = ((x1).toInt) + ((y1).toInt)); omega)
        refine hw_aloadn (aX7_readWord 29 rfl) rfl ?_
        refine hw_aloadn (aX7_readWord 30 rfl) rfl ?_
        refine hw_callV (Bs := []) (rest := [.ref (base + 111)]) (aX7_readWord 31 rfl) wc_RX7_81 (by decide) rfl wi_yX7_wordKind wv_yX7_wordKind (c111 hS) (s111 hS) rfl rfl rfl (Nat.le_of_ble_eq_true rfl) (Nat.le_of_ble_eq_true rfl) (k_wordKind (d := d) hS hF hI20 hR ) (fun v21 sv22 p23 => ?_)
        obtain ⟨r24, rfl, rfl, t28⟩ := p23
        have rg_r24 := i_rng r24
        show hw sk base _ _ _ _ _ [.int (r24), .ref (base + 111)] _ _
        refine hv_puti (aX7_readWord 32 rfl) wf_RX7_44 (c111 hS) (s111 hS) (by decide) rfl rfl (fun FI31 u32 => ?_)
        have hI33 : g_I FI31 := gU_F hI20 u32 rfl
        refine xw_vret (aX7_readWord 33 rfl) rfl ?_
        exact ⟨rfl, FI31, rfl, hI33, (gf_f (gf_f gf_rf u19 (by decide)) u32 (by decide)), (by have := congrArg Int32.toInt (show FI31 111 8 = x16 from (up_k u32 (by decide) (up_eq u19))); have := (e17 : (x16).toInt = ((x1).toInt) + ((y1).toInt)); omega), (by have := congrArg Int32.toInt (show FI31 111 9 = r24 from up_eq u32); omega)⟩
      · refine hw_aloadn (aX7_readWord 5 rfl) rfl ?_
        refine hw_aloadn (aX7_readWord 6 rfl) rfl ?_
        refine hw_get (v := .int (x1)) (aX7_readWord 7 rfl) wf_RX7_54 (c111 hS) (s111 hS) (by decide) (congrArg Value.int (show FI 111 7 = x1 from h2)) ?_
        refine xw_iloadn (aX7_readWord 8 rfl) rfl ?_
        refine xw_iadd (aX7_readWord 9 rfl) ?_
        refine hw_tie (A := ((x1).toInt) + ((y1).toInt)) (i_add rfl rfl (by omega) (by omega)) (fun x34 e35 => ?_)
        refine hw_callV (Bs := [.int (x34)]) (rest := []) (aX7_readWord 10 rfl) wc_RX7_57 (by decide) rfl wi_yX7_letter wv_yX7_letter (c111 hS) (s111 hS) rfl rfl rfl (Nat.le_of_ble_eq_true rfl) (Nat.le_of_ble_eq_true rfl) (k_letter2 (d := d + 5) hS hF hI hR (x34) ) (fun v36 sv37 p38 => ?_)
        have := (e35 : (x34).toInt = ((x1).toInt) + ((y1).toInt))
        have := (e35 : (x34).toInt = ((x1).toInt) + ((y1).toInt))
        have := congrArg Int32.toInt (show FI 111 6 = x4 from h5)
        obtain ⟨r39, rfl, rfl, t43, u44⟩ := p38
        have rg_r39 := i_rng r39
        show hw sk base _ _ _ _ _ [.int (r39)] _ _
        refine hw_callS (As := [.int (r39)]) (rest := []) (aX7_readWord 11 rfl) wc_RX7_61 (by decide) rfl wt_yX7_isSmall rfl rfl (Nat.le_of_ble_eq_true rfl) (Nat.le_of_ble_eq_true rfl) (k_isSmall2 (d := d + 5) hS hF hI hR (r39) ) (fun v47 sv48 p49 => ?_)
        obtain ⟨r50, rfl, rfl, t54, t55, t56⟩ := p49
        show hw sk base _ _ _ _ _ [.int (r50)] _ _
        refine hw_ifne (tgt := 40) (aX7_readWord 12 rfl) (by decide) rfl (fun cd59 => ?_) (fun cd59 => ?_)
        · replace t54 := t54 (by omega)
          clear t55
          obtain ⟨x60, q62⟩ : ∃ y : Int32, (y1) + Int32.ofInt (1) = y := ⟨_, rfl⟩
          have e61 : (x60).toInt = (y1).toInt + (1) := by rw [← q62]; exact i_add rfl (by decide) (by omega) (by omega)
          refine xw_iinc (L2 := [(1, .int (x60)), (0, .ref (base + 111))]) (aX7_readWord 21 rfl) rfl (by decide) (by rw [q62]; rfl) ?_
          refine xw_goto (tgt := 2) (aX7_readWord 22 rfl) (by decide) ?_
          exact hw_L (ih (x60) (by have := (e61 : (x60).toInt = (y1).toInt + (1)); omega) (by have := (e61 : (x60).toInt = (y1).toInt + (1)); omega) (by have := (e61 : (x60).toInt = (y1).toInt + (1)); omega)) ⟨rfl, rfl, trivial⟩
        · clear t54
          replace t55 := t55 (by omega)
          refine hw_aloadn (aX7_readWord 13 rfl) rfl ?_
          refine hw_aloadn (aX7_readWord 14 rfl) rfl ?_
          refine hw_get (v := .int (x1)) (aX7_readWord 15 rfl) wf_RX7_54 (c111 hS) (s111 hS) (by decide) (congrArg Value.int (show FI 111 7 = x1 from h2)) ?_
          refine xw_iloadn (aX7_readWord 16 rfl) rfl ?_
          refine xw_iadd (aX7_readWord 17 rfl) ?_
          refine hw_tie (A := ((x1).toInt) + ((y1).toInt)) (i_add rfl rfl (by omega) (by omega)) (fun x63 e64 => ?_)
          refine hw_callV (Bs := [.int (x63)]) (rest := []) (aX7_readWord 18 rfl) wc_RX7_57 (by decide) rfl wi_yX7_letter wv_yX7_letter (c111 hS) (s111 hS) rfl rfl rfl (Nat.le_of_ble_eq_true rfl) (Nat.le_of_ble_eq_true rfl) (k_letter2 (d := d + 5) hS hF hI hR (x63) ) (fun v65 sv66 p67 => ?_)
          have := (e64 : (x63).toInt = ((x1).toInt) + ((y1).toInt))
          have := (e64 : (x63).toInt = ((x1).toInt) + ((y1).toInt))
          have := congrArg Int32.toInt (show FI 111 6 = x4 from h5)
          obtain ⟨r68, rfl, rfl, t72, u73⟩ := p67
          have rg_r68 := i_rng r68
          show hw sk base _ _ _ _ _ [.int (r68)] _ _
          refine hw_callS (As := [.int (r68)]) (rest := []) (aX7_readWord 19 rfl) wc_RX7_68 (by decide) rfl wt_yX7_isDigit rfl rfl (Nat.le_of_ble_eq_true rfl) (Nat.le_of_ble_eq_true rfl) (k_isDigit2 (d := d + 5) hS hF hI hR (r68) ) (fun v76 sv77 p78 => ?_)
          obtain ⟨r79, rfl, rfl, t83, t84, t85⟩ := p78
          show hw sk base _ _ _ _ _ [.int (r79)] _ _
          refine hw_ifeq (tgt := 46) (aX7_readWord 20 rfl) (by decide) rfl (fun cd88 => ?_) (fun cd88 => ?_)
          · clear t83
            replace t84 := t84 (by omega)
            have hl1 : 1 ≤ (y1).toInt := by { by_cases hz : (y1).toInt = 0; { exfalso; have hx : x34 = FI 111 7 := i_eq (by have := (e35 : (x34).toInt = ((x1).toInt) + ((y1).toInt)); have := congrArg Int32.toInt (show FI 111 7 = x1 from h2); omega); have hg := gg0; rw [← hx, ← u44] at hg; omega }; { omega } }
            refine hw_aloadn (aX7_readWord 23 rfl) rfl ?_
            refine hw_aloadn (aX7_readWord 24 rfl) rfl ?_
            refine hw_get (v := .int (x1)) (aX7_readWord 25 rfl) wf_RX7_54 (c111 hS) (s111 hS) (by decide) (congrArg Value.int (show FI 111 7 = x1 from h2)) ?_
            refine xw_iloadn (aX7_readWord 26 rfl) rfl ?_
            refine xw_iadd (aX7_readWord 27 rfl) ?_
            refine hw_tie (A := ((x1).toInt) + ((y1).toInt)) (i_add rfl rfl (by omega) (by omega)) (fun x89 e90 => ?_)
            refine hv_puti (aX7_readWord 28 rfl) wf_RX7_38 (c111 hS) (s111 hS) (by decide) rfl rfl (fun FI91 u92 => ?_)
            have hI93 : g_I FI91 := gU_111_8 hI u92 (by have := (e90 : (x89).toInt = ((x1).toInt) + ((y1).toInt)); omega) (by have := (e90 : (x89).toInt = ((x1).toInt) + ((y1).toInt)); omega)
            refine hw_aloadn (aX7_readWord 29 rfl) rfl ?_
            refine hw_aloadn (aX7_readWord 30 rfl) rfl ?_
            refine hw_callV (Bs := []) (rest := [.ref (base + 111)]) (aX7_readWord 31 rfl) wc_RX7_81 (by decide) rfl wi_yX7_wordKind wv_yX7_wordKind (c111 hS) (s111 hS) rfl rfl rfl (Nat.le_of_ble_eq_true rfl) (Nat.le_of_ble_eq_true rfl) (k_wordKind (d := d) hS hF hI93 hR ) (fun v94 sv95 p96 => ?_)
            obtain ⟨r97, rfl, rfl, t101⟩ := p96
            have rg_r97 := i_rng r97
            show hw sk base _ _ _ _ _ [.int (r97), .ref (base + 111)] _ _
            refine hv_puti (aX7_readWord 32 rfl) wf_RX7_44 (c111 hS) (s111 hS) (by decide) rfl rfl (fun FI104 u105 => ?_)
            have hI106 : g_I FI104 := gU_F hI93 u105 rfl
            refine xw_vret (aX7_readWord 33 rfl) rfl ?_
            exact ⟨rfl, FI104, rfl, hI106, (gf_f (gf_f gf_rf u92 (by decide)) u105 (by decide)), (by have := congrArg Int32.toInt (show FI104 111 8 = x89 from (up_k u105 (by decide) (up_eq u92))); have := (e90 : (x89).toInt = ((x1).toInt) + ((y1).toInt)); omega), (by have := congrArg Int32.toInt (show FI104 111 9 = r97 from up_eq u105); omega)⟩
          · replace t83 := t83 (by omega)
            clear t84
            obtain ⟨x107, q109⟩ : ∃ y : Int32, (y1) + Int32.ofInt (1) = y := ⟨_, rfl⟩
            have e108 : (x107).toInt = (y1).toInt + (1) := by rw [← q109]; exact i_add rfl (by decide) (by omega) (by omega)
            refine xw_iinc (L2 := [(1, .int (x107)), (0, .ref (base + 111))]) (aX7_readWord 21 rfl) rfl (by decide) (by rw [q109]; rfl) ?_
            refine xw_goto (tgt := 2) (aX7_readWord 22 rfl) (by decide) ?_
            exact hw_L (ih (x107) (by have := (e108 : (x107).toInt = (y1).toInt + (1)); omega) (by have := (e108 : (x107).toInt = (y1).toInt + (1)); omega) (by have := (e108 : (x107).toInt = (y1).toInt + (1)); omega)) ⟨rfl, rfl, trivial⟩
  exact hw_L (lp14 ((8 - 0 : Int).toNat + 1) ((0 : Int32)) (by have := ((by decide : (0 : Int32).toInt = 0) : ((0 : Int32)).toInt = 0); omega) (by have := ((by decide : (0 : Int32).toInt = 0) : ((0 : Int32)).toInt = 0); omega) (by have := ((by decide : (0 : Int32).toInt = 0) : ((0 : Int32)).toInt = 0); omega)) ⟨rfl, rfl, trivial⟩
def nX7_readNumber : Nat := 0xb12c00b5080400a7060700a35a101c0d00a141101c0f009a3d00b81c16009a4400b81c2a3d3900b62600b42a2a2600b5601b3600b42a2accffa70101843200b561856430103900b6601b3600b42a2a697600143200b42a2a2400994400b83900b6601b3600b42a2a3400a212101b3c033200b5092a
theorem bX7_readNumber : cX7_readNumber.data.toList.map UInt8.toNat = x_un nX7_readNumber 117 := by decide +kernel
def iX7_readNumber : List (Nat × Jvm.ClassFile.Instr × Nat) := [(0, .aload_n 0, 1), (1, .lconst 0, 1), (2, .putfield 50, 3), (5, .iconst 0, 1), (6, .istore_n 1, 1), (7, .iload_n 1, 1), (8, .bipush 18, 2), (10, .if_icmp .ge 52, 3), (13, .aload_n 0, 1), (14, .aload_n 0, 1), (15, .getfield 54, 3), (18, .iload_n 1, 1), (19, .iadd, 1), (20, .invokevirtual 57, 3), (23, .invokestatic 68, 3), (26, .ifCond .eq 36, 3), (29, .aload_n 0, 1), (30, .aload_n 0, 1), (31, .getfield 50, 3), (34, .ldc2_w 118, 3), (37, .lmul, 1), (38, .aload_n 0, 1), (39, .aload_n 0, 1), (40, .getfield 54, 3), (43, .iload_n 1, 1), (44, .iadd, 1), (45, .invokevirtual 57, 3), (48, .bipush 48, 2), (50, .isub, 1), (51, .i2l, 1), (52, .ladd, 1), (53, .putfield 50, 3), (56, .iinc 1 1, 3), (59, .goto (-52), 3), (62, .aload_n 0, 1), (63, .aload_n 0, 1), (64, .getfield 54, 3), (67, .iload_n 1, 1), (68, .iadd, 1), (69, .putfield 38, 3), (72, .aload_n 0, 1), (73, .aload_n 0, 1), (74, .getfield 38, 3), (77, .invokevirtual 57, 3), (80, .istore_n 2, 1), (81, .aload_n 0, 1), (82, .iload_n 2, 1), (83, .invokestatic 68, 3), (86, .ifCond .ne 22, 3), (89, .iload_n 2, 1), (90, .invokestatic 61, 3), (93, .ifCond .ne 15, 3), (96, .iload_n 2, 1), (97, .bipush 65, 2), (99, .if_icmp .lt 13, 3), (102, .iload_n 2, 1), (103, .bipush 90, 2), (105, .if_icmp .gt 7, 3), (108, .iconst 3, 1), (109, .goto 4, 3), (112, .iconst 5, 1), (113, .putfield 44, 3), (116, .return_, 1)]
theorem dX7_readNumber : x_il nX7_readNumber 117 iX7_readNumber = true := by decide +kernel
theorem aX7_readNumber (k : Nat) {pc : Nat} {i : Jvm.ClassFile.Instr} {len : Nat} (hk : iX7_readNumber[k]? = some (pc, i, len)) : x_at xMM 73 pc i len yX7_readNumber 3 none := ⟨cX7_readNumber, rfl, x_il_ok bX7_readNumber dX7_readNumber k hk⟩
set_option maxHeartbeats 4000000 in
set_option maxRecDepth 100000 in
theorem k_X7_readNumber {sk : xK} {base d n sl : Nat} {SH : Nat → Nat × Nat} {FI : Nat → Nat → Int32} {FL : Nat → Nat → Int64} {FR : Nat → Nat → Option Nat} (hS : h_S n SH) (hF : h_FR FR) (hI : g_I FI) (hR : g_R n SH FR) (g0 : (FI 111 7).toInt < (FI 111 6).toInt) (gg0 : 48 ≤ (g_let SH FI FR (FI 111 7)).toInt ∧ (g_let SH FI FR (FI 111 7)).toInt ≤ 57) : hw sk base (d + 1) none 73 0 [(0, .ref (base + 111))] [] (n, sl, SH, FI, FL, FR) (h_V (fun s => ∃ FI' FL', s = (n, sl, SH, FI', FL', FR) ∧ g_I FI' ∧ g_fr n (shd SH) [(111, 8), (111, 9)] [] [] FI FI' ∧ g_fr n (shd SH) [(111, 10)] [] [] FL FL' ∧ ((FI 111 7).toInt + 1 ≤ (FI' 111 8).toInt ∧ (FI' 111 8).toInt ≤ (FI 111 7).toInt + 18) ∧ (3 ≤ (FI' 111 9).toInt))) := by
  obtain ⟨x1, h2⟩ : ∃ y, FI 111 7 = y := ⟨_, rfl⟩
  have h2l := congrArg Int32.toInt h2
  have b3 := gI_111_7 hI; rw [h2] at b3
  obtain ⟨x4, h5⟩ : ∃ y, FI 111 6 = y := ⟨_, rfl⟩
  have h5l := congrArg Int32.toInt h5
  have b6 := gI_111_6 hI; rw [h5] at b6
  obtain ⟨x7, h8⟩ : ∃ y, FI 111 8 = y := ⟨_, rfl⟩
  have h8l := congrArg Int32.toInt h8
  have b9 := gI_111_8 hI; rw [h8] at b9
  obtain ⟨x10, h11⟩ : ∃ y, FI 111 9 = y := ⟨_, rfl⟩
  have h11l := congrArg Int32.toInt h11
  have := i_rng x10
  refine hw_aloadn (aX7_readNumber 0 rfl) rfl ?_
  refine hw_lc (v := (0 : Int64)) (aX7_readNumber 1 rfl) (by decide) ?_
  refine hv_putl (aX7_readNumber 2 rfl) wf_RX7_50 (c111 hS) (s111 hS) (by decide) rfl rfl (fun FL12 u13 => ?_)
  refine hw_ic (v := (0 : Int32)) (aX7_readNumber 3 rfl) (by decide) ?_
  refine xw_istoren (L2 := [(1, .int ((0 : Int32))), (0, .ref (base + 111))]) (aX7_readNumber 4 rfl) (by decide) rfl ?_
  have lp18 : ∀ (m : Nat) (y1 : Int32) (FLv14 : Nat → Nat → Int64), (g_fr n (shd SH) [(111, 10)] [] [] FL FLv14) → (0 ≤ (y1).toInt ∧ (y1).toInt ≤ 18) → ((FI 111 7).toInt + (y1).toInt ≤ (FI 111 6).toInt) → 18 - (y1).toInt < m → hw sk base (d + 1) none 73 7 [(1, .int (y1)), (0, .ref (base + 111))] [] (n, sl, SH, FI, FLv14, FR) (h_V (fun s => ∃ FI' FL', s = (n, sl, SH, FI', FL', FR) ∧ g_I FI' ∧ g_fr n (shd SH) [(111, 8), (111, 9)] [] [] FI FI' ∧ g_fr n (shd SH) [(111, 10)] [] [] FL FL' ∧ ((FI 111 7).toInt + 1 ≤ (FI' 111 8).toInt ∧ (FI' 111 8).toInt ≤ (FI 111 7).toInt + 18) ∧ (3 ≤ (FI' 111 9).toInt))) := by
    intro m
    induction m with
    | zero => intro y1 FLv14 fr15 iv16 iv17 hm; omega
    | succ m ih =>
      intro y1 FLv14 fr15 iv16 iv17 hm
      have rg_y1 := i_rng y1
      refine xw_iloadn (aX7_readNumber 5 rfl) rfl ?_
      refine hw_bp (v := (18 : Int32)) (aX7_readNumber 6 rfl) (by decide) ?_
      refine hw_icge (tgt := 62) (aX7_readNumber 7 rfl) (by decide) rfl (by decide : (18 : Int32).toInt = 18) (fun cd19 => ?_) (fun cd19 => ?_)
      · have hl1 : 1 ≤ (y1).toInt := by omega
        refine hw_aloadn (aX7_readNumber 34 rfl) rfl ?_
        refine hw_aloadn (aX7_readNumber 35 rfl) rfl ?_
        refine hw_get (v := .int (x1)) (aX7_readNumber 36 rfl) wf_RX7_54 (c111 hS) (s111 hS) (by decide) (congrArg Value.int (show FI 111 7 = x1 from h2)) ?_
        refine xw_iloadn (aX7_readNumber 37 rfl) rfl ?_
        refine xw_iadd (aX7_readNumber 38 rfl) ?_
        refine hw_tie (A := ((x1).toInt) + ((y1).toInt)) (i_add rfl rfl (by omega) (by omega)) (fun x20 e21 => ?_)
        refine hv_puti (aX7_readNumber 39 rfl) wf_RX7_38 (c111 hS) (s111 hS) (by decide) rfl rfl (fun FI22 u23 => ?_)
        have hI24 : g_I FI22 := gU_111_8 hI u23 (by have := (e21 : (x20).toInt = ((x1).toInt) + ((y1).toInt)); omega) (by have := (e21 : (x20).toInt = ((x1).toInt) + ((y1).toInt)); omega)
        refine hw_aloadn (aX7_readNumber 40 rfl) rfl ?_
        refine hw_aloadn (aX7_readNumber 41 rfl) rfl ?_
        refine hw_get (v := .int (x20)) (aX7_readNumber 42 rfl) wf_RX7_38 (c111 hS) (s111 hS) (by decide) (congrArg Value.int (show FI22 111 8 = x20 from up_eq u23)) ?_
        refine hw_callV (Bs := [.int (x20)]) (rest := []) (aX7_readNumber 43 rfl) wc_RX7_57 (by decide) rfl wi_yX7_letter wv_yX7_letter (c111 hS) (s111 hS) rfl rfl rfl (Nat.le_of_ble_eq_true rfl) (Nat.le_of_ble_eq_true rfl) (k_letter2 (d := d) hS hF hI24 hR (x20) ) (fun v25 sv26 p27 => ?_)
        have := (e21 : (x20).toInt = ((x1).toInt) + ((y1).toInt))
        have := (e21 : (x20).toInt = ((x1).toInt) + ((y1).toInt))
        have := congrArg Int32.toInt (show FI22 111 6 = x4 from (up_k u23 (by decide) (h5)))
        obtain ⟨r28, rfl, rfl, t32, u33⟩ := p27
        have rg_r28 := i_rng r28
        show hw sk base _ _ _ _ _ [.int (r28)] _ _
        refine xw_istoren (L2 := [(2, .int (r28)), (1, .int (y1)), (0, .ref (base + 111))]) (aX7_readNumber 44 rfl) (by decide) rfl ?_
        refine hw_aloadn (aX7_readNumber 45 rfl) rfl ?_
        refine xw_iloadn (aX7_readNumber 46 rfl) rfl ?_
        refine hw_callS (As := [.int (r28)]) (rest := [.ref (base + 111)]) (aX7_readNumber 47 rfl) wc_RX7_68 (by decide) rfl wt_yX7_isDigit rfl rfl (Nat.le_of_ble_eq_true rfl) (Nat.le_of_ble_eq_true rfl) (k_isDigit2 (d := d) hS hF hI24 hR (r28) ) (fun v36 sv37 p38 => ?_)
        obtain ⟨r39, rfl, rfl, t43, t44, t45⟩ := p38
        show hw sk base _ _ _ _ _ [.int (r39), .ref (base + 111)] _ _
        refine hw_ifne (tgt := 108) (aX7_readNumber 48 rfl) (by decide) rfl (fun cd48 => ?_) (fun cd48 => ?_)
        · replace t43 := t43 (by omega)
          clear t44
          refine hw_ic (v := (3 : Int32)) (aX7_readNumber 58 rfl) (by decide) ?_
          refine xw_goto (tgt := 113) (aX7_readNumber 59 rfl) (by decide) ?_
          refine hv_puti (aX7_readNumber 61 rfl) wf_RX7_44 (c111 hS) (s111 hS) (by decide) rfl rfl (fun FI49 u50 => ?_)
          have hI51 : g_I FI49 := gU_F hI24 u50 rfl
          refine xw_vret (aX7_readNumber 62 rfl) rfl ?_
          exact ⟨rfl, FI49, FLv14, rfl, hI51, (gf_f (gf_f gf_rf u23 (by decide)) u50 (by decide)), fr15, (by have := congrArg Int32.toInt (show FI49 111 8 = x20 from (up_k u50 (by decide) (up_eq u23))); have := (e21 : (x20).toInt = ((x1).toInt) + ((y1).toInt)); omega), (by have := congrArg Int32.toInt (show FI49 111 9 = (3 : Int32) from up_eq u50); have := ((by decide : (3 : Int32).toInt = 3) : ((3 : Int32)).toInt = 3); omega)⟩
        · clear t43
          replace t44 := t44 (by omega)
          refine xw_iloadn (aX7_readNumber 49 rfl) rfl ?_
          refine hw_callS (As := [.int (r28)]) (rest := [.ref (base + 111)]) (aX7_readNumber 50 rfl) wc_RX7_61 (by decide) rfl wt_yX7_isSmall rfl rfl (Nat.le_of_ble_eq_true rfl) (Nat.le_of_ble_eq_true rfl) (k_isSmall2 (d := d) hS hF hI24 hR (r28) ) (fun v52 sv53 p54 => ?_)
          obtain ⟨r55, rfl, rfl, t59, t60, t61⟩ := p54
          show hw sk base _ _ _ _ _ [.int (r55), .ref (base + 111)] _ _
          refine hw_ifne (tgt := 108) (aX7_readNumber 51 rfl) (by decide) rfl (fun cd64 => ?_) (fun cd64 => ?_)
          · replace t59 := t59 (by omega)
            clear t60
            refine hw_ic (v := (3 : Int32)) (aX7_readNumber 58 rfl) (by decide) ?_
            refine xw_goto (tgt := 113) (aX7_readNumber 59 rfl) (by decide) ?_
            refine hv_puti (aX7_readNumber 61 rfl) wf_RX7_44 (c111 hS) (s111 hS) (by decide) rfl rfl (fun FI65 u66 => ?_)
            have hI67 : g_I FI65 := gU_F hI24 u66 rfl
            refine xw_vret (aX7_readNumber 62 rfl) rfl ?_
            exact ⟨rfl, FI65, FLv14, rfl, hI67, (gf_f (gf_f gf_rf u23 (by decide)) u66 (by decide)), fr15, (by have := congrArg Int32.toInt (show FI65 111 8 = x20 from (up_k u66 (by decide) (up_eq u23))); have := (e21 : (x20).toInt = ((x1).toInt) + ((y1).toInt)); omega), (by have := congrArg Int32.toInt (show FI65 111 9 = (3 : Int32) from up_eq u66); have := ((by decide : (3 : Int32).toInt = 3) : ((3 : Int32)).toInt = 3); omega)⟩
          · clear t59
            replace t60 := t60 (by omega)
            refine xw_iloadn (aX7_readNumber 52 rfl) rfl ?_
            refine hw_bp (v := (65 : Int32)) (aX7_readNumber 53 rfl) (by decide) ?_
            refine hw_iclt (tgt := 112) (aX7_readNumber 54 rfl) (by decide) rfl (by decide : (65 : Int32).toInt = 65) (fun cd68 => ?_) (fun cd68 => ?_)
            · refine hw_ic (v := (5 : Int32)) (aX7_readNumber 60 rfl) (by decide) ?_
              refine hv_puti (aX7_readNumber 61 rfl) wf_RX7_44 (c111 hS) (s111 hS) (by decide) rfl rfl (fun FI69 u70 => ?_)
              have hI71 : g_I FI69 := gU_F hI24 u70 rfl
              refine xw_vret (aX7_readNumber 62 rfl) rfl ?_
              exact ⟨rfl, FI69, FLv14, rfl, hI71, (gf_f (gf_f gf_rf u23 (by decide)) u70 (by decide)), fr15, (by have := congrArg Int32.toInt (show FI69 111 8 = x20 from (up_k u70 (by decide) (up_eq u23))); have := (e21 : (x20).toInt = ((x1).toInt) + ((y1).toInt)); omega), (by have := congrArg Int32.toInt (show FI69 111 9 = (5 : Int32) from up_eq u70); have := ((by decide : (5 : Int32).toInt = 5) : ((5 : Int32)).toInt = 5); omega)⟩
            · refine xw_iloadn (aX7_readNumber 55 rfl) rfl ?_
              refine hw_bp (v := (90 : Int32)) (aX7_readNumber 56 rfl) (by decide) ?_
              refine hw_icgt (tgt := 112) (aX7_readNumber 57 rfl) (by decide) rfl (by decide : (90 : Int32).toInt = 90) (fun cd72 => ?_) (fun cd72 => ?_)
              · refine hw_ic (v := (5 : Int32)) (aX7_readNumber 60 rfl) (by decide) ?_
                refine hv_puti (aX7_readNumber 61 rfl) wf_RX7_44 (c111 hS) (s111 hS) (by decide) rfl rfl (fun FI73 u74 => ?_)
                have hI75 : g_I FI73 := gU_F hI24 u74 rfl
                refine xw_vret (aX7_readNumber 62 rfl) rfl ?_
                exact ⟨rfl, FI73, FLv14, rfl, hI75, (gf_f (gf_f gf_rf u23 (by decide)) u74 (by decide)), fr15, (by have := congrArg Int32.toInt (show FI73 111 8 = x20 from (up_k u74 (by decide) (up_eq u23))); have := (e21 : (x20).toInt = ((x1).toInt) + ((y1).toInt)); omega), (by have := congrArg Int32.toInt (show FI73 111 9 = (5 : Int32) from up_eq u74); have := ((by decide : (5 : Int32).toInt = 5) : ((5 : Int32)).toInt = 5); omega)⟩
              · refine hw_ic (v := (3 : Int32)) (aX7_readNumber 58 rfl) (by decide) ?_
                refine xw_goto (tgt := 113) (aX7_readNumber 59 rfl) (by decide) ?_
                refine hv_puti (aX7_readNumber 61 rfl) wf_RX7_44 (c111 hS) (s111 hS) (by decide) rfl rfl (fun FI76 u77 => ?_)
                have hI78 : g_I FI76 := gU_F hI24 u77 rfl
                refine xw_vret (aX7_readNumber 62 rfl) rfl ?_
                exact ⟨rfl, FI76, FLv14, rfl, hI78, (gf_f (gf_f gf_rf u23 (by decide)) u77 (by decide)), fr15, (by have := congrArg Int32.toInt (show FI76 111 8 = x20 from (up_k u77 (by decide) (up_eq u23))); have := (e21 : (x20).toInt = ((x1).toInt) + ((y1).toInt)); omega), (by have := congrArg Int32.toInt (show FI76 111 9 = (3 : Int32) from up_eq u77); have := ((by decide : (3 : Int32).toInt = 3) : ((3 : Int32)).toInt = 3); omega)⟩
      · refine hw_aloadn (aX7_readNumber 8 rfl) rfl ?_
        refine hw_aloadn (aX7_readNumber 9 rfl) rfl ?_
        refine hw_get (v := .int (x1)) (aX7_readNumber 10 rfl) wf_RX7_54 (c111 hS) (s111 hS) (by decide) (congrArg Value.int (show FI 111 7 = x1 from h2)) ?_
        refine xw_iloadn (aX7_readNumber 11 rfl) rfl ?_
        refine xw_iadd (aX7_readNumber 12 rfl) ?_
        refine hw_tie (A := ((x1).toInt) + ((y1).toInt)) (i_add rfl rfl (by omega) (by omega)) (fun x79 e80 => ?_)
        refine hw_callV (Bs := [.int (x79)]) (rest := []) (aX7_readNumber 13 rfl) wc_RX7_57 (by decide) rfl wi_yX7_letter wv_yX7_letter (c111 hS) (s111 hS) rfl rfl rfl (Nat.le_of_ble_eq_true rfl) (Nat.le_of_ble_eq_true rfl) (k_letter2 (d := d) hS hF hI hR (x79) ) (fun v81 sv82 p83 => ?_)
        have := (e80 : (x79).toInt = ((x1).toInt) + ((y1).toInt))
        have := (e80 : (x79).toInt = ((x1).toInt) + ((y1).toInt))
        have := congrArg Int32.toInt (show FI 111 6 = x4 from h5)
        obtain ⟨r84, rfl, rfl, t88, u89⟩ := p83
        have rg_r84 := i_rng r84
        show hw sk base _ _ _ _ _ [.int (r84)] _ _
        refine hw_callS (As := [.int (r84)]) (rest := []) (aX7_readNumber 14 rfl) wc_RX7_68 (by decide) rfl wt_yX7_isDigit rfl rfl (Nat.le_of_ble_eq_true rfl) (Nat.le_of_ble_eq_true rfl) (k_isDigit2 (d := d) hS hF hI hR (r84) ) (fun v92 sv93 p94 => ?_)
        obtain ⟨r95, rfl, rfl, t99, t100, t101⟩ := p94
        show hw sk base _ _ _ _ _ [.int (r95)] _ _
        refine hw_ifeq (tgt := 62) (aX7_readNumber 15 rfl) (by decide) rfl (fun cd104 => ?_) (fun cd104 => ?_)
        · clear t99
          replace t100 := t100 (by omega)
          have hl1 : 1 ≤ (y1).toInt := by { by_cases hz : (y1).toInt = 0; { exfalso; have hx : x79 = FI 111 7 := i_eq (by have := (e80 : (x79).toInt = ((x1).toInt) + ((y1).toInt)); have := congrArg Int32.toInt (show FI 111 7 = x1 from h2); omega); have hg := gg0; rw [← hx, ← u89] at hg; omega }; { omega } }
          refine hw_aloadn (aX7_readNumber 34 rfl) rfl ?_
          refine hw_aloadn (aX7_readNumber 35 rfl) rfl ?_
          refine hw_get (v := .int (x1)) (aX7_readNumber 36 rfl) wf_RX7_54 (c111 hS) (s111 hS) (by decide) (congrArg Value.int (show FI 111 7 = x1 from h2)) ?_
          refine xw_iloadn (aX7_readNumber 37 rfl) rfl ?_
          refine xw_iadd (aX7_readNumber 38 rfl) ?_
          refine hw_tie (A := ((x1).toInt) + ((y1).toInt)) (i_add rfl rfl (by omega) (by omega)) (fun x105 e106 => ?_)
          refine hv_puti (aX7_readNumber 39 rfl) wf_RX7_38 (c111 hS) (s111 hS) (by decide) rfl rfl (fun FI107 u108 => ?_)
          have hI109 : g_I FI107 := gU_111_8 hI u108 (by have := (e106 : (x105).toInt = ((x1).toInt) + ((y1).toInt)); omega) (by have := (e106 : (x105).toInt = ((x1).toInt) + ((y1).toInt)); omega)
          refine hw_aloadn (aX7_readNumber 40 rfl) rfl ?_
          refine hw_aloadn (aX7_readNumber 41 rfl) rfl ?_
          refine hw_get (v := .int (x105)) (aX7_readNumber 42 rfl) wf_RX7_38 (c111 hS) (s111 hS) (by decide) (congrArg Value.int (show FI107 111 8 = x105 from up_eq u108)) ?_
          refine hw_callV (Bs := [.int (x105)]) (rest := []) (aX7_readNumber 43 rfl) wc_RX7_57 (by decide) rfl wi_yX7_letter wv_yX7_letter (c111 hS) (s111 hS) rfl rfl rfl (Nat.le_of_ble_eq_true rfl) (Nat.le_of_ble_eq_true rfl) (k_letter2 (d := d) hS hF hI109 hR (x105) ) (fun v110 sv111 p112 => ?_)
          have := (e106 : (x105).toInt = ((x1).toInt) + ((y1).toInt))
          have := (e106 : (x105).toInt = ((x1).toInt) + ((y1).toInt))
          have := congrArg Int32.toInt (show FI107 111 6 = x4 from (up_k u108 (by decide) (h5)))
          obtain ⟨r113, rfl, rfl, t117, u118⟩ := p112
          have rg_r113 := i_rng r113
          show hw sk base _ _ _ _ _ [.int (r113)] _ _
          refine xw_istoren (L2 := [(2, .int (r113)), (1, .int (y1)), (0, .ref (base + 111))]) (aX7_readNumber 44 rfl) (by decide) rfl ?_
          refine hw_aloadn (aX7_readNumber 45 rfl) rfl ?_
          refine xw_iloadn (aX7_readNumber 46 rfl) rfl ?_
          refine hw_callS (As := [.int (r113)]) (rest := [.ref (base + 111)]) (aX7_readNumber 47 rfl) wc_RX7_68 (by decide) rfl wt_yX7_isDigit rfl rfl (Nat.le_of_ble_eq_true rfl) (Nat.le_of_ble_eq_true rfl) (k_isDigit2 (d := d) hS hF hI109 hR (r113) ) (fun v121 sv122 p123 => ?_)
          obtain ⟨r124, rfl, rfl, t128, t129, t130⟩ := p123
          show hw sk base _ _ _ _ _ [.int (r124), .ref (base + 111)] _ _
          refine hw_ifne (tgt := 108) (aX7_readNumber 48 rfl) (by decide) rfl (fun cd133 => ?_) (fun cd133 => ?_)
          · replace t128 := t128 (by omega)
            clear t129
            refine hw_ic (v := (3 : Int32)) (aX7_readNumber 58 rfl) (by decide) ?_
            refine xw_goto (tgt := 113) (aX7_readNumber 59 rfl) (by decide) ?_
            refine hv_puti (aX7_readNumber 61 rfl) wf_RX7_44 (c111 hS) (s111 hS) (by decide) rfl rfl (fun FI134 u135 => ?_)
            have hI136 : g_I FI134 := gU_F hI109 u135 rfl
            refine xw_vret (aX7_readNumber 62 rfl) rfl ?_
            exact ⟨rfl, FI134, FLv14, rfl, hI136, (gf_f (gf_f gf_rf u108 (by decide)) u135 (by decide)), fr15, (by have := congrArg Int32.toInt (show FI134 111 8 = x105 from (up_k u135 (by decide) (up_eq u108))); have := (e106 : (x105).toInt = ((x1).toInt) + ((y1).toInt)); omega), (by have := congrArg Int32.toInt (show FI134 111 9 = (3 : Int32) from up_eq u135); have := ((by decide : (3 : Int32).toInt = 3) : ((3 : Int32)).toInt = 3); omega)⟩
          · clear t128
            replace t129 := t129 (by omega)
            refine xw_iloadn (aX7_readNumber 49 rfl) rfl ?_
            refine hw_callS (As := [.int (r113)]) (rest := [.ref (base + 111)]) (aX7_readNumber 50 rfl) wc_RX7_61 (by decide) rfl wt_yX7_isSmall rfl rfl (Nat.le_of_ble_eq_true rfl) (Nat.le_of_ble_eq_true rfl) (k_isSmall2 (d := d) hS hF hI109 hR (r113) ) (fun v137 sv138 p139 => ?_)
            obtain ⟨r140, rfl, rfl, t144, t145, t146⟩ := p139
            show hw sk base _ _ _ _ _ [.int (r140), .ref (base + 111)] _ _
            refine hw_ifne (tgt := 108) (aX7_readNumber 51 rfl) (by decide) rfl (fun cd149 => ?_) (fun cd149 => ?_)
            · replace t144 := t144 (by omega)
              clear t145
              refine hw_ic (v := (3 : Int32)) (aX7_readNumber 58 rfl) (by decide) ?_
              refine xw_goto (tgt := 113) (aX7_readNumber 59 rfl) (by decide) ?_
              refine hv_puti (aX7_readNumber 61 rfl) wf_RX7_44 (c111 hS) (s111 hS) (by decide) rfl rfl (fun FI150 u151 => ?_)
              have hI152 : g_I FI150 := gU_F hI109 u151 rfl
              refine xw_vret (aX7_readNumber 62 rfl) rfl ?_
              exact ⟨rfl, FI150, FLv14, rfl, hI152, (gf_f (gf_f gf_rf u108 (by decide)) u151 (by decide)), fr15, (by have := congrArg Int32.toInt (show FI150 111 8 = x105 from (up_k u151 (by decide) (up_eq u108))); have := (e106 : (x105).toInt = ((x1).toInt) + ((y1).toInt)); omega), (by have := congrArg Int32.toInt (show FI150 111 9 = (3 : Int32) from up_eq u151); have := ((by decide : (3 : Int32).toInt = 3) : ((3 : Int32)).toInt = 3); omega)⟩
            · clear t144
              replace t145 := t145 (by omega)
              refine xw_iloadn (aX7_readNumber 52 rfl) rfl ?_
              refine hw_bp (v := (65 : Int32)) (aX7_readNumber 53 rfl) (by decide) ?_
              refine hw_iclt (tgt := 112) (aX7_readNumber 54 rfl) (by decide) rfl (by decide : (65 : Int32).toInt = 65) (fun cd153 => ?_) (fun cd153 => ?_)
              · refine hw_ic (v := (5 : Int32)) (aX7_readNumber 60 rfl) (by decide) ?_
                refine hv_puti (aX7_readNumber 61 rfl) wf_RX7_44 (c111 hS) (s111 hS) (by decide) rfl rfl (fun FI154 u155 => ?_)
                have hI156 : g_I FI154 := gU_F hI109 u155 rfl
                refine xw_vret (aX7_readNumber 62 rfl) rfl ?_
                exact ⟨rfl, FI154, FLv14, rfl, hI156, (gf_f (gf_f gf_rf u108 (by decide)) u155 (by decide)), fr15, (by have := congrArg Int32.toInt (show FI154 111 8 = x105 from (up_k u155 (by decide) (up_eq u108))); have := (e106 : (x105).toInt = ((x1).toInt) + ((y1).toInt)); omega), (by have := congrArg Int32.toInt (show FI154 111 9 = (5 : Int32) from up_eq u155); have := ((by decide : (5 : Int32).toInt = 5) : ((5 : Int32)).toInt = 5); omega)⟩
              · refine xw_iloadn (aX7_readNumber 55 rfl) rfl ?_
                refine hw_bp (v := (90 : Int32)) (aX7_readNumber 56 rfl) (by decide) ?_
                refine hw_icgt (tgt := 112) (aX7_readNumber 57 rfl) (by decide) rfl (by decide : (90 : Int32).toInt = 90) (fun cd157 => ?_) (fun cd157 => ?_)
                · refine hw_ic (v := (5 : Int32)) (aX7_readNumber 60 rfl) (by decide) ?_
                  refine hv_puti (aX7_readNumber 61 rfl) wf_RX7_44 (c111 hS) (s111 hS) (by decide) rfl rfl (fun FI158 u159 => ?_)
                  have hI160 : g_I FI158 := gU_F hI109 u159 rfl
                  refine xw_vret (aX7_readNumber 62 rfl) rfl ?_
                  exact ⟨rfl, FI158, FLv14, rfl, hI160, (gf_f (gf_f gf_rf u108 (by decide)) u159 (by decide)), fr15, (by have := congrArg Int32.toInt (show FI158 111 8 = x105 from (up_k u159 (by decide) (up_eq u108))); have := (e106 : (x105).toInt = ((x1).toInt) + ((y1).toInt)); omega), (by have := congrArg Int32.toInt (show FI158 111 9 = (5 : Int32) from up_eq u159); have := ((by decide : (5 : Int32).toInt = 5) : ((5 : Int32)).toInt = 5); omega)⟩
                · refine hw_ic (v := (3 : Int32)) (aX7_readNumber 58 rfl) (by decide) ?_
                  refine xw_goto (tgt := 113) (aX7_readNumber 59 rfl) (by decide) ?_
                  refine hv_puti (aX7_readNumber 61 rfl) wf_RX7_44 (c111 hS) (s111 hS) (by decide) rfl rfl (fun FI161 u162 => ?_)
                  have hI163 : g_I FI161 := gU_F hI109 u162 rfl
                  refine xw_vret (aX7_readNumber 62 rfl) rfl ?_
                  exact ⟨rfl, FI161, FLv14, rfl, hI163, (gf_f (gf_f gf_rf u108 (by decide)) u162 (by decide)), fr15, (by have := congrArg Int32.toInt (show FI161 111 8 = x105 from (up_k u162 (by decide) (up_eq u108))); have := (e106 : (x105).toInt = ((x1).toInt) + ((y1).toInt)); omega), (by have := congrArg Int32.toInt (show FI161 111 9 = (3 : Int32) from up_eq u162); have := ((by decide : (3 : Int32).toInt = 3) : ((3 : Int32)).toInt = 3); omega)⟩
        · replace t99 := t99 (by omega)
          clear t100
          refine hw_aloadn (aX7_readNumber 16 rfl) rfl ?_
          refine hw_aloadn (aX7_readNumber 17 rfl) rfl ?_
          obtain ⟨x164, h165⟩ : ∃ y, FLv14 111 10 = y := ⟨_, rfl⟩
          have h165l := congrArg Int64.toInt h165
          have := l_rng x164
          refine hw_get (v := .long (x164)) (aX7_readNumber 18 rfl) wf_RX7_50 (c111 hS) (s111 hS) (by decide) (congrArg Value.long (show FLv14 111 10 = x164 from h165)) ?_
          refine xw_ldc2 (aX7_readNumber 19 rfl) wk_RX7_118 ?_
          refine xw_lmul (aX7_readNumber 20 rfl) ?_
          refine hw_tl (fun x166 => ?_)
          have b167 := l_rng x166
          refine hw_aloadn (aX7_readNumber 21 rfl) rfl ?_
          refine hw_aloadn (aX7_readNumber 22 rfl) rfl ?_
          refine hw_get (v := .int (x1)) (aX7_readNumber 23 rfl) wf_RX7_54 (c111 hS) (s111 hS) (by decide) (congrArg Value.int (show FI 111 7 = x1 from h2)) ?_
          refine xw_iloadn (aX7_readNumber 24 rfl) rfl ?_
          refine xw_iadd (aX7_readNumber 25 rfl) ?_
          refine hw_tie (A := ((x1).toInt) + ((y1).toInt)) (i_add rfl rfl (by omega) (by omega)) (fun x168 e169 => ?_)
          refine hw_callV (Bs := [.int (x168)]) (rest := [.long (x166), .ref (base + 111)]) (aX7_readNumber 26 rfl) wc_RX7_57 (by decide) rfl wi_yX7_letter wv_yX7_letter (c111 hS) (s111 hS) rfl rfl rfl (Nat.le_of_ble_eq_true rfl) (Nat.le_of_ble_eq_true rfl) (k_letter2 (d := d) hS hF hI hR (x168) ) (fun v170 sv171 p172 => ?_)
          have := (e169 : (x168).toInt = ((x1).toInt) + ((y1).toInt))
          have := (e169 : (x168).toInt = ((x1).toInt) + ((y1).toInt))
          have := congrArg Int32.toInt (show FI 111 6 = x4 from h5)
          obtain ⟨r173, rfl, rfl, t177, u178⟩ := p172
          have rg_r173 := i_rng r173
          show hw sk base _ _ _ _ _ [.int (r173), .long (x166), .ref (base + 111)] _ _
          refine hw_bp (v := (48 : Int32)) (aX7_readNumber 27 rfl) (by decide) ?_
          refine xw_isub (aX7_readNumber 28 rfl) ?_
          have := i_rng ((r173) - ((48 : Int32)))
          refine xw_i2l (aX7_readNumber 29 rfl) ?_
          refine hw_tle (A := (((r173) - ((48 : Int32)))).toInt) (i_2l rfl) (fun x181 e182 => ?_)
          refine xw_ladd (aX7_readNumber 30 rfl) ?_
          refine hw_tl (fun x183 => ?_)
          have b184 := l_rng x183
          refine hv_putl (aX7_readNumber 31 rfl) wf_RX7_50 (c111 hS) (s111 hS) (by decide) rfl rfl (fun FL185 u186 => ?_)
          obtain ⟨x187, q189⟩ : ∃ y : Int32, (y1) + Int32.ofInt (1) = y := ⟨_, rfl⟩
          have e188 : (x187).toInt = (y1).toInt + (1) := by rw [← q189]; exact i_add rfl (by decide) (by omega) (by omega)
          refine xw_iinc (L2 := [(1, .int (x187)), (0, .ref (base + 111))]) (aX7_readNumber 32 rfl) rfl (by decide) (by rw [q189]; rfl) ?_
          refine xw_goto (tgt := 7) (aX7_readNumber 33 rfl) (by decide) ?_
          exact hw_L (ih (x187) FL185 (gf_f fr15 u186 (by decide)) (by have := (e188 : (x187).toInt = (y1).toInt + (1)); omega) (by have := (e188 : (x187).toInt = (y1).toInt + (1)); omega) (by have := (e188 : (x187).toInt = (y1).toInt + (1)); omega)) ⟨rfl, rfl, trivial⟩
  exact hw_L (lp18 ((18 - 0 : Int).toNat + 1) ((0 : Int32)) FL12 (gf_f gf_rf u13 (by decide)) (by have := ((by decide : (0 : Int32).toInt = 0) : ((0 : Int32)).toInt = 0); omega) (by have := ((by decide : (0 : Int32).toInt = 0) : ((0 : Int32)).toInt = 0); omega) (by have := ((by decide : (0 : Int32).toInt = 0) : ((0 : Int32)).toInt = 0); omega)) ⟨rfl, rfl, trivial⟩
def nX7_readAt : Nat := 0xb12600b560053600b42a2a2c00b5060400a706100800a308101b0e00a1041b2a3200b5851b2a3c6430103900b660043600b42a2a
theorem bX7_readAt : cX7_readAt.data.toList.map UInt8.toNat = x_un nX7_readAt 52 := by decide +kernel
def iX7_readAt : List (Nat × Jvm.ClassFile.Instr × Nat) := [(0, .aload_n 0, 1), (1, .aload_n 0, 1), (2, .getfield 54, 3), (5, .iconst 1, 1), (6, .iadd, 1), (7, .invokevirtual 57, 3), (10, .bipush 48, 2), (12, .isub, 1), (13, .istore_n 1, 1), (14, .aload_n 0, 1), (15, .iload_n 1, 1), (16, .i2l, 1), (17, .putfield 50, 3), (20, .aload_n 0, 1), (21, .iload_n 1, 1), (22, .iconst 1, 1), (23, .if_icmp .lt 14, 3), (26, .iload_n 1, 1), (27, .bipush 8, 2), (29, .if_icmp .gt 8, 3), (32, .bipush 6, 2), (34, .goto 4, 3), (37, .iconst 3, 1), (38, .putfield 44, 3), (41, .aload_n 0, 1), (42, .aload_n 0, 1), (43, .getfield 54, 3), (46, .iconst 2, 1), (47, .iadd, 1), (48, .putfield 38, 3), (51, .return_, 1)]
theorem dX7_readAt : x_il nX7_readAt 52 iX7_readAt = true := by decide +kernel
theorem aX7_readAt (k : Nat) {pc : Nat} {i : Jvm.ClassFile.Instr} {len : Nat} (hk : iX7_readAt[k]? = some (pc, i, len)) : x_at xMM 74 pc i len yX7_readAt 2 none := ⟨cX7_readAt, rfl, x_il_ok bX7_readAt dX7_readAt k hk⟩
set_option maxHeartbeats 4000000 in
set_option maxRecDepth 100000 in
theorem k_X7_readAt {sk : xK} {base d n sl : Nat} {SH : Nat → Nat × Nat} {FI : Nat → Nat → Int32} {FL : Nat → Nat → Int64} {FR : Nat → Nat → Option Nat} (hS : h_S n SH) (hF : h_FR FR) (hI : g_I FI) (hR : g_R n SH FR) (g0 : (FI 111 7).toInt < (FI 111 6).toInt) : hw sk base (d + 1) none 74 0 [(0, .ref (base + 111))] [] (n, sl, SH, FI, FL, FR) (h_V (fun s => ∃ FI' FL', s = (n, sl, SH, FI', FL', FR) ∧ g_I FI' ∧ g_fr n (shd SH) [(111, 8), (111, 9)] [] [] FI FI' ∧ g_fr n (shd SH) [(111, 10)] [] [] FL FL' ∧ ((FI 111 7).toInt + 1 ≤ (FI' 111 8).toInt ∧ (FI' 111 8).toInt ≤ (FI 111 7).toInt + 2) ∧ (3 ≤ (FI' 111 9).toInt))) := by
  obtain ⟨x1, h2⟩ : ∃ y, FI 111 7 = y := ⟨_, rfl⟩
  have h2l := congrArg Int32.toInt h2
  have b3 := gI_111_7 hI; rw [h2] at b3
  obtain ⟨x4, h5⟩ : ∃ y, FI 111 6 = y := ⟨_, rfl⟩
  have h5l := congrArg Int32.toInt h5
  have b6 := gI_111_6 hI; rw [h5] at b6
  obtain ⟨x7, h8⟩ : ∃ y, FI 111 8 = y := ⟨_, rfl⟩
  have h8l := congrArg Int32.toInt h8
  have b9 := gI_111_8 hI; rw [h8] at b9
  obtain ⟨x10, h11⟩ : ∃ y, FI 111 9 = y := ⟨_, rfl⟩
  have h11l := congrArg Int32.toInt h11
  have := i_rng x10
  refine hw_aloadn (aX7_readAt 0 rfl) rfl ?_
  refine hw_aloadn (aX7_readAt 1 rfl) rfl ?_
  refine hw_get (v := .int (x1)) (aX7_readAt 2 rfl) wf_RX7_54 (c111 hS) (s111 hS) (by decide) (congrArg Value.int (show FI 111 7 = x1 from h2)) ?_
  refine hw_ic (v := (1 : Int32)) (aX7_readAt 3 rfl) (by decide) ?_
  refine xw_iadd (aX7_readAt 4 rfl) ?_
  refine hw_tie (A := ((x1).toInt) + (1)) (i_add rfl (by decide : (1 : Int32).toInt = 1) (by omega) (by omega)) (fun x12 e13 => ?_)
  refine hw_callV (Bs := [.int (x12)]) (rest := []) (aX7_readAt 5 rfl) wc_RX7_57 (by decide) rfl wi_yX7_letter wv_yX7_letter (c111 hS) (s111 hS) rfl rfl rfl (Nat.le_of_ble_eq_true rfl) (Nat.le_of_ble_eq_true rfl) (k_letter2 (d := d) hS hF hI hR (x12) ) (fun v14 sv15 p16 => ?_)
  have := (e13 : (x12).toInt = ((x1).toInt) + (1))
  have := (e13 : (x12).toInt = ((x1).toInt) + (1))
  have := congrArg Int32.toInt (show FI 111 6 = x4 from h5)
  obtain ⟨r17, rfl, rfl, t21, u22⟩ := p16
  have rg_r17 := i_rng r17
  show hw sk base _ _ _ _ _ [.int (r17)] _ _
  refine hw_bp (v := (48 : Int32)) (aX7_readAt 6 rfl) (by decide) ?_
  refine xw_isub (aX7_readAt 7 rfl) ?_
  have := i_rng ((r17) - ((48 : Int32)))
  refine xw_istoren (L2 := [(1, .int (((r17) - ((48 : Int32))))), (0, .ref (base + 111))]) (aX7_readAt 8 rfl) (by decide) rfl ?_
  refine hw_aloadn (aX7_readAt 9 rfl) rfl ?_
  refine xw_iloadn (aX7_readAt 10 rfl) rfl ?_
  refine xw_i2l (aX7_readAt 11 rfl) ?_
  refine hw_tle (A := (((r17) - ((48 : Int32)))).toInt) (i_2l rfl) (fun x25 e26 => ?_)
  refine hv_putl (aX7_readAt 12 rfl) wf_RX7_50 (c111 hS) (s111 hS) (by decide) rfl rfl (fun FL27 u28 => ?_)
  refine hw_aloadn (aX7_readAt 13 rfl) rfl ?_
  refine xw_iloadn (aX7_readAt 14 rfl) rfl ?_
  refine hw_ic (v := (1 : Int32)) (aX7_readAt 15 rfl) (by decide) ?_
  refine hw_iclt (tgt := 37) (aX7_readAt 16 rfl) (by decide) rfl (by decide : (1 : Int32).toInt = 1) (fun cd29 => ?_) (fun cd29 => ?_)
  · refine hw_ic (v := (3 : Int32)) (aX7_readAt 22 rfl) (by decide) ?_
    refine hv_puti (aX7_readAt 23 rfl) wf_RX7_44 (c111 hS) (s111 hS) (by decide) rfl rfl (fun FI30 u31 => ?_)
    have hI32 : g_I FI30 := gU_F hI u31 rfl
    refine hw_aloadn (aX7_readAt 24 rfl) rfl ?_
    refine hw_aloadn (aX7_readAt 25 rfl) rfl ?_
    refine hw_get (v := .int (x1)) (aX7_readAt 26 rfl) wf_RX7_54 (c111 hS) (s111 hS) (by decide) (congrArg Value.int (show FI30 111 7 = x1 from (up_k u31 (by decide) (h2)))) ?_
    refine hw_ic (v := (2 : Int32)) (aX7_readAt 27 rfl) (by decide) ?_
    refine xw_iadd (aX7_readAt 28 rfl) ?_
    refine hw_tie (A := ((x1).toInt) + (2)) (i_add rfl (by decide : (2 : Int32).toInt = 2) (by omega) (by omega)) (fun x33 e34 => ?_)
    refine hv_puti (aX7_readAt 29 rfl) wf_RX7_38 (c111 hS) (s111 hS) (by decide) rfl rfl (fun FI35 u36 => ?_)
    have hI37 : g_I FI35 := gU_111_8 hI32 u36 (by have := (e34 : (x33).toInt = ((x1).toInt) + (2)); omega) (by have := (e34 : (x33).toInt = ((x1).toInt) + (2)); omega)
    refine xw_vret (aX7_readAt 30 rfl) rfl ?_
    exact ⟨rfl, FI35, FL27, rfl, hI37, (gf_f (gf_f gf_rf u31 (by decide)) u36 (by decide)), (gf_f gf_rf u28 (by decide)), (by have := congrArg Int32.toInt (show FI35 111 8 = x33 from up_eq u36); have := (e34 : (x33).toInt = ((x1).toInt) + (2)); omega), (by have := congrArg Int32.toInt (show FI35 111 9 = (3 : Int32) from (up_k u36 (by decide) (up_eq u31))); have := ((by decide : (3 : Int32).toInt = 3) : ((3 : Int32)).toInt = 3); omega)⟩
  · refine xw_iloadn (aX7_readAt 17 rfl) rfl ?_
    refine hw_bp (v := (8 : Int32)) (aX7_readAt 18 rfl) (by decide) ?_
    refine hw_icgt (tgt := 37) (aX7_readAt 19 rfl) (by decide) rfl (by decide : (8 : Int32).toInt = 8) (fun cd38 => ?_) (fun cd38 => ?_)
    · refine hw_ic (v := (3 : Int32)) (aX7_readAt 22 rfl) (by decide) ?_
      refine hv_puti (aX7_readAt 23 rfl) wf_RX7_44 (c111 hS) (s111 hS) (by decide) rfl rfl (fun FI39 u40 => ?_)
      have hI41 : g_I FI39 := gU_F hI u40 rfl
      refine hw_aloadn (aX7_readAt 24 rfl) rfl ?_
      refine hw_aloadn (aX7_readAt 25 rfl) rfl ?_
      refine hw_get (v := .int (x1)) (aX7_readAt 26 rfl) wf_RX7_54 (c111 hS) (s111 hS) (by decide) (congrArg Value.int (show FI39 111 7 = x1 from (up_k u40 (by decide) (h2)))) ?_
      refine hw_ic (v := (2 : Int32)) (aX7_readAt 27 rfl) (by decide) ?_
      refine xw_iadd (aX7_readAt 28 rfl) ?_
      refine hw_tie (A := ((x1).toInt) + (2)) (i_add rfl (by decide : (2 : Int32).toInt = 2) (by omega) (by omega)) (fun x42 e43 => ?_)
      refine hv_puti (aX7_readAt 29 rfl) wf_RX7_38 (c111 hS) (s111 hS) (by decide) rfl rfl (fun FI44 u45 => ?_)
      have hI46 : g_I FI44 := gU_111_8 hI41 u45 (by have := (e43 : (x42).toInt = ((x1).toInt) + (2)); omega) (by have := (e43 : (x42).toInt = ((x1).toInt) + (2)); omega)
      refine xw_vret (aX7_readAt 30 rfl) rfl ?_
      exact ⟨rfl, FI44, FL27, rfl, hI46, (gf_f (gf_f gf_rf u40 (by decide)) u45 (by decide)), (gf_f gf_rf u28 (by decide)), (by have := congrArg Int32.toInt (show FI44 111 8 = x42 from up_eq u45); have := (e43 : (x42).toInt = ((x1).toInt) + (2)); omega), (by have := congrArg Int32.toInt (show FI44 111 9 = (3 : Int32) from (up_k u45 (by decide) (up_eq u40))); have := ((by decide : (3 : Int32).toInt = 3) : ((3 : Int32)).toInt = 3); omega)⟩
    · refine hw_bp (v := (6 : Int32)) (aX7_readAt 20 rfl) (by decide) ?_
      refine xw_goto (tgt := 38) (aX7_readAt 21 rfl) (by decide) ?_
      refine hv_puti (aX7_readAt 23 rfl) wf_RX7_44 (c111 hS) (s111 hS) (by decide) rfl rfl (fun FI47 u48 => ?_)
      have hI49 : g_I FI47 := gU_F hI u48 rfl
      refine hw_aloadn (aX7_readAt 24 rfl) rfl ?_
      refine hw_aloadn (aX7_readAt 25 rfl) rfl ?_
      refine hw_get (v := .int (x1)) (aX7_readAt 26 rfl) wf_RX7_54 (c111 hS) (s111 hS) (by decide) (congrArg Value.int (show FI47 111 7 = x1 from (up_k u48 (by decide) (h2)))) ?_
      refine hw_ic (v := (2 : Int32)) (aX7_readAt 27 rfl) (by decide) ?_
      refine xw_iadd (aX7_readAt 28 rfl) ?_
      refine hw_tie (A := ((x1).toInt) + (2)) (i_add rfl (by decide : (2 : Int32).toInt = 2) (by omega) (by omega)) (fun x50 e51 => ?_)
      refine hv_puti (aX7_readAt 29 rfl) wf_RX7_38 (c111 hS) (s111 hS) (by decide) rfl rfl (fun FI52 u53 => ?_)
      have hI54 : g_I FI52 := gU_111_8 hI49 u53 (by have := (e51 : (x50).toInt = ((x1).toInt) + (2)); omega) (by have := (e51 : (x50).toInt = ((x1).toInt) + (2)); omega)
      refine xw_vret (aX7_readAt 30 rfl) rfl ?_
      exact ⟨rfl, FI52, FL27, rfl, hI54, (gf_f (gf_f gf_rf u48 (by decide)) u53 (by decide)), (gf_f gf_rf u28 (by decide)), (by have := congrArg Int32.toInt (show FI52 111 8 = x50 from up_eq u53); have := (e51 : (x50).toInt = ((x1).toInt) + (2)); omega), (by have := congrArg Int32.toInt (show FI52 111 9 = (6 : Int32) from (up_k u53 (by decide) (up_eq u48))); have := ((by decide : (6 : Int32).toInt = 6) : ((6 : Int32)).toInt = 6); omega)⟩
