def nX7_readToken : Nat := 0xb14d00b61b2a0800a74a00b62a0a00a040101b1500a74700b62a0a00994400b81b2300a74100b62a0a00993d00b81b3100a72c00b5052a0b00a0021b3c3900b62600b42a2a3600b52600b42a2acfffa72600b560042600b4592a1000a020102e2600b42a1900b42a11009f0a102e2600b42a1900b42a2c00a22200b42a2600b42a
theorem bX7_readToken : cX7_readToken.data.toList.map UInt8.toNat = x_un nX7_readToken 129 := by decide +kernel
def iX7_readToken : List (Nat × Jvm.ClassFile.Instr × Nat) := [(0, .aload_n 0, 1), (1, .getfield 38, 3), (4, .aload_n 0, 1), (5, .getfield 34, 3), (8, .if_icmp .ge 44, 3), (11, .aload_n 0, 1), (12, .getfield 25, 3), (15, .aload_n 0, 1), (16, .getfield 38, 3), (19, .iaload, 1), (20, .bipush 10, 2), (22, .if_icmp .eq 17, 3), (25, .aload_n 0, 1), (26, .getfield 25, 3), (29, .aload_n 0, 1), (30, .getfield 38, 3), (33, .iaload, 1), (34, .bipush 32, 2), (36, .if_icmp .ne 16, 3), (39, .aload_n 0, 1), (40, .dup, 1), (41, .getfield 38, 3), (44, .iconst 1, 1), (45, .iadd, 1), (46, .putfield 38, 3), (49, .goto (-49), 3), (52, .aload_n 0, 1), (53, .aload_n 0, 1), (54, .getfield 38, 3), (57, .putfield 54, 3), (60, .aload_n 0, 1), (61, .aload_n 0, 1), (62, .getfield 38, 3), (65, .invokevirtual 57, 3), (68, .istore_n 1, 1), (69, .iload_n 1, 1), (70, .iconst (-1), 1), (71, .if_icmp .ne 11, 3), (74, .aload_n 0, 1), (75, .iconst 2, 1), (76, .putfield 44, 3), (79, .goto 49, 3), (82, .iload_n 1, 1), (83, .invokestatic 61, 3), (86, .ifCond .eq 10, 3), (89, .aload_n 0, 1), (90, .invokevirtual 65, 3), (93, .goto 35, 3), (96, .iload_n 1, 1), (97, .invokestatic 68, 3), (100, .ifCond .eq 10, 3), (103, .aload_n 0, 1), (104, .invokevirtual 71, 3), (107, .goto 21, 3), (110, .iload_n 1, 1), (111, .bipush 64, 2), (113, .if_icmp .ne 10, 3), (116, .aload_n 0, 1), (117, .invokevirtual 74, 3), (120, .goto 8, 3), (123, .aload_n 0, 1), (124, .iload_n 1, 1), (125, .invokevirtual 77, 3), (128, .return_, 1)]
theorem dX7_readToken : x_il nX7_readToken 129 iX7_readToken = true := by decide +kernel
theorem aX7_readToken (k : Nat) {pc : Nat} {i : Jvm.ClassFile.Instr} {len : Nat} (hk : iX7_readToken[k]? = some (pc, i, len)) : x_at xMM 66 pc i len yX7_readToken 2 none := ⟨cX7_readToken, rfl, x_il_ok bX7_readToken dX7_readToken k hk⟩
set_option maxHeartbeats 4000000 in
set_option maxRecDepth 100000 in
theorem k_X7_readToken {sk : xK} {base d n sl : Nat} {SH : Nat → Nat × Nat} {FI : Nat → Nat → Int32} {FL : Nat → Nat → Int64} {FR : Nat → Nat → Option Nat} (hS : h_S n SH) (hF : h_FR FR) (hI : g_I FI) (hR : g_R n SH FR) (gg0 : ∀ t, FR 111 5 = some t → (FI 111 6).toInt ≤ ((SH t).2 : Int)) : hw sk base (d + 7) none 66 0 [(0, .ref (base + 111))] [] (n, sl, SH, FI, FL, FR) (h_V (fun s => ∃ FI' FL', s = (n, sl, SH, FI', FL', FR) ∧ g_I FI' ∧ g_fr n (shd SH) [(111, 7), (111, 8), (111, 9)] [] [] FI FI' ∧ g_fr n (shd SH) [(111, 10)] [] [] FL FL' ∧ (((FI' 111 9).toInt = 2 ∧ (FI' 111 8).toInt = (FI' 111 7).toInt) ∨ ((FI 111 8).toInt + 1 ≤ (FI' 111 8).toInt ∧ (FI 111 8).toInt < (FI 111 6).toInt)) ∧ ((FI' 111 7).toInt ≤ (FI' 111 8).toInt ∧ (FI' 111 8).toInt ≤ (FI' 111 7).toInt + 20))) := by
  obtain ⟨x1, h2⟩ : ∃ y, FI 111 9 = y := ⟨_, rfl⟩
  have h2l := congrArg Int32.toInt h2
  have := i_rng x1
  obtain ⟨x3, h4⟩ : ∃ y, FI 111 8 = y := ⟨_, rfl⟩
  have h4l := congrArg Int32.toInt h4
  have b5 := gI_111_8 hI; rw [h4] at b5
  obtain ⟨x6, h7⟩ : ∃ y, FI 111 7 = y := ⟨_, rfl⟩
  have h7l := congrArg Int32.toInt h7
  have b8 := gI_111_7 hI; rw [h7] at b8
  obtain ⟨x9, h10⟩ : ∃ y, FI 111 6 = y := ⟨_, rfl⟩
  have h10l := congrArg Int32.toInt h10
  have b11 := gI_111_6 hI; rw [h10] at b11
  obtain ⟨o12, h13⟩ : ∃ y, FR 111 5 = y := ⟨_, rfl⟩
  have ht14 : ∀ r, o12 = some r → r < n ∧ own r ∧ SH r = (100, (SH r).2) := fun r e => gR_get hR (c111 hS) (Or.inl (by decide)) (s111 hS) (h13.trans e)
  obtain ⟨r15, rfl⟩ := gR_nn hR (by unfold g_nn; omega) h13
  obtain ⟨lt16, ow17, sh18⟩ := ht14 r15 rfl
  have hln := gg0 r15 (show FR 111 5 = some r15 from h13)
  have lp27 : ∀ (m : Nat) (FIv19 : Nat → Nat → Int32), (g_fr n (shd SH) [(111, 7), (111, 8), (111, 9)] [] [] FI FIv19) → (g_I FIv19) → (FIv19 111 9 = x1) → (FIv19 111 7 = x6) → (FIv19 111 6 = x9) → ((FI 111 8).toInt ≤ (FIv19 111 8).toInt) → ((FIv19 111 8).toInt ≤ 1003) → 1100 - (FIv19 111 8).toInt < m → hw sk base (d + 7) none 66 0 [(0, .ref (base + 111))] [] (n, sl, SH, FIv19, FL, FR) (h_V (fun s => ∃ FI' FL', s = (n, sl, SH, FI', FL', FR) ∧ g_I FI' ∧ g_fr n (shd SH) [(111, 7), (111, 8), (111, 9)] [] [] FI FI' ∧ g_fr n (shd SH) [(111, 10)] [] [] FL FL' ∧ (((FI' 111 9).toInt = 2 ∧ (FI' 111 8).toInt = (FI' 111 7).toInt) ∨ ((FI 111 8).toInt + 1 ≤ (FI' 111 8).toInt ∧ (FI 111 8).toInt < (FI 111 6).toInt)) ∧ ((FI' 111 7).toInt ≤ (FI' 111 8).toInt ∧ (FI' 111 8).toInt ≤ (FI' 111 7).toInt + 20))) := by
    intro m
    induction m with
    | zero => intro FIv19 fr20 hI21 kp22 kp23 kp24 iv25 iv26 hm; omega
    | succ m ih =>
      intro FIv19 fr20 hI21 kp22 kp23 kp24 iv25 iv26 hm
      have := congrArg Int32.toInt kp22
      have := congrArg Int32.toInt kp23
      have := congrArg Int32.toInt kp24
      obtain ⟨x28, h29⟩ : ∃ y, FIv19 111 8 = y := ⟨_, rfl⟩
      have h29l := congrArg Int32.toInt h29
      have b30 := gI_111_8 hI21; rw [h29] at b30
      refine hw_aloadn (aX7_readToken 0 rfl) rfl ?_
      refine hw_get (v := .int (x28)) (aX7_readToken 1 rfl) wf_RX7_38 (c111 hS) (s111 hS) (by decide) (congrArg Value.int (show FIv19 111 8 = x28 from h29)) ?_
      refine hw_aloadn (aX7_readToken 2 rfl) rfl ?_
      refine hw_get (v := .int (x9)) (aX7_readToken 3 rfl) wf_RX7_34 (c111 hS) (s111 hS) (by decide) (congrArg Value.int (show FIv19 111 6 = x9 from kp24)) ?_
      refine hw_icge (tgt := 52) (aX7_readToken 4 rfl) (by decide) rfl rfl (fun cd31 => ?_) (fun cd31 => ?_)
      · refine hw_aloadn (aX7_readToken 26 rfl) rfl ?_
        refine hw_aloadn (aX7_readToken 27 rfl) rfl ?_
        refine hw_get (v := .int (x28)) (aX7_readToken 28 rfl) wf_RX7_38 (c111 hS) (s111 hS) (by decide) (congrArg Value.int (show FIv19 111 8 = x28 from h29)) ?_
        refine hv_puti (aX7_readToken 29 rfl) wf_RX7_54 (c111 hS) (s111 hS) (by decide) rfl rfl (fun FI32 u33 => ?_)
        have hI34 : g_I FI32 := gU_111_7 hI21 u33 (by omega) (by omega)
        refine hw_aloadn (aX7_readToken 30 rfl) rfl ?_
        refine hw_aloadn (aX7_readToken 31 rfl) rfl ?_
        refine hw_get (v := .int (x28)) (aX7_readToken 32 rfl) wf_RX7_38 (c111 hS) (s111 hS) (by decide) (congrArg Value.int (show FI32 111 8 = x28 from (up_k u33 (by decide) (h29)))) ?_
        refine hw_callV (Bs := [.int (x28)]) (rest := []) (aX7_readToken 33 rfl) wc_RX7_57 (by decide) rfl wi_yX7_letter wv_yX7_letter (c111 hS) (s111 hS) rfl rfl rfl (Nat.le_of_ble_eq_true rfl) (Nat.le_of_ble_eq_true rfl) (k_letter2 (d := d + 6) hS hF hI34 hR (x28) ) (fun v35 sv36 p37 => ?_)
        have := congrArg Int32.toInt (show FI32 111 6 = x9 from (up_k u33 (by decide) (kp24)))
        obtain ⟨r38, rfl, rfl, t42, u43⟩ := p37
        have rg_r38 := i_rng r38
        show hw sk base _ _ _ _ _ [.int (r38)] _ _
        refine xw_istoren (L2 := [(1, .int (r38)), (0, .ref (base + 111))]) (aX7_readToken 34 rfl) (by decide) rfl ?_
        refine xw_iloadn (aX7_readToken 35 rfl) rfl ?_
        refine hw_ic (v := ((-1) : Int32)) (aX7_readToken 36 rfl) (by decide) ?_
        refine hw_icne (tgt := 82) (aX7_readToken 37 rfl) (by decide) rfl (by decide : ((-1) : Int32).toInt = (-1)) (fun cd46 => ?_) (fun cd46 => ?_)
        · refine xw_iloadn (aX7_readToken 42 rfl) rfl ?_
          refine hw_callS (As := [.int (r38)]) (rest := []) (aX7_readToken 43 rfl) wc_RX7_61 (by decide) rfl wt_yX7_isSmall rfl rfl (Nat.le_of_ble_eq_true rfl) (Nat.le_of_ble_eq_true rfl) (k_isSmall2 (d := d + 6) hS hF hI34 hR (r38) ) (fun v47 sv48 p49 => ?_)
          obtain ⟨r50, rfl, rfl, t54, t55, t56⟩ := p49
          show hw sk base _ _ _ _ _ [.int (r50)] _ _
          refine hw_ifeq (tgt := 96) (aX7_readToken 44 rfl) (by decide) rfl (fun cd59 => ?_) (fun cd59 => ?_)
          · clear t54
            replace t55 := t55 (by omega)
            refine xw_iloadn (aX7_readToken 48 rfl) rfl ?_
            refine hw_callS (As := [.int (r38)]) (rest := []) (aX7_readToken 49 rfl) wc_RX7_68 (by decide) rfl wt_yX7_isDigit rfl rfl (Nat.le_of_ble_eq_true rfl) (Nat.le_of_ble_eq_true rfl) (k_isDigit2 (d := d + 6) hS hF hI34 hR (r38) ) (fun v60 sv61 p62 => ?_)
            obtain ⟨r63, rfl, rfl, t67, t68, t69⟩ := p62
            show hw sk base _ _ _ _ _ [.int (r63)] _ _
            refine hw_ifeq (tgt := 110) (aX7_readToken 50 rfl) (by decide) rfl (fun cd72 => ?_) (fun cd72 => ?_)
            · clear t67
              replace t68 := t68 (by omega)
              refine xw_iloadn (aX7_readToken 54 rfl) rfl ?_
              refine hw_bp (v := (64 : Int32)) (aX7_readToken 55 rfl) (by decide) ?_
              refine hw_icne (tgt := 123) (aX7_readToken 56 rfl) (by decide) rfl (by decide : (64 : Int32).toInt = 64) (fun cd73 => ?_) (fun cd73 => ?_)
              · refine hw_aloadn (aX7_readToken 60 rfl) rfl ?_
                refine xw_iloadn (aX7_readToken 61 rfl) rfl ?_
                refine hw_callV (Bs := [.int (r38)]) (rest := []) (aX7_readToken 62 rfl) wc_RX7_77 (by decide) rfl wi_yX7_readSign wv_yX7_readSign (c111 hS) (s111 hS) rfl rfl rfl (Nat.le_of_ble_eq_true rfl) (Nat.le_of_ble_eq_true rfl) (k_readSign (d := d + 2) hS hF hI34 hR (r38) (by have := congrArg Int32.toInt (show FI32 111 7 = x28 from up_eq u33); have := congrArg Int32.toInt (show FI32 111 6 = x9 from (up_k u33 (by decide) (kp24))); omega)) (fun v74 sv75 p76 => ?_)
                have := congrArg Int32.toInt (show FI32 111 7 = x28 from up_eq u33)
                have := congrArg Int32.toInt (show FI32 111 7 = x28 from up_eq u33)
                obtain ⟨rfl, FI78, rfl, hI79, f80, t83⟩ := p76
                obtain ⟨x86, h87⟩ : ∃ y, FI78 111 8 = y := ⟨_, rfl⟩
                have h87l := congrArg Int32.toInt h87
                have b88 := gI_111_8 hI79; rw [h87] at b88
                show hw sk base _ _ _ _ _ [] _ _
                refine xw_vret (aX7_readToken 63 rfl) rfl ?_
                obtain ⟨x89, h90⟩ : ∃ y, FI78 111 9 = y := ⟨_, rfl⟩
                have h90l := congrArg Int32.toInt h90
                have := i_rng x89
                exact ⟨rfl, FI78, FL, rfl, hI79, (gf_tr ex_rf (gf_f fr20 u33 (by decide)) f80 rfl rfl rfl), gf_rf, (by have := congrArg Int32.toInt (show FI78 111 7 = x28 from (gf_at f80 (c111 hS) (shd_f (by decide) (s111 hS)) rfl (up_eq u33))); have := congrArg Int32.toInt (show FI78 111 8 = x86 from h87); have := congrArg Int32.toInt (show FI78 111 9 = x89 from h90); omega), (by have := congrArg Int32.toInt (show FI78 111 7 = x28 from (gf_at f80 (c111 hS) (shd_f (by decide) (s111 hS)) rfl (up_eq u33))); have := congrArg Int32.toInt (show FI78 111 8 = x86 from h87); omega)⟩
              · refine hw_aloadn (aX7_readToken 57 rfl) rfl ?_
                refine hw_callV (Bs := []) (rest := []) (aX7_readToken 58 rfl) wc_RX7_74 (by decide) rfl wi_yX7_readAt wv_yX7_readAt (c111 hS) (s111 hS) rfl rfl rfl (Nat.le_of_ble_eq_true rfl) (Nat.le_of_ble_eq_true rfl) (k_X7_readAt (d := d + 5) hS hF hI34 hR (by have := congrArg Int32.toInt (show FI32 111 7 = x28 from up_eq u33); have := congrArg Int32.toInt (show FI32 111 6 = x9 from (up_k u33 (by decide) (kp24))); omega)) (fun v91 sv92 p93 => ?_)
                have := congrArg Int32.toInt (show FI32 111 7 = x28 from up_eq u33)
                have := congrArg Int32.toInt (show FI32 111 7 = x28 from up_eq u33)
                obtain ⟨rfl, FI95, FL96, rfl, hI97, f98, f99, t102, t103⟩ := p93
                obtain ⟨x106, h107⟩ : ∃ y, FI95 111 8 = y := ⟨_, rfl⟩
                have h107l := congrArg Int32.toInt h107
                have b108 := gI_111_8 hI97; rw [h107] at b108
                obtain ⟨x109, h110⟩ : ∃ y, FI95 111 9 = y := ⟨_, rfl⟩
                have h110l := congrArg Int32.toInt h110
                have := i_rng x109
                show hw sk base _ _ _ _ _ [] _ _
                refine xw_goto (tgt := 128) (aX7_readToken 59 rfl) (by decide) ?_
                refine xw_vret (aX7_readToken 63 rfl) rfl ?_
                exact ⟨rfl, FI95, FL96, rfl, hI97, (gf_tr ex_rf (gf_f fr20 u33 (by decide)) f98 rfl rfl rfl), (gf_tr ex_rf gf_rf f99 rfl rfl rfl), (by have := congrArg Int32.toInt (show FI95 111 7 = x28 from (gf_at f98 (c111 hS) (shd_f (by decide) (s111 hS)) rfl (up_eq u33))); have := congrArg Int32.toInt (show FI95 111 8 = x106 from h107); have := congrArg Int32.toInt (show FI95 111 9 = x109 from h110); omega), (by have := congrArg Int32.toInt (show FI95 111 7 = x28 from (gf_at f98 (c111 hS) (shd_f (by decide) (s111 hS)) rfl (up_eq u33))); have := congrArg Int32.toInt (show FI95 111 8 = x106 from h107); omega)⟩
            · replace t67 := t67 (by omega)
              clear t68
              refine hw_aloadn (aX7_readToken 51 rfl) rfl ?_
              refine hw_callV (Bs := []) (rest := []) (aX7_readToken 52 rfl) wc_RX7_71 (by decide) rfl wi_yX7_readNumber wv_yX7_readNumber (c111 hS) (s111 hS) rfl rfl rfl (Nat.le_of_ble_eq_true rfl) (Nat.le_of_ble_eq_true rfl) (k_X7_readNumber (d := d + 5) hS hF hI34 hR (by have := congrArg Int32.toInt (show FI32 111 7 = x28 from up_eq u33); have := congrArg Int32.toInt (show FI32 111 6 = x9 from (up_k u33 (by decide) (kp24))); omega) (by rw [show FI32 111 7 = x28 from up_eq u33, ← u43]; omega)) (fun v111 sv112 p113 => ?_)
              have := congrArg Int32.toInt (show FI32 111 7 = x28 from up_eq u33)
              have := congrArg Int32.toInt (show FI32 111 7 = x28 from up_eq u33)
              obtain ⟨rfl, FI115, FL116, rfl, hI117, f118, f119, t122, t123⟩ := p113
              obtain ⟨x126, h127⟩ : ∃ y, FI115 111 8 = y := ⟨_, rfl⟩
              have h127l := congrArg Int32.toInt h127
              have b128 := gI_111_8 hI117; rw [h127] at b128
              obtain ⟨x129, h130⟩ : ∃ y, FI115 111 9 = y := ⟨_, rfl⟩
              have h130l := congrArg Int32.toInt h130
              have := i_rng x129
              show hw sk base _ _ _ _ _ [] _ _
              refine xw_goto (tgt := 128) (aX7_readToken 53 rfl) (by decide) ?_
              refine xw_vret (aX7_readToken 63 rfl) rfl ?_
              exact ⟨rfl, FI115, FL116, rfl, hI117, (gf_tr ex_rf (gf_f fr20 u33 (by decide)) f118 rfl rfl rfl), (gf_tr ex_rf gf_rf f119 rfl rfl rfl), (by have := congrArg Int32.toInt (show FI115 111 7 = x28 from (gf_at f118 (c111 hS) (shd_f (by decide) (s111 hS)) rfl (up_eq u33))); have := congrArg Int32.toInt (show FI115 111 8 = x126 from h127); have := congrArg Int32.toInt (show FI115 111 9 = x129 from h130); omega), (by have := congrArg Int32.toInt (show FI115 111 7 = x28 from (gf_at f118 (c111 hS) (shd_f (by decide) (s111 hS)) rfl (up_eq u33))); have := congrArg Int32.toInt (show FI115 111 8 = x126 from h127); omega)⟩
          · replace t54 := t54 (by omega)
            clear t55
            refine hw_aloadn (aX7_readToken 45 rfl) rfl ?_
            refine hw_callV (Bs := []) (rest := []) (aX7_readToken 46 rfl) wc_RX7_65 (by decide) rfl wi_yX7_readWord wv_yX7_readWord (c111 hS) (s111 hS) rfl rfl rfl (Nat.le_of_ble_eq_true rfl) (Nat.le_of_ble_eq_true rfl) (k_X7_readWord (d := d) hS hF hI34 hR (by have := congrArg Int32.toInt (show FI32 111 7 = x28 from up_eq u33); have := congrArg Int32.toInt (show FI32 111 6 = x9 from (up_k u33 (by decide) (kp24))); omega) (by rw [show FI32 111 7 = x28 from up_eq u33, ← u43]; omega)) (fun v131 sv132 p133 => ?_)
            have := congrArg Int32.toInt (show FI32 111 7 = x28 from up_eq u33)
            have := congrArg Int32.toInt (show FI32 111 7 = x28 from up_eq u33)
            obtain ⟨rfl, FI135, rfl, hI136, f137, t140, t141⟩ := p133
            obtain ⟨x144, h145⟩ : ∃ y, FI135 111 8 = y := ⟨_, rfl⟩
            have h145l := congrArg Int32.toInt h145
            have b146 := gI_111_8 hI136; rw [h145] at b146
            obtain ⟨x147, h148⟩ : ∃ y, FI135 111 9 = y := ⟨_, rfl⟩
            have h148l := congrArg Int32.toInt h148
            have := i_rng x147
            show hw sk base _ _ _ _ _ [] _ _
            refine xw_goto (tgt := 128) (aX7_readToken 47 rfl) (by decide) ?_
            refine xw_vret (aX7_readToken 63 rfl) rfl ?_
            exact ⟨rfl, FI135, FL, rfl, hI136, (gf_tr ex_rf (gf_f fr20 u33 (by decide)) f137 rfl rfl rfl), gf_rf, (by have := congrArg Int32.toInt (show FI135 111 7 = x28 from (gf_at f137 (c111 hS) (shd_f (by decide) (s111 hS)) rfl (up_eq u33))); have := congrArg Int32.toInt (show FI135 111 8 = x144 from h145); have := congrArg Int32.toInt (show FI135 111 9 = x147 from h148); omega), (by have := congrArg Int32.toInt (show FI135 111 7 = x28 from (gf_at f137 (c111 hS) (shd_f (by decide) (s111 hS)) rfl (up_eq u33))); have := congrArg Int32.toInt (show FI135 111 8 = x144 from h145); omega)⟩
        · refine hw_aloadn (aX7_readToken 38 rfl) rfl ?_
          refine hw_ic (v := (2 : Int32)) (aX7_readToken 39 rfl) (by decide) ?_
          refine hv_puti (aX7_readToken 40 rfl) wf_RX7_44 (c111 hS) (s111 hS) (by decide) rfl rfl (fun FI149 u150 => ?_)
          have hI151 : g_I FI149 := gU_F hI34 u150 rfl
          refine xw_goto (tgt := 128) (aX7_readToken 41 rfl) (by decide) ?_
          refine xw_vret (aX7_readToken 63 rfl) rfl ?_
          exact ⟨rfl, FI149, FL, rfl, hI151, (gf_f (gf_f fr20 u33 (by decide)) u150 (by decide)), gf_rf, (by have := congrArg Int32.toInt (show FI149 111 7 = x28 from (up_k u150 (by decide) (up_eq u33))); have := congrArg Int32.toInt (show FI149 111 8 = x28 from (up_k u150 (by decide) ((up_k u33 (by decide) (h29))))); have := congrArg Int32.toInt (show FI149 111 9 = (2 : Int32) from up_eq u150); have := ((by decide : (2 : Int32).toInt = 2) : ((2 : Int32)).toInt = 2); omega), (by have := congrArg Int32.toInt (show FI149 111 7 = x28 from (up_k u150 (by decide) (up_eq u33))); have := congrArg Int32.toInt (show FI149 111 8 = x28 from (up_k u150 (by decide) ((up_k u33 (by decide) (h29))))); omega)⟩
      · refine hw_aloadn (aX7_readToken 5 rfl) rfl ?_
        refine hw_get (v := .ref (base + r15)) (aX7_readToken 6 rfl) wf_RX7_25 (c111 hS) (s111 hS) (by decide) (congrArg (fun r => va_rf (h_rf base r)) (show FR 111 5 = some r15 from h13)) ?_
        refine hw_aloadn (aX7_readToken 7 rfl) rfl ?_
        refine hw_get (v := .int (x28)) (aX7_readToken 8 rfl) wf_RX7_38 (c111 hS) (s111 hS) (by decide) (congrArg Value.int (show FIv19 111 8 = x28 from h29)) ?_
        obtain ⟨x152, h153⟩ : ∃ y, FIv19 r15 (x28).toNatClampNeg = y := ⟨_, rfl⟩
        have h153l := congrArg Int32.toInt h153
        have := i_rng x152
        refine hw_iald (v := x152) (aX7_readToken 9 rfl) lt16 sh18 (h_in rfl (by omega) (by omega)) (show FIv19 r15 (x28).toNatClampNeg = x152 from h153) ?_
        refine hw_bp (v := (10 : Int32)) (aX7_readToken 10 rfl) (by decide) ?_
        refine hw_iceq (tgt := 39) (aX7_readToken 11 rfl) (by decide) rfl (by decide : (10 : Int32).toInt = 10) (fun cd154 => ?_) (fun cd154 => ?_)
        · refine hw_aloadn (aX7_readToken 19 rfl) rfl ?_
          refine xw_dup (aX7_readToken 20 rfl) rfl ?_
          refine hw_get (v := .int (x28)) (aX7_readToken 21 rfl) wf_RX7_38 (c111 hS) (s111 hS) (by decide) (congrArg Value.int (show FIv19 111 8 = x28 from h29)) ?_
          refine hw_ic (v := (1 : Int32)) (aX7_readToken 22 rfl) (by decide) ?_
          refine xw_iadd (aX7_readToken 23 rfl) ?_
          refine hw_tie (A := ((x28).toInt) + (1)) (i_add rfl (by decide : (1 : Int32).toInt = 1) (by omega) (by omega)) (fun x155 e156 => ?_)
          refine hv_puti (aX7_readToken 24 rfl) wf_RX7_38 (c111 hS) (s111 hS) (by decide) rfl rfl (fun FI157 u158 => ?_)
          have hI159 : g_I FI157 := gU_111_8 hI21 u158 (by have := (e156 : (x155).toInt = ((x28).toInt) + (1)); omega) (by have := (e156 : (x155).toInt = ((x28).toInt) + (1)); omega)
          refine xw_goto (tgt := 0) (aX7_readToken 25 rfl) (by decide) ?_
          exact hw_L (ih FI157 (gf_f fr20 u158 (by decide)) hI159 (show FI157 111 9 = x1 from (up_k u158 (by decide) (kp22))) (show FI157 111 7 = x6 from (up_k u158 (by decide) (kp23))) (show FI157 111 6 = x9 from (up_k u158 (by decide) (kp24))) (by have := congrArg Int32.toInt (show FI157 111 8 = x155 from up_eq u158); have := (e156 : (x155).toInt = ((x28).toInt) + (1)); omega) (by have := congrArg Int32.toInt (show FI157 111 8 = x155 from up_eq u158); have := (e156 : (x155).toInt = ((x28).toInt) + (1)); omega) (by have := congrArg Int32.toInt (show FI157 111 8 = x155 from up_eq u158); have := (e156 : (x155).toInt = ((x28).toInt) + (1)); omega)) ⟨rfl, trivial⟩
        · refine hw_aloadn (aX7_readToken 12 rfl) rfl ?_
          refine hw_get (v := .ref (base + r15)) (aX7_readToken 13 rfl) wf_RX7_25 (c111 hS) (s111 hS) (by decide) (congrArg (fun r => va_rf (h_rf base r)) (show FR 111 5 = some r15 from h13)) ?_
          refine hw_aloadn (aX7_readToken 14 rfl) rfl ?_
          refine hw_get (v := .int (x28)) (aX7_readToken 15 rfl) wf_RX7_38 (c111 hS) (s111 hS) (by decide) (congrArg Value.int (show FIv19 111 8 = x28 from h29)) ?_
          refine hw_iald (v := x152) (aX7_readToken 16 rfl) lt16 sh18 (h_in rfl (by omega) (by omega)) (show FIv19 r15 (x28).toNatClampNeg = x152 from h153) ?_
          refine hw_bp (v := (32 : Int32)) (aX7_readToken 17 rfl) (by decide) ?_
          refine hw_icne (tgt := 52) (aX7_readToken 18 rfl) (by decide) rfl (by decide : (32 : Int32).toInt = 32) (fun cd160 => ?_) (fun cd160 => ?_)
          · refine hw_aloadn (aX7_readToken 26 rfl) rfl ?_
            refine hw_aloadn (aX7_readToken 27 rfl) rfl ?_
            refine hw_get (v := .int (x28)) (aX7_readToken 28 rfl) wf_RX7_38 (c111 hS) (s111 hS) (by decide) (congrArg Value.int (show FIv19 111 8 = x28 from h29)) ?_
            refine hv_puti (aX7_readToken 29 rfl) wf_RX7_54 (c111 hS) (s111 hS) (by decide) rfl rfl (fun FI161 u162 => ?_)
            have hI163 : g_I FI161 := gU_111_7 hI21 u162 (by omega) (by omega)
            refine hw_aloadn (aX7_readToken 30 rfl) rfl ?_
            refine hw_aloadn (aX7_readToken 31 rfl) rfl ?_
            refine hw_get (v := .int (x28)) (aX7_readToken 32 rfl) wf_RX7_38 (c111 hS) (s111 hS) (by decide) (congrArg Value.int (show FI161 111 8 = x28 from (up_k u162 (by decide) (h29)))) ?_
            refine hw_callV (Bs := [.int (x28)]) (rest := []) (aX7_readToken 33 rfl) wc_RX7_57 (by decide) rfl wi_yX7_letter wv_yX7_letter (c111 hS) (s111 hS) rfl rfl rfl (Nat.le_of_ble_eq_true rfl) (Nat.le_of_ble_eq_true rfl) (k_letter2 (d := d + 6) hS hF hI163 hR (x28) ) (fun v164 sv165 p166 => ?_)
            have := congrArg Int32.toInt (show FI161 111 6 = x9 from (up_k u162 (by decide) (kp24)))
            obtain ⟨r167, rfl, rfl, t171, u172⟩ := p166
            have rg_r167 := i_rng r167
            show hw sk base _ _ _ _ _ [.int (r167)] _ _
            refine xw_istoren (L2 := [(1, .int (r167)), (0, .ref (base + 111))]) (aX7_readToken 34 rfl) (by decide) rfl ?_
            refine xw_iloadn (aX7_readToken 35 rfl) rfl ?_
            refine hw_ic (v := ((-1) : Int32)) (aX7_readToken 36 rfl) (by decide) ?_
            refine hw_icne (tgt := 82) (aX7_readToken 37 rfl) (by decide) rfl (by decide : ((-1) : Int32).toInt = (-1)) (fun cd175 => ?_) (fun cd175 => ?_)
            · refine xw_iloadn (aX7_readToken 42 rfl) rfl ?_
              refine hw_callS (As := [.int (r167)]) (rest := []) (aX7_readToken 43 rfl) wc_RX7_61 (by decide) rfl wt_yX7_isSmall rfl rfl (Nat.le_of_ble_eq_true rfl) (Nat.le_of_ble_eq_true rfl) (k_isSmall2 (d := d + 6) hS hF hI163 hR (r167) ) (fun v176 sv177 p178 => ?_)
              obtain ⟨r179, rfl, rfl, t183, t184, t185⟩ := p178
              show hw sk base _ _ _ _ _ [.int (r179)] _ _
              refine hw_ifeq (tgt := 96) (aX7_readToken 44 rfl) (by decide) rfl (fun cd188 => ?_) (fun cd188 => ?_)
              · clear t183
                replace t184 := t184 (by omega)
                refine xw_iloadn (aX7_readToken 48 rfl) rfl ?_
                refine hw_callS (As := [.int (r167)]) (rest := []) (aX7_readToken 49 rfl) wc_RX7_68 (by decide) rfl wt_yX7_isDigit rfl rfl (Nat.le_of_ble_eq_true rfl) (Nat.le_of_ble_eq_true rfl) (k_isDigit2 (d := d + 6) hS hF hI163 hR (r167) ) (fun v189 sv190 p191 => ?_)
                obtain ⟨r192, rfl, rfl, t196, t197, t198⟩ := p191
                show hw sk base _ _ _ _ _ [.int (r192)] _ _
                refine hw_ifeq (tgt := 110) (aX7_readToken 50 rfl) (by decide) rfl (fun cd201 => ?_) (fun cd201 => ?_)
                · clear t196
                  replace t197 := t197 (by omega)
                  refine xw_iloadn (aX7_readToken 54 rfl) rfl ?_
                  refine hw_bp (v := (64 : Int32)) (aX7_readToken 55 rfl) (by decide) ?_
                  refine hw_icne (tgt := 123) (aX7_readToken 56 rfl) (by decide) rfl (by decide : (64 : Int32).toInt = 64) (fun cd202 => ?_) (fun cd202 => ?_)
                  · refine hw_aloadn (aX7_readToken 60 rfl) rfl ?_
                    refine xw_iloadn (aX7_readToken 61 rfl) rfl ?_
                    refine hw_callV (Bs := [.int (r167)]) (rest := []) (aX7_readToken 62 rfl) wc_RX7_77 (by decide) rfl wi_yX7_readSign wv_yX7_readSign (c111 hS) (s111 hS) rfl rfl rfl (Nat.le_of_ble_eq_true rfl) (Nat.le_of_ble_eq_true rfl) (k_readSign (d := d + 2) hS hF hI163 hR (r167) (by have := congrArg Int32.toInt (show FI161 111 7 = x28 from up_eq u162); have := congrArg Int32.toInt (show FI161 111 6 = x9 from (up_k u162 (by decide) (kp24))); omega)) (fun v203 sv204 p205 => ?_)
                    have := congrArg Int32.toInt (show FI161 111 7 = x28 from up_eq u162)
                    have := congrArg Int32.toInt (show FI161 111 7 = x28 from up_eq u162)
                    obtain ⟨rfl, FI207, rfl, hI208, f209, t212⟩ := p205
                    obtain ⟨x215, h216⟩ : ∃ y, FI207 111 8 = y := ⟨_, rfl⟩
                    have h216l := congrArg Int32.toInt h216
                    have b217 := gI_111_8 hI208; rw [h216] at b217
                    show hw sk base _ _ _ _ _ [] _ _
                    refine xw_vret (aX7_readToken 63 rfl) rfl ?_
                    obtain ⟨x218, h219⟩ : ∃ y, FI207 111 9 = y := ⟨_, rfl⟩
                    have h219l := congrArg Int32.toInt h219
                    have := i_rng x218
                    exact ⟨rfl, FI207, FL, rfl, hI208, (gf_tr ex_rf (gf_f fr20 u162 (by decide)) f209 rfl rfl rfl), gf_rf, (by have := congrArg Int32.toInt (show FI207 111 7 = x28 from (gf_at f209 (c111 hS) (shd_f (by decide) (s111 hS)) rfl (up_eq u162))); have := congrArg Int32.toInt (show FI207 111 8 = x215 from h216); have := congrArg Int32.toInt (show FI207 111 9 = x218 from h219); omega), (by have := congrArg Int32.toInt (show FI207 111 7 = x28 from (gf_at f209 (c111 hS) (shd_f (by decide) (s111 hS)) rfl (up_eq u162))); have := congrArg Int32.toInt (show FI207 111 8 = x215 from h216); omega)⟩
                  · refine hw_aloadn (aX7_readToken 57 rfl) rfl ?_
                    refine hw_callV (Bs := []) (rest := []) (aX7_readToken 58 rfl) wc_RX7_74 (by decide) rfl wi_yX7_readAt wv_yX7_readAt (c111 hS) (s111 hS) rfl rfl rfl (Nat.le_of_ble_eq_true rfl) (Nat.le_of_ble_eq_true rfl) (k_X7_readAt (d := d + 5) hS hF hI163 hR (by have := congrArg Int32.toInt (show FI161 111 7 = x28 from up_eq u162); have := congrArg Int32.toInt (show FI161 111 6 = x9 from (up_k u162 (by decide) (kp24))); omega)) (fun v220 sv221 p222 => ?_)
                    have := congrArg Int32.toInt (show FI161 111 7 = x28 from up_eq u162)
                    have := congrArg Int32.toInt (show FI161 111 7 = x28 from up_eq u162)
                    obtain ⟨rfl, FI224, FL225, rfl, hI226, f227, f228, t231, t232⟩ := p222
                    obtain ⟨x235, h236⟩ : ∃ y, FI224 111 8 = y := ⟨_, rfl⟩
                    have h236l := congrArg Int32.toInt h236
                    have b237 := gI_111_8 hI226; rw [h236] at b237
                    obtain ⟨x238, h239⟩ : ∃ y, FI224 111 9 = y := ⟨_, rfl⟩
                    have h239l := congrArg Int32.toInt h239
                    have := i_rng x238
                    show hw sk base _ _ _ _ _ [] _ _
                    refine xw_goto (tgt := 128) (aX7_readToken 59 rfl) (by decide) ?_
                    refine xw_vret (aX7_readToken 63 rfl) rfl ?_
                    exact ⟨rfl, FI224, FL225, rfl, hI226, (gf_tr ex_rf (gf_f fr20 u162 (by decide)) f227 rfl rfl rfl), (gf_tr ex_rf gf_rf f228 rfl rfl rfl), (by have := congrArg Int32.toInt (show FI224 111 7 = x28 from (gf_at f227 (c111 hS) (shd_f (by decide) (s111 hS)) rfl (up_eq u162))); have := congrArg Int32.toInt (show FI224 111 8 = x235 from h236); have := congrArg Int32.toInt (show FI224 111 9 = x238 from h239); omega), (by have := congrArg Int32.toInt (show FI224 111 7 = x28 from (gf_at f227 (c111 hS) (shd_f (by decide) (s111 hS)) rfl (up_eq u162))); have := congrArg Int32.toInt (show FI224 111 8 = x235 from h236); omega)⟩
                · replace t196 := t196 (by omega)
                  clear t197
                  refine hw_aloadn (aX7_readToken 51 rfl) rfl ?_
                  refine hw_callV (Bs := []) (rest := []) (aX7_readToken 52 rfl) wc_RX7_71 (by decide) rfl wi_yX7_readNumber wv_yX7_readNumber (c111 hS) (s111 hS) rfl rfl rfl (Nat.le_of_ble_eq_true rfl) (Nat.le_of_ble_eq_true rfl) (k_X7_readNumber (d := d + 5) hS hF hI163 hR (by have := congrArg Int32.toInt (show FI161 111 7 = x28 from up_eq u162); have := congrArg Int32.toInt (show FI161 111 6 = x9 from (up_k u162 (by decide) (kp24))); omega) (by rw [show FI161 111 7 = x28 from up_eq u162, ← u172]; omega)) (fun v240 sv241 p242 => ?_)
                  have := congrArg Int32.toInt (show FI161 111 7 = x28 from up_eq u162)
                  have := congrArg Int32.toInt (show FI161 111 7 = x28 from up_eq u162)
                  obtain ⟨rfl, FI244, FL245, rfl, hI246, f247, f248, t251, t252⟩ := p242
                  obtain ⟨x255, h256⟩ : ∃ y, FI244 111 8 = y := ⟨_, rfl⟩
                  have h256l := congrArg Int32.toInt h256
                  have b257 := gI_111_8 hI246; rw [h256] at b257
                  obtain ⟨x258, h259⟩ : ∃ y, FI244 111 9 = y := ⟨_, rfl⟩
                  have h259l := congrArg Int32.toInt h259
                  have := i_rng x258
                  show hw sk base _ _ _ _ _ [] _ _
                  refine xw_goto (tgt := 128) (aX7_readToken 53 rfl) (by decide) ?_
                  refine xw_vret (aX7_readToken 63 rfl) rfl ?_
                  exact ⟨rfl, FI244, FL245, rfl, hI246, (gf_tr ex_rf (gf_f fr20 u162 (by decide)) f247 rfl rfl rfl), (gf_tr ex_rf gf_rf f248 rfl rfl rfl), (by have := congrArg Int32.toInt (show FI244 111 7 = x28 from (gf_at f247 (c111 hS) (shd_f (by decide) (s111 hS)) rfl (up_eq u162))); have := congrArg Int32.toInt (show FI244 111 8 = x255 from h256); have := congrArg Int32.toInt (show FI244 111 9 = x258 from h259); omega), (by have := congrArg Int32.toInt (show FI244 111 7 = x28 from (gf_at f247 (c111 hS) (shd_f (by decide) (s111 hS)) rfl (up_eq u162))); have := congrArg Int32.toInt (show FI244 111 8 = x255 from h256); omega)⟩
              · replace t183 := t183 (by omega)
                clear t184
                refine hw_aloadn (aX7_readToken 45 rfl) rfl ?_
                refine hw_callV (Bs := []) (rest := []) (aX7_readToken 46 rfl) wc_RX7_65 (by decide) rfl wi_yX7_readWord wv_yX7_readWord (c111 hS) (s111 hS) rfl rfl rfl (Nat.le_of_ble_eq_true rfl) (Nat.le_of_ble_eq_true rfl) (k_X7_readWord (d := d) hS hF hI163 hR (by have := congrArg Int32.toInt (show FI161 111 7 = x28 from up_eq u162); have := congrArg Int32.toInt (show FI161 111 6 = x9 from (up_k u162 (by decide) (kp24))); omega) (by rw [show FI161 111 7 = x28 from up_eq u162, ← u172]; omega)) (fun v260 sv261 p262 => ?_)
                have := congrArg Int32.toInt (show FI161 111 7 = x28 from up_eq u162)
                have := congrArg Int32.toInt (show FI161 111 7 = x28 from up_eq u162)
                obtain ⟨rfl, FI264, rfl, hI265, f266, t269, t270⟩ := p262
                obtain ⟨x273, h274⟩ : ∃ y, FI264 111 8 = y := ⟨_, rfl⟩
                have h274l := congrArg Int32.toInt h274
                have b275 := gI_111_8 hI265; rw [h274] at b275
                obtain ⟨x276, h277⟩ : ∃ y, FI264 111 9 = y := ⟨_, rfl⟩
                have h277l := congrArg Int32.toInt h277
                have := i_rng x276
                show hw sk base _ _ _ _ _ [] _ _
                refine xw_goto (tgt := 128) (aX7_readToken 47 rfl) (by decide) ?_
                refine xw_vret (aX7_readToken 63 rfl) rfl ?_
                exact ⟨rfl, FI264, FL, rfl, hI265, (gf_tr ex_rf (gf_f fr20 u162 (by decide)) f266 rfl rfl rfl), gf_rf, (by have := congrArg Int32.toInt (show FI264 111 7 = x28 from (gf_at f266 (c111 hS) (shd_f (by decide) (s111 hS)) rfl (up_eq u162))); have := congrArg Int32.toInt (show FI264 111 8 = x273 from h274); have := congrArg Int32.toInt (show FI264 111 9 = x276 from h277); omega), (by have := congrArg Int32.toInt (show FI264 111 7 = x28 from (gf_at f266 (c111 hS) (shd_f (by decide) (s111 hS)) rfl (up_eq u162))); have := congrArg Int32.toInt (show FI264 111 8 = x273 from h274); omega)⟩
            · refine hw_aloadn (aX7_readToken 38 rfl) rfl ?_
              refine hw_ic (v := (2 : Int32)) (aX7_readToken 39 rfl) (by decide) ?_
              refine hv_puti (aX7_readToken 40 rfl) wf_RX7_44 (c111 hS) (s111 hS) (by decide) rfl rfl (fun FI278 u279 => ?_)
              have hI280 : g_I FI278 := gU_F hI163 u279 rfl
              refine xw_goto (tgt := 128) (aX7_readToken 41 rfl) (by decide) ?_
              refine xw_vret (aX7_readToken 63 rfl) rfl ?_
              exact ⟨rfl, FI278, FL, rfl, hI280, (gf_f (gf_f fr20 u162 (by decide)) u279 (by decide)), gf_rf, (by have := congrArg Int32.toInt (show FI278 111 7 = x28 from (up_k u279 (by decide) (up_eq u162))); have := congrArg Int32.toInt (show FI278 111 8 = x28 from (up_k u279 (by decide) ((up_k u162 (by decide) (h29))))); have := congrArg Int32.toInt (show FI278 111 9 = (2 : Int32) from up_eq u279); have := ((by decide : (2 : Int32).toInt = 2) : ((2 : Int32)).toInt = 2); omega), (by have := congrArg Int32.toInt (show FI278 111 7 = x28 from (up_k u279 (by decide) (up_eq u162))); have := congrArg Int32.toInt (show FI278 111 8 = x28 from (up_k u279 (by decide) ((up_k u162 (by decide) (h29))))); omega)⟩
          · refine hw_aloadn (aX7_readToken 19 rfl) rfl ?_
            refine xw_dup (aX7_readToken 20 rfl) rfl ?_
            refine hw_get (v := .int (x28)) (aX7_readToken 21 rfl) wf_RX7_38 (c111 hS) (s111 hS) (by decide) (congrArg Value.int (show FIv19 111 8 = x28 from h29)) ?_
            refine hw_ic (v := (1 : Int32)) (aX7_readToken 22 rfl) (by decide) ?_
            refine xw_iadd (aX7_readToken 23 rfl) ?_
            refine hw_tie (A := ((x28).toInt) + (1)) (i_add rfl (by decide : (1 : Int32).toInt = 1) (by omega) (by omega)) (fun x281 e282 => ?_)
            refine hv_puti (aX7_readToken 24 rfl) wf_RX7_38 (c111 hS) (s111 hS) (by decide) rfl rfl (fun FI283 u284 => ?_)
            have hI285 : g_I FI283 := gU_111_8 hI21 u284 (by have := (e282 : (x281).toInt = ((x28).toInt) + (1)); omega) (by have := (e282 : (x281).toInt = ((x28).toInt) + (1)); omega)
            refine xw_goto (tgt := 0) (aX7_readToken 25 rfl) (by decide) ?_
            exact hw_L (ih FI283 (gf_f fr20 u284 (by decide)) hI285 (show FI283 111 9 = x1 from (up_k u284 (by decide) (kp22))) (show FI283 111 7 = x6 from (up_k u284 (by decide) (kp23))) (show FI283 111 6 = x9 from (up_k u284 (by decide) (kp24))) (by have := congrArg Int32.toInt (show FI283 111 8 = x281 from up_eq u284); have := (e282 : (x281).toInt = ((x28).toInt) + (1)); omega) (by have := congrArg Int32.toInt (show FI283 111 8 = x281 from up_eq u284); have := (e282 : (x281).toInt = ((x28).toInt) + (1)); omega) (by have := congrArg Int32.toInt (show FI283 111 8 = x281 from up_eq u284); have := (e282 : (x281).toInt = ((x28).toInt) + (1)); omega)) ⟨rfl, trivial⟩
  exact hw_L (lp27 ((1100 - (x3).toInt : Int).toNat + 1) FI gf_rf hI (show FI 111 9 = x1 from h2) (show FI 111 7 = x6 from h7) (show FI 111 6 = x9 from h10) (by have := congrArg Int32.toInt (show FI 111 8 = x3 from h4); omega) (by have := congrArg Int32.toInt (show FI 111 8 = x3 from h4); omega) (by have := congrArg Int32.toInt (show FI 111 8 = x3 from h4); omega)) ⟨rfl, trivial⟩
