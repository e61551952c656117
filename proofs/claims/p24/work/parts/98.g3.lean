section
def nX7_readToken : Nat := 0xb14d00b61b2a0800a74a00b62a0a00a040101b1500a74700b62a0a00994400b81b2300a74100b62a0a00993d00b81b3100a72c00b5052a0b00a0021b3c3900b62600b42a2a3600b52600b42a2acfffa72600b560042600b4592a1000a020102e2600b42a1900b42a11009f0a102e2600b42a1900b42a2c00a22200b42a2600b42a
theorem bX7_readToken : cX7_readToken.data.toList.map UInt8.toNat = x_un nX7_readToken 129 := by decide +kernel
def iX7_readToken : List (Nat × Jvm.ClassFile.Instr × Nat) := [(0, .aload_n 0, 1), (1, .getfield 38, 3), (4, .aload_n 0, 1), (5, .getfield 34, 3), (8, .if_icmp .ge 44, 3), (11, .aload_n 0, 1), (12, .getfield 25, 3), (15, .aload_n 0, 1), (16, .getfield 38, 3), (19, .iaload, 1), (20, .bipush 10, 2), (22, .if_icmp .eq 17, 3), (25, .aload_n 0, 1), (26, .getfield 25, 3), (29, .aload_n 0, 1), (30, .getfield 38, 3), (33, .iaload, 1), (34, .bipush 32, 2), (36, .if_icmp .ne 16, 3), (39, .aload_n 0, 1), (40, .dup, 1), (41, .getfield 38, 3), (44, .iconst 1, 1), (45, .iadd, 1), (46, .putfield 38, 3), (49, .goto (-49), 3), (52, .aload_n 0, 1), (53, .aload_n 0, 1), (54, .getfield 38, 3), (57, .putfield 54, 3), (60, .aload_n 0, 1), (61, .aload_n 0, 1), (62, .getfield 38, 3), (65, .invokevirtual 57, 3), (68, .istore_n 1, 1), (69, .iload_n 1, 1), (70, .iconst (-1), 1), (71, .if_icmp .ne 11, 3), (74, .aload_n 0, 1), (75, .iconst 2, 1), (76, .putfield 44, 3), (79, .goto 49, 3), (82, .iload_n 1, 1), (83, .invokestatic 61, 3), (86, .ifCond .eq 10, 3), (89, .aload_n 0, 1), (90, .invokevirtual 65, 3), (93, .goto 35, 3), (96, .iload_n 1, 1), (97, .invokestatic 68, 3), (100, .ifCond .eq 10, 3), (103, .aload_n 0, 1), (104, .invokevirtual 71, 3), (107, .goto 21, 3), (110, .iload_n 1, 1), (111, .bipush 64, 2), (113, .if_icmp .ne 10, 3), (116, .aload_n 0, 1), (117, .invokevirtual 74, 3), (120, .goto 8, 3), (123, .aload_n 0, 1), (124, .iload_n 1, 1), (125, .invokevirtual 77, 3), (128, .return_, 1)]
theorem dX7_readToken : x_il nX7_readToken 129 iX7_readToken = true := by decide +kernel
theorem aX7_readToken (k : Nat) {pc : Nat} {i : Jvm.ClassFile.Instr} {len : Nat} (hk : iX7_readToken[k]? = some (pc, i, len)) : x_at xMM 66 pc i len yX7_readToken 2 none := ⟨cX7_readToken, rfl, x_il_ok bX7_readToken dX7_readToken k hk⟩
set_option maxHeartbeats 4000000 in
set_option maxRecDepth 100000 in
theorem k_X7_readToken {sk : xK} {base d n sl : Nat} {SH : Nat → Nat × Nat} {FI : Nat → Nat → Int32} {FL : Nat → Nat → Int64} {FR : Nat → Nat → Option Nat} (hS : h_S n SH) (hF : h_FR FR) (hI : g_I FI) (hR : g_R n SH FR) (gg0 : ∀ t, FR 111 5 = some t → (FI 111 6).toInt ≤ ((SH t).2 : Int)) : hw sk base (d + 7) none 66 0 [(0, .ref (base + 111))] [] (n, sl, SH, FI, FL, FR) (h_V (fun s => ∃ FI' FL', s = (n, sl, SH, FI', FL', FR) ∧ g_I FI' ∧ g_fr n (shd SH) [(111, 7), (111, 8), (111, 9)] [] [] FI FI' ∧ g_fr n (shd SH) [(111, 10)] [] [] FL FL' ∧ (((FI' 111 9).toInt = 2 ∧ (FI' 111 8).toInt = (FI' 111 7).toInt) ∨ ((FI 111 8).toInt + 1 ≤ (FI' 111 8).toInt ∧ (FI 111 8).toInt < (FI 111 6).toInt)) ∧ ((FI' 111 7).toInt ≤ (FI' 111 8).toInt ∧ (FI' 111 8).toInt ≤ (FI' 111 7).toInt + 20))) := by
  obtain ⟨x1, h2⟩ : ∃ y, FI 111 9 = y := ⟨_, rfl⟩
  have h2l := congrArg Int32.toInt h2
  have := i_rng x1
  obtain ⟨x3, h4⟩ : ∃ y, FI 111 8 = y := ⟨_, rfl⟩
  have h4l := congrArg Int32.toInt h4
  have b5 := gI_111_8 hI; rw [h4] at b5
  obtain ⟨x6, h7⟩ : ∃ y, FI 111 7 = y := ⟨_, rfl⟩
  have h7l := congrArg Int32.toInt h7
  have b8 := gI_111_7 hI; rw [h7] at b8
  obtain ⟨x9, h10⟩ : ∃ y, FI 111 6 = y := ⟨_, rfl⟩
  have h10l := congrArg Int32.toInt h10
  have b11 := gI_111_6 hI; rw [h10] at b11
  obtain ⟨o12, h13⟩ : ∃ y, FR 111 5 = y := ⟨_, rfl⟩
  have ht14 : ∀ r, o12 = some r → r < n ∧ own r ∧ SH r = (100, (SH r).2) := fun r e => gR_get hR (c111 hS) (Or.inl (by decide)) (s111 hS) (h13.trans e)
  obtain ⟨r15, rfl⟩ := gR_nn hR (by unfold g_nn; omega) h13
  obtain ⟨lt16, ow17, sh18⟩ := ht14 r15 rfl
  have hln := gg0 r15 (show FR 111 5 = some r15 from h13)
  have lp27 : ∀ (m : Nat) (FIv19 : Nat → Nat → Int32), (g_fr n (shd SH) [(111, 7), (111, 8), (111, 9)] [] [] FI FIv19) → (g_I FIv19) → (FIv19 111 9 = x1) → (FIv19 111 7 = x6) → (FIv19 111 6 = x9) → ((FI 111 8).toInt ≤ (FIv19 111 8).toInt) → ((FIv19 111 8).toInt ≤ 1003) → 1100 - (FIv19 111 8).toInt < m → hw sk base (d + 7) none 66 0 [(0, .ref (base + 111))] [] (n, sl, SH, FIv19, FL, FR) (h_V (fun s => ∃ FI' FL', s = (n, sl, SH, FI', FL', FR) ∧ g_I FI' ∧ g_fr n (shd SH) [(111, 7), (111, 8), (111, 9)] [] [] FI FI' ∧ g_fr n (shd SH) [(111, 10)] [] [] FL FL' ∧ (((FI' 111 9).toInt = 2 ∧ (FI' 111 8).toInt = (FI' 111 7).toInt) ∨ ((FI 111 8).toInt + 1 ≤ (FI' 111 8).toInt ∧ (FI 111 8).toInt < (FI 111 6).toInt)) ∧ ((FI' 111 7).toInt ≤ (FI' 111 8).toInt ∧ (FI' 111 8).toInt ≤ (FI' 111 7).toInt + 20))) := by
    intro m
    induction m with
    | zero => intro FIv19 fr20 hI21 kp22 kp23 kp24 iv25 iv26 hm; omega
    | succ m ih =>
      intro FIv19 fr20 hI21 kp22 kp23 kp24 iv25 iv26 hm
      have := congrArg Int32.toInt kp22
      have := congrArg Int32.toInt kp23
      have := congrArg Int32.toInt kp24
      obtain ⟨x28, h29⟩ : ∃ y, FIv19 111 8 = y := ⟨_, rfl⟩
      have h29l := congrArg Int32.toInt h29
      have b30 := gI_111_8 hI21; rw [h29] at b30
      refine hw_aloadn (aX7_readToken 0 rfl) rfl ?_
      refine hw_get (v := .int (x28)) (aX7_readToken 1 rfl) wf_RX7_38 (c111 hS) (s111 hS) (by decide) (congrArg Value.int (show FIv19 111 8 = x28 from h29)) ?_
      refine hw_aloadn (aX7_readToken 2 rfl) rfl ?_
      refine hw_get (v := .int (x9)) (aX7_readToken 3 rfl) wf_RX7_34 (c111 hS) (s111 hS) (by decide) (congrArg Value.int (show FIv19 111 6 = x9 from kp24)) ?_
      refine hw_icge (tgt := 52) (aX7_readToken 4 rfl) (by decide) rfl rfl (fun cd31 => ?_) (fun cd31 => ?_)
      · refine hw_aloadn (aX7_readToken 26 rfl) rfl ?_
        refine hw_aloadn (aX7_readToken 27 rfl) rfl ?_
        refine hw_get (v := .int (x28)) (aX7_readToken 28 rfl) wf_RX7_38 (c111 hS) (s111 hS) (by decide) (congrArg Value.int (show FIv19 111 8 = x28 from h29)) ?_
        refine hv_puti (aX7_readToken 29 rfl) wf_RX7_54 (c111 hS) (s111 hS) (by decide) rfl rfl (fun FI32 u33 => ?_)
        have hI34 : g_I FI32 := gU_111_7 hI21 u33 (by omega) (by omega)
        refine hw_aloadn (aX7_readToken 30 rfl) rfl ?_
        refine hw_aloadn (aX7_readToken 31 rfl) rfl ?_
        refine hw_get (v := .int (x28)) (aX7_readToken 32 rfl) wf_RX7_38 (c111 hS) (s111 hS) (by decide) (congrArg Value.int (show FI32 111 8 = x28 from (up_k u33 (by decide) (h29)))) ?_
        refine hw_callV (Bs := [.int (x28)]) (rest := []) (aX7_readToken 33 rfl) wc_RX7_57 (by decide) rfl wi_yX7_letter wv_yX7_letter (c111 hS) (s111 hS) rfl rfl rfl (Nat.le_of_ble_eq_true rfl) (Nat.le_of_ble_eq_true rfl) (k_letter2 (d := d + 6) hS hF hI34 hR (x28) ) (fun v35 sv36 p37 => ?_)
        have := congrArg Int32.toInt (show FI32 111 6 = x9 from (up_k u33 (by decide) (kp24)))
        obtain ⟨r38, rfl, rfl, t42, u43⟩ := p37
        have rg_r38 := i_rng r38
        show hw sk base _ _ _ _ _ [.int (r38)] _ _
        refine xw_istoren (L2 := [(1, .int (r38)), (0, .ref (base + 111))]) (aX7_readToken 34 rfl) (by decide) rfl ?_
        refine xw_iloadn (aX7_readToken 35 rfl) rfl ?_
        refine hw_ic (v := ((-1) : Int32)) (aX7_readToken 36 rfl) (by decide) ?_
        refine hw_icne (tgt := 82) (aX7_readToken 37 rfl) (by decide) rfl (by decide : ((-1) : Int32).toInt = (-1)) (fun cd46 => ?_) (fun cd46 => ?_)
        · refine xw_iloadn (aX7_readToken 42 rfl) rfl ?_
          refine hw_callS (As := [.int (r38)]) (rest := []) (aX7_readToken 43 rfl) wc_RX7_61 (by decide) rfl wt_yX7_isSmall rfl rfl (Nat.le_of_ble_eq_true rfl) (Nat.le_of_ble_eq_true rfl) (k_isSmall2 (d := d + 6) hS hF hI34 hR (r38) ) (fun v47 sv48 p49 => ?_)
          obtain ⟨r50, rfl, rfl, t54, t55, t56⟩ := p49
          show hw sk base _ _ _ _ _ [.int (r50)] _ _
          refine hw_ifeq (tgt := 96) (aX7_readToken 44 rfl) (by decide) rfl (fun cd59 => ?_) (fun cd59 => ?_)
          · clear t54
            replace t55 := t55 (by omega)
            refine xw_iloadn (aX7_readToken 48 rfl) rfl ?_
            refine hw_callS (As := [.int (r38)]) (rest := []) (aX7_readToken 49 rfl) wc_RX7_68 (by decide) rfl wt_yX7_isDigit rfl rfl (Nat.le_of_ble_eq_true rfl) (Nat.le_of_ble_eq_true rfl) (k_isDigit2 (d := d + 6) hS hF hI34 hR (r38) ) (fun v60 sv61 p62 => ?_)
            obtain ⟨r63, rfl, rfl, t67, t68, t69⟩ := p62
            show hw sk base _ _ _ _ _ [.int (r63)] _ _
            refine hw_ifeq (tgt := 110) (aX7_readToken 50 rfl) (by decide) rfl (fun cd72 => ?_) (fun cd72 => ?_)
            · clear t67
              replace t68 := t68 (by omega)
              refine xw_iloadn (aX7_readToken 54 rfl) rfl ?_
              refine hw_bp (v := (64 : Int32)) (aX7_readToken 55 rfl) (by decide) ?_
              refine hw_icne (tgt := 123) (aX7_readToken 56 rfl) (by decide) rfl (by decide : (64 : Int32).toInt = 64) (fun cd73 => ?_) (fun cd73 => ?_)
              · refine hw_aloadn (aX7_readToken 60 rfl) rfl ?_
                refine xw_iloadn (aX7_readToken 61 rfl) rfl ?_
                refine hw_callV (Bs := [.int (r38)]) (rest := []) (aX7_readToken 62 rfl) wc_RX7_77 (by decide) rfl wi_yX7_readSign wv_yX7_readSign (c111 hS) (s111 hS) rfl rfl rfl (Nat.le_of_ble_eq_true rfl) (Nat.le_of_ble_eq_true rfl) (k_readSign (d := d + 2) hS hF hI34 hR (r38) (by have := congrArg Int32.toInt (show FI32 111 7 = x28 from up_eq u33); have := congrArg Int32.toInt (show FI32 111 6 = x9 from (up_k u33 (by decide) (kp24))); omega)) (fun v74 sv75 p76 => ?_)
                have := congrArg Int32.toInt (show FI32 111 7 = x28 from up_eq u33)
                have := congrArg Int32.toInt (show FI32 111 7 = x28 from up_eq u33)
                obtain ⟨rfl, FI78, rfl, hI79, f80, t83⟩ := p76
                obtain ⟨x86, h87⟩ : ∃ y, FI78 111 8 = y := ⟨_, rfl⟩
                have h87l := congrArg Int32.toInt h87
                have b88 := gI_111_8 hI79; rw [h87] at b88
                show hw sk base _ _ _ _ _ [] _ _
                refine xw_vret (aX7_readToken 63 rfl) rfl ?_
                obtain ⟨x89, h90⟩ : ∃ y, FI78 111 9 = y := ⟨_, rfl⟩
                have h90l := congrArg Int32.toInt h90
                have := i_rng x89
                exact ⟨rfl, FI78, FL, rfl, hI79, (gf_tr ex_rf (gf_f fr20 u33 (by decide)) f80 rfl rfl rfl), gf_rf, (by have := congrArg Int32.toInt (show FI78 111 7 = x28 from (gf_at f80 (c111 hS) (shd_f (by decide) (s111 hS)) rfl (up_eq u33))); have := congrArg Int32.toInt (show FI78 111 8 = x86 from h87); have := congrArg Int32.toInt (show FI78 111 9 = x89 from h90); omega), (by have := congrArg Int32.toInt (show FI78 111 7 = x28 from (gf_at f80 (c111 hS) (shd_f (by decide) (s111 hS)) rfl (up_eq u33))); have := congrArg Int32.toInt (show FI78 111 8 = x86 from h87); omega)⟩
              · refine hw_aloadn (aX7_readToken 57 rfl) rfl ?_
                refine hw_callV (Bs := []) (rest := []) (aX7_readToken 58 rfl) wc_RX7_74 (by decide) rfl wi_yX7_readAt wv_yX7_readAt (c111 hS) (s111 hS) rfl rfl rfl (Nat.le_of_ble_eq_true rfl) (Nat.le_of_ble_eq_true rfl) (k_X7_readAt (d := d + 5) hS hF hI34 hR (by have := congrArg Int32.toInt (show FI32 111 7 = x28 from up_eq u33); have := congrArg Int32.toInt (show FI32 111 6 = x9 from (up_k u33 (by decide) (kp24))); omega)) (fun v91 sv92 p93 => ?_)
                have := congrArg Int32.toInt (show FI32 111 7 = x28 from up_eq u33)
                have := congrArg Int32.toInt (show FI32 111 7 = x28 from up_eq u33)
                obtain ⟨rfl, FI95, FL96, rfl, hI97, f98, f99, t102, t103⟩ := p93
                obtain ⟨x106, h107⟩ : ∃ y, FI95 111 8 = y := ⟨_, rfl⟩
                have h107l := congrArg Int32.toInt h107
                have b108 := gI_111_8 hI97; rw [h107] at b108
                obtain ⟨x109, h110⟩ : ∃ y, FI95 111 9 = y := ⟨_, rfl⟩
                have h110l := congrArg Int32.toInt h110
                have := i_rng x109
                show hw sk base _ _ _ _ _ [] _ _
                refine xw_goto (tgt := 128) (aX7_readToken 59 rfl) (by decide) ?_
                refine xw_vret (aX7_readToken 63 rfl) rfl ?_
                exact ⟨rfl, FI95, FL96, rfl, hI97, (gf_tr ex_rf (gf_f fr20 u33 (by decide)) f98 rfl rfl rfl), (gf_tr ex_rf gf_rf f99 rfl rfl rfl), (by have := congrArg Int32.toInt (show FI95 111 7 = x28 from (gf_at f98 (c111 hS) (shd_f (by decide) (s111 hS)) rfl (up_eq u33))); have := congrArg Int32.toInt (show FI95 111 8 = x106 from h107); have := congrArg Int32.toInt (show FI95 111 9 = x109 from h110); omega), (by have := congrArg Int32.toInt (show FI95 111 7 = x28 from (gf_at f98 (c111 hS) (shd_f (by decide) (s111 hS)) rfl (up_eq u33))); have := congrArg Int32.toInt (show FI95 111 8 = x106 from h107); omega)⟩
            · replace t67 := t67 (by omega)
              clear t68
              refine hw_aloadn (aX7_readToken 51 rfl) rfl ?_
              refine hw_callV (Bs := []) (rest := []) (aX7_readToken 52 rfl) wc_RX7_71 (by decide) rfl wi_yX7_readNumber wv_yX7_readNumber (c111 hS) (s111 hS) rfl rfl rfl (Nat.le_of_ble_eq_true rfl) (Nat.le_of_ble_eq_true rfl) (k_X7_readNumber (d := d + 5) hS hF hI34 hR (by have := congrArg Int32.toInt (show FI32 111 7 = x28 from up_eq u33); have := congrArg Int32.toInt (show FI32 111 6 = x9 from (up_k u33 (by decide) (kp24))); omega) (by rw [show FI32 111 7 = x28 from up_eq u33, ← u43]; omega)) (fun v111 sv112 p113 => ?_)
              have := congrArg Int32.toInt (show FI32 111 7 = x28 from up_eq u33)
              have := congrArg Int32.toInt (show FI32 111 7 = x28 from up_eq u33)
              obtain ⟨rfl, FI115, FL116, rfl, hI117, f118, f119, t122, t123⟩ := p113
              obtain ⟨x126, h127⟩ : ∃ y, FI115 111 8 = y := ⟨_, rfl⟩
              have h127l := congrArg Int32.toInt h127
              have b128 := gI_111_8 hI117; rw [h127] at b128
              obtain ⟨x129, h130⟩ : ∃ y, FI115 111 9 = y := ⟨_, rfl⟩
              have h130l := congrArg Int32.toInt h130
              have := i_rng x129
              show hw sk base _ _ _ _ _ [] _ _
              refine xw_goto (tgt := 128) (aX7_readToken 53 rfl) (by decide) ?_
              refine xw_vret (aX7_readToken 63 rfl) rfl ?_
              exact ⟨rfl, FI115, FL116, rfl, hI117, (gf_tr ex_rf (gf_f fr20 u33 (by decide)) f118 rfl rfl rfl), (gf_tr ex_rf gf_rf f119 rfl rfl rfl), (by have := congrArg Int32.toInt (show FI115 111 7 = x28 from (gf_at f118 (c111 hS) (shd_f (by decide) (s111 hS)) rfl (up_eq u33))); have := congrArg Int32.toInt (show FI115 111 8 = x126 from h127); have := congrArg Int32.toInt (show FI115 111 9 = x129 from h130); omega), (by have := congrArg Int32.toInt (show FI115 111 7 = x28 from (gf_at f118 (c111 hS) (shd_f (by decide) (s111 hS)) rfl (up_eq u33))); have := congrArg Int32.toInt (show FI115 111 8 = x126 from h127); omega)⟩
          · replace t54 := t54 (by omega)
            clear t55
            refine hw_aloadn (aX7_readToken 45 rfl) rfl ?_
            refine hw_callV (Bs := []) (rest := []) (aX7_readToken 46 rfl) wc_RX7_65 (by decide) rfl wi_yX7_readWord wv_yX7_readWord (c111 hS) (s111 hS) rfl rfl rfl (Nat.le_of_ble_eq_true rfl) (Nat.le_of_ble_eq_true rfl) (k_X7_readWord (d := d) hS hF hI34 hR (by have := congrArg Int32.toInt (show FI32 111 7 = x28 from up_eq u33); have := congrArg Int32.toInt (show FI32 111 6 = x9 from (up_k u33 (by decide) (kp24))); omega) (by rw [show FI32 111 7 = x28 from up_eq u33, ← u43]; omega)) (fun v131 sv132 p133 => ?_)
            have := congrArg Int32.toInt (show FI32 111 7 = x28 from up_eq u33)
            have := congrArg Int32.toInt (show FI32 111 7 = x28 from up_eq u33)
            obtain ⟨rfl, FI135, rfl, hI136, f137, t140, t141⟩ := p133
            obtain ⟨x144, h145⟩ : ∃ y, FI135 111 8 = y := ⟨_, rfl⟩
            have h145l := congrArg Int32.toInt h145
            have b146 := gI_111_8 hI136; rw [h145] at b146
            obtain ⟨x147, h148⟩ : ∃ y, FI135 111 9 = y := ⟨_, rfl⟩
            have h148l := congrArg Int32.toInt h148
            have := i_rng x147
            show hw sk base _ _ _ _ _ [] _ _
            refine xw_goto (tgt := 128) (aX7_readToken 47 rfl) (by decide) ?_
            refine xw_vret (aX7_readToken 63 rfl) rfl ?_
            exact ⟨rfl, FI135, FL, rfl, hI136, (gf_tr ex_rf (gf_f fr20 u33 (by decide)) f137 rfl rfl rfl), gf_rf, (by have := congrArg Int32.toInt (show FI135 111 7 = x28 from (gf_at f137 (c111 hS) (shd_f (by decide) (s111 hS)) rfl (up_eq u33))); have := congrArg Int32.toInt (show FI135 111 8 = x144 from h145); have := congrArg Int32.toInt (show FI135 111 9 = x147 from h148); omega), (by have := congrArg Int32.toInt (show FI135 111 7 = x28 from (gf_at f137 (c111 hS) (shd_f (by decide) (s111 hS)) rfl (up_eq u33))); have := congrArg Int32.toInt (show FI135 111 8 = x144 from h145); omega)⟩
        · refine hw_aloadn (aX7_readToken 38 rfl) rfl ?_
          refine hw_ic (v := (2 : Int32)) (aX7_readToken 39 rfl) (by decide) ?_
          refine hv_puti (aX7_readToken 40 rfl) wf_RX7_44 (c111 hS) (s111 hS) (by decide) rfl rfl (fun FI149 u150 => ?_)
          have hI151 : g_I FI149 := gU_F hI34 u150 rfl
          refine xw_goto (tgt := 128) (aX7_readToken 41 rfl) (by decide) ?_
          refine xw_vret (aX7_readToken 63 rfl) rfl ?_
          exact ⟨rfl, FI149, FL, rfl, hI151, (gf_f (gf_f fr20 u33 (by decide)) u150 (by decide)), gf_rf, (by have := congrArg Int32.toInt (show FI149 111 7 = x28 from (up_k u150 (by decide) (up_eq u33))); have := congrArg Int32.toInt (show FI149 111 8 = x28 from (up_k u150 (by decide) ((up_k u33 (by decide) (h29))))); have := congrArg Int32.toInt (show FI149 111 9 = (2 : Int32) from up_eq u150); have := ((by decide : (2 : Int32).toInt = 2) : ((2 : Int32)).toInt = 2); omega), (by have := congrArg Int32.toInt (show FI149 111 7 = x28 from (up_k u150 (by decide) (up_eq u33))); have := congrArg Int32.toInt (show FI149 111 8 = x28 from (up_k u150 (by decide) ((up_k u33 (by decide) (h29))))); omega)⟩
      · refine hw_aloadn (aX7_readToken 5 rfl) rfl ?_
        refine hw_get (v := .ref (base + r15)) (aX7_readToken 6 rfl) wf_RX7_25 (c111 hS) (s111 hS) (by decide) (congrArg (fun r => va_rf (h_rf base r)) (show FR 111 5 = some r15 from h13)) ?_
        refine hw_aloadn (aX7_readToken 7 rfl) rfl ?_
        refine hw_get (v := .int (x28)) (aX7_readToken 8 rfl) wf_RX7_38 (c111 hS) (s111 hS) (by decide) (congrArg Value.int (show FIv19 111 8 = x28 from h29)) ?_
        obtain ⟨x152, h153⟩ : ∃ y, FIv19 r15 (x28).toNatClampNeg = y := ⟨_, rfl⟩
        have h153l := congrArg Int32.toInt h153
        have := i_rng x152
        refine hw_iald (v := x152) (aX7_readToken 9 rfl) lt16 sh18 (h_in rfl (by omega) (by omega)) (show FIv19 r15 (x28).toNatClampNeg = x152 from h153) ?_
        refine hw_bp (v := (10 : Int32)) (aX7_readToken 10 rfl) (by decide) ?_
        refine hw_iceq (tgt := 39) (aX7_readToken 11 rfl) (by decide) rfl (by decide : (10 : Int32).toInt = 10) (fun cd154 => ?_) (fun cd154 => ?_)
        · refine hw_aloadn (aX7_readToken 19 rfl) rfl ?_
          refine xw_dup (aX7_readToken 20 rfl) rfl ?_
          refine hw_get (v := .int (x28)) (aX7_readToken 21 rfl) wf_RX7_38 (c111 hS) (s111 hS) (by decide) (congrArg Value.int (show FIv19 111 8 = x28 from h29)) ?_
          refine hw_ic (v := (1 : Int32)) (aX7_readToken 22 rfl) (by decide) ?_
          refine xw_iadd (aX7_readToken 23 rfl) ?_
          refine hw_tie (A := ((x28).toInt) + (1)) (i_add rfl (by decide : (1 : Int32).toInt = 1) (by omega) (by omega)) (fun x155 e156 => ?_)
          refine hv_puti (aX7_readToken 24 rfl) wf_RX7_38 (c111 hS) (s111 hS) (by decide) rfl rfl (fun FI157 u158 => ?_)
          have hI159 : g_I FI157 := gU_111_8 hI21 u158 (by have := (e156 : (x155).toInt = ((x28).toInt) + (1)); omega) (by have := (e156 : (x155).toInt = ((x28).toInt) + (1)); omega)
          refine xw_goto (tgt := 0) (aX7_readToken 25 rfl) (by decide) ?_
          exact hw_L (ih FI157 (gf_f fr20 u158 (by decide)) hI159 (show FI157 111 9 = x1 from (up_k u158 (by decide) (kp22))) (show FI157 111 7 = x6 from (up_k u158 (by decide) (kp23))) (show FI157 111 6 = x9 from (up_k u158 (by decide) (kp24))) (by have := congrArg Int32.toInt (show FI157 111 8 = x155 from up_eq u158); have := (e156 : (x155).toInt = ((x28).toInt) + (1)); omega) (by have := congrArg Int32.toInt (show FI157 111 8 = x155 from up_eq u158); have := (e156 : (x155).toInt = ((x28).toInt) + (1)); omega) (by have := congrArg Int32.toInt (show FI157 111 8 = x155 from up_eq u158); have := (e156 : (x155).toInt = ((x28).toInt) + (1)); omega)) ⟨rfl, trivial⟩
        · refine hw_aloadn (aX7_readToken 12 rfl) rfl ?_
          refine hw_get (v := .ref (base + r15)) (aX7_readToken 13 rfl) wf_RX7_25 (c111 hS) (s111 hS) (by decide) (congrArg (fun r => va_rf (h_rf base r)) (show FR 111 5 = some r15 from h13)) ?_
          refine hw_aloadn (aX7_readToken 14 rfl) rfl ?_
          refine hw_get (v := .int (x28)) (aX7_readToken 15 rfl) wf_RX7_38 (c111 hS) (s111 hS) (by decide) (congrArg Value.int (show FIv19 111 8 = x28 from h29)) ?_
          refine hw_iald (v := x152) (aX7_readToken 16 rfl) lt16 sh18 (h_in rfl (by omega) (by omega)) (show FIv19 r15 (x28).toNatClampNeg = x152 from h153) ?_
          refine hw_bp (v := (32 : Int32)) (aX7_readToken 17 rfl) (by decide) ?_
          refine hw_icne (tgt := 52) (aX7_readToken 18 rfl) (by decide) rfl (by decide : (32 : Int32).toInt = 32) (fun cd160 => ?_) (fun cd160 => ?_)
          · refine hw_aloadn (aX7_readToken 26 rfl) rfl ?_
            refine hw_aloadn (aX7_readToken 27 rfl) rfl ?_
            refine hw_get (v := .int (x28)) (aX7_readToken 28 rfl) wf_RX7_38 (c111 hS) (s111 hS) (by decide) (congrArg Value.int (show FIv19 111 8 = x28 from h29)) ?_
            refine hv_puti (aX7_readToken 29 rfl) wf_RX7_54 (c111 hS) (s111 hS) (by decide) rfl rfl (fun FI161 u162 => ?_)
            have hI163 : g_I FI161 := gU_111_7 hI21 u162 (by omega) (by omega)
            refine hw_aloadn (aX7_readToken 30 rfl) rfl ?_
            refine hw_aloadn (aX7_readToken 31 rfl) rfl ?_
            refine hw_get (v := .int (x28)) (aX7_readToken 32 rfl) wf_RX7_38 (c111 hS) (s111 hS) (by decide) (congrArg Value.int (show FI161 111 8 = x28 from (up_k u162 (by decide) (h29)))) ?_
            refine hw_callV (Bs := [.int (x28)]) (rest := []) (aX7_readToken 33 rfl) wc_RX7_57 (by decide) rfl wi_yX7_letter wv_yX7_letter (c111 hS) (s111 hS) rfl rfl rfl (Nat.le_of_ble_eq_true rfl) (Nat.le_of_ble_eq_true rfl) (k_letter2 (d := d + 6) hS hF hI163 hR (x28) ) (fun v164 sv165 p166 => ?_)
            have := congrArg Int32.toInt (show FI161 111 6 = x9 from (up_k u162 (by decide) (kp24)))
            obtain ⟨r167, rfl, rfl, t171, u172⟩ := p166
            have rg_r167 := i_rng r167
            show hw sk base _ _ _ _ _ [.int (r167)] _ _
            refine xw_istoren (L2 := [(1, .int (r167)), (0, .ref (base + 111))]) (aX7_readToken 34 rfl) (by decide) rfl ?_
            refine xw_iloadn (aX7_readToken 35 rfl) rfl ?_
            refine hw_ic (v := ((-1) : Int32)) (aX7_readToken 36 rfl) (by decide) ?_
            refine hw_icne (tgt := 82) (aX7_readToken 37 rfl) (by decide) rfl (by decide : ((-1) : Int32).toInt = (-1)) (fun cd175 => ?_) (fun cd175 => ?_)
            · refine xw_iloadn (aX7_readToken 42 rfl) rfl ?_
              refine hw_callS (As := [.int (r167)]) (rest := []) (aX7_readToken 43 rfl) wc_RX7_61 (by decide) rfl wt_yX7_isSmall rfl rfl (Nat.le_of_ble_eq_true rfl) (Nat.le_of_ble_eq_true rfl) (k_isSmall2 (d := d + 6) hS hF hI163 hR (r167) ) (fun v176 sv177 p178 => ?_)
              obtain ⟨r179, rfl, rfl, t183, t184, t185⟩ := p178
              show hw sk base _ _ _ _ _ [.int (r179)] _ _
              refine hw_ifeq (tgt := 96) (aX7_readToken 44 rfl) (by decide) rfl (fun cd188 => ?_) (fun cd188 => ?_)
              · clear t183
                replace t184 := t184 (by omega)
                refine xw_iloadn (aX7_readToken 48 rfl) rfl ?_
                refine hw_callS (As := [.int (r167)]) (rest := []) (aX7_readToken 49 rfl) wc_RX7_68 (by decide) rfl wt_yX7_isDigit rfl rfl (Nat.le_of_ble_eq_true rfl) (Nat.le_of_ble_eq_true rfl) (k_isDigit2 (d := d + 6) hS hF hI163 hR (r167) ) (fun v189 sv190 p191 => ?_)
                obtain ⟨r192, rfl, rfl, t196, t197, t198⟩ := p191
                show hw sk base _ _ _ _ _ [.int (r192)] _ _
                refine hw_ifeq (tgt := 110) (aX7_readToken 50 rfl) (by decide) rfl (fun cd201 => ?_) (fun cd201 => ?_)
                · clear t196
                  replace t197 := t197 (by omega)
                  refine xw_iloadn (aX7_readToken 54 rfl) rfl ?_
                  refine hw_bp (v := (64 : Int32)) (aX7_readToken 55 rfl) (by decide) ?_
                  refine hw_icne (tgt := 123) (aX7_readToken 56 rfl) (by decide) rfl (by decide : (64 : Int32).toInt = 64) (fun cd202 => ?_) (fun cd202 => ?_)
                  · refine hw_aloadn (aX7_readToken 60 rfl) rfl ?_
                    refine xw_iloadn (aX7_readToken 61 rfl) rfl ?_
                    refine hw_callV (Bs := [.int (r167)]) (rest := []) (aX7_readToken 62 rfl) wc_RX7_77 (by decide) rfl wi_yX7_readSign wv_yX7_readSign (c111 hS) (s111 hS) rfl rfl rfl (Nat.le_of_ble_eq_true rfl) (Nat.le_of_ble_eq_true rfl) (k_readSign (d := d + 2) hS hF hI163 hR (r167) (by have := congrArg Int32.toInt (show FI161 111 7 = x28 from up_eq u162); have := congrArg Int32.toInt (show FI161 111 6 = x9 from (up_k u162 (by decide) (kp24))); omega)) (fun v203 sv204 p205 => ?_)
                    have := congrArg Int32.toInt (show FI161 111 7 = x28 from up_eq u162)
                    have := congrArg Int32.toInt (show FI161 111 7 = x28 from up_eq u162)
                    obtain ⟨rfl, FI207, rfl, hI208, f209, t212⟩ := p205
                    obtain ⟨x215, h216⟩ : ∃ y, FI207 111 8 = y := ⟨_, rfl⟩
                    have h216l := congrArg Int32.toInt h216
                    have b217 := gI_111_8 hI208; rw [h216] at b217
                    show hw sk base _ _ _ _ _ [] _ _
                    refine xw_vret (aX7_readToken 63 rfl) rfl ?_
                    obtain ⟨x218, h219⟩ : ∃ y, FI207 111 9 = y := ⟨_, rfl⟩
                    have h219l := congrArg Int32.toInt h219
                    have := i_rng x218
                    exact ⟨rfl, FI207, FL, rfl, hI208, (gf_tr ex_rf (gf_f fr20 u162 (by decide)) f209 rfl rfl rfl), gf_rf, (by have := congrArg Int32.toInt (show FI207 111 7 = x28 from (gf_at f209 (c111 hS) (shd_f (by decide) (s111 hS)) rfl (up_eq u162))); have := congrArg Int32.toInt (show FI207 111 8 = x215 from h216); have := congrArg Int32.toInt (show FI207 111 9 = x218 from h219); omega), (by have := congrArg Int32.toInt (show FI207 111 7 = x28 from (gf_at f209 (c111 hS) (shd_f (by decide) (s111 hS)) rfl (up_eq u162))); have := congrArg Int32.toInt (show FI207 111 8 = x215 from h216); omega)⟩
                  · refine hw_aloadn (aX7_readToken 57 rfl) rfl ?_
                    refine hw_callV (Bs := []) (rest := []) (aX7_readToken 58 rfl) wc_RX7_74 (by decide) rfl wi_yX7_readAt wv_yX7_readAt (c111 hS) (s111 hS) rfl rfl rfl (Nat.le_of_ble_eq_true rfl) (Nat.le_of_ble_eq_true rfl) (k_X7_readAt (d := d + 5) hS hF hI163 hR (by have := congrArg Int32.toInt (show FI161 111 7 = x28 from up_eq u162); have := congrArg Int32.toInt (show FI161 111 6 = x9 from (up_k u162 (by decide) (kp24))); omega)) (fun v220 sv221 p222 => ?_)
                    have := congrArg Int32.toInt (show FI161 111 7 = x28 from up_eq u162)
                    have := congrArg Int32.toInt (show FI161 111 7 = x28 from up_eq u162)
                    obtain ⟨rfl, FI224, FL225, rfl, hI226, f227, f228, t231, t232⟩ := p222
                    obtain ⟨x235, h236⟩ : ∃ y, FI224 111 8 = y := ⟨_, rfl⟩
                    have h236l := congrArg Int32.toInt h236
                    have b237 := gI_111_8 hI226; rw [h236] at b237
                    obtain ⟨x238, h239⟩ : ∃ y, FI224 111 9 = y := ⟨_, rfl⟩
                    have h239l := congrArg Int32.toInt h239
                    have := i_rng x238
                    show hw sk base _ _ _ _ _ [] _ _
                    refine xw_goto (tgt := 128) (aX7_readToken 59 rfl) (by decide) ?_
                    refine xw_vret (aX7_readToken 63 rfl) rfl ?_
                    exact ⟨rfl, FI224, FL225, rfl, hI226, (gf_tr ex_rf (gf_f fr20 u162 (by decide)) f227 rfl rfl rfl), (gf_tr ex_rf gf_rf f228 rfl rfl rfl), (by have := congrArg Int32.toInt (show FI224 111 7 = x28 from (gf_at f227 (c111 hS) (shd_f (by decide) (s111 hS)) rfl (up_eq u162))); have := congrArg Int32.toInt (show FI224 111 8 = x235 from h236); have := congrArg Int32.toInt (show FI224 111 9 = x238 from h239); omega), (by have := congrArg Int32.toInt (show FI224 111 7 = x28 from (gf_at f227 (c111 hS) (shd_f (by decide) (s111 hS)) rfl (up_eq u162))); have := congrArg Int32.toInt (show FI224 111 8 = x235 from h236); omega)⟩
                · replace t196 := t196 (by omega)
                  clear t197
                  refine hw_aloadn (aX7_readToken 51 rfl) rfl ?_
                  refine hw_callV (Bs := []) (rest := []) (aX7_readToken 52 rfl) wc_RX7_71 (by decide) rfl wi_yX7_readNumber wv_yX7_readNumber (c111 hS) (s111 hS) rfl rfl rfl (Nat.le_of_ble_eq_true rfl) (Nat.le_of_ble_eq_true rfl) (k_X7_readNumber (d := d + 5) hS hF hI163 hR (by have := congrArg Int32.toInt (show FI161 111 7 = x28 from up_eq u162); have := congrArg Int32.toInt (show FI161 111 6 = x9 from (up_k u162 (by decide) (kp24))); omega) (by rw [show FI161 111 7 = x28 from up_eq u162, ← u172]; omega)) (fun v240 sv241 p242 => ?_)
                  have := congrArg Int32.toInt (show FI161 111 7 = x28 from up_eq u162)
                  have := congrArg Int32.toInt (show FI161 111 7 = x28 from up_eq u162)
                  obtain ⟨rfl, FI244, FL245, rfl, hI246, f247, f248, t251, t252⟩ := p242
                  obtain ⟨x255, h256⟩ : ∃ y, FI244 111 8 = y := ⟨_, rfl⟩
                  have h256l := congrArg Int32.toInt h256
                  have b257 := gI_111_8 hI246; rw [h256] at b257
                  obtain ⟨x258, h259⟩ : ∃ y, FI244 111 9 = y := ⟨_, rfl⟩
                  have h259l := congrArg Int32.toInt h259
                  have := i_rng x258
                  show hw sk base _ _ _ _ _ [] _ _
                  refine xw_goto (tgt := 128) (aX7_readToken 53 rfl) (by decide) ?_
                  refine xw_vret (aX7_readToken 63 rfl) rfl ?_
                  exact ⟨rfl, FI244, FL245, rfl, hI246, (gf_tr ex_rf (gf_f fr20 u162 (by decide)) f247 rfl rfl rfl), (gf_tr ex_rf gf_rf f248 rfl rfl rfl), (by have := congrArg Int32.toInt (show FI244 111 7 = x28 from (gf_at f247 (c111 hS) (shd_f (by decide) (s111 hS)) rfl (up_eq u162))); have := congrArg Int32.toInt (show FI244 111 8 = x255 from h256); have := congrArg Int32.toInt (show FI244 111 9 = x258 from h259); omega), (by have := congrArg Int32.toInt (show FI244 111 7 = x28 from (gf_at f247 (c111 hS) (shd_f (by decide) (s111 hS)) rfl (up_eq u162))); have := congrArg Int32.toInt (show FI244 111 8 = x255 from h256); omega)⟩
              · replace t183 := t183 (by omega)
                clear t184
                refine hw_aloadn (aX7_readToken 45 rfl) rfl ?_
                refine hw_callV (Bs := []) (rest := []) (aX7_readToken 46 rfl) wc_RX7_65 (by decide) rfl wi_yX7_readWord wv_yX7_readWord (c111 hS) (s111 hS) rfl rfl rfl (Nat.le_of_ble_eq_true rfl) (Nat.le_of_ble_eq_true rfl) (k_X7_readWord (d := d) hS hF hI163 hR (by have := congrArg Int32.toInt (show FI161 111 7 = x28 from up_eq u162); have := congrArg Int32.toInt (show FI161 111 6 = x9 from (up_k u162 (by decide) (kp24))); omega) (by rw [show FI161 111 7 = x28 from up_eq u162, ← u172]; omega)) (fun v260 sv261 p262 => ?_)
                have := congrArg Int32.toInt (show FI161 111 7 = x28 from up_eq u162)
                have := congrArg Int32.toInt (show FI161 111 7 = x28 from up_eq u162)
                obtain ⟨rfl, FI264, rfl, hI265, f266, t269, t270⟩ := p262
                obtain ⟨x273, h274⟩ : ∃ y, FI264 111 8 = y := ⟨_, rfl⟩
                have h274l := congrArg Int32.toInt h274
                have b275 := gI_111_8 hI265; rw [h274] at b275
                obtain ⟨x276, h277⟩ : ∃ y, FI264 111 9 = y := ⟨_, rfl⟩
                have h277l := congrArg Int32.toInt h277
                have := i_rng x276
                show hw sk base _ _ _ _ _ [] _ _
                refine xw_goto (tgt := 128) (aX7_readToken 47 rfl) (by decide) ?_
                refine xw_vret (aX7_readToken 63 rfl) rfl ?_
                exact ⟨rfl, FI264, FL, rfl, hI265, (gf_tr ex_rf (gf_f fr20 u162 (by decide)) f266 rfl rfl rfl), gf_rf, (by have := congrArg Int32.toInt (show FI264 111 7 = x28 from (gf_at f266 (c111 hS) (shd_f (by decide) (s111 hS)) rfl (up_eq u162))); have := congrArg Int32.toInt (show FI264 111 8 = x273 from h274); have := congrArg Int32.toInt (show FI264 111 9 = x276 from h277); omega), (by have := congrArg Int32.toInt (show FI264 111 7 = x28 from (gf_at f266 (c111 hS) (shd_f (by decide) (s111 hS)) rfl (up_eq u162))); have := congrArg Int32.toInt (show FI264 111 8 = x273 from h274); omega)⟩
            · refine hw_aloadn (aX7_readToken 38 rfl) rfl ?_
              refine hw_ic (v := (2 : Int32)) (aX7_readToken 39 rfl) (by decide) ?_
              refine hv_puti (aX7_readToken 40 rfl) wf_RX7_44 (c111 hS) (s111 hS) (by decide) rfl rfl (fun FI278 u279 => ?_)
              have hI280 : g_I FI278 := gU_F hI163 u279 rfl
              refine xw_goto (tgt := 128) (aX7_readToken 41 rfl) (by decide) ?_
              refine xw_vret (aX7_readToken 63 rfl) rfl ?_
              exact ⟨rfl, FI278, FL, rfl, hI280, (gf_f (gf_f fr20 u162 (by decide)) u279 (by decide)), gf_rf, (by have := congrArg Int32.toInt (show FI278 111 7 = x28 from (up_k u279 (by decide) (up_eq u162))); have := congrArg Int32.toInt (show FI278 111 8 = x28 from (up_k u279 (by decide) ((up_k u162 (by decide) (h29))))); have := congrArg Int32.toInt (show FI278 111 9 = (2 : Int32) from up_eq u279); have := ((by decide : (2 : Int32).toInt = 2) : ((2 : Int32)).toInt = 2); omega), (by have := congrArg Int32.toInt (show FI278 111 7 = x28 from (up_k u279 (by decide) (up_eq u162))); have := congrArg Int32.toInt (show FI278 111 8 = x28 from (up_k u279 (by decide) ((up_k u162 (by decide) (h29))))); omega)⟩
          · refine hw_aloadn (aX7_readToken 19 rfl) rfl ?_
            refine xw_dup (aX7_readToken 20 rfl) rfl ?_
            refine hw_get (v := .int (x28)) (aX7_readToken 21 rfl) wf_RX7_38 (c111 hS) (s111 hS) (by decide) (congrArg Value.int (show FIv19 111 8 = x28 from h29)) ?_
            refine hw_ic (v := (1 : Int32)) (aX7_readToken 22 rfl) (by decide) ?_
            refine xw_iadd (aX7_readToken 23 rfl) ?_
            refine hw_tie (A := ((x28).toInt) + (1)) (i_add rfl (by decide : (1 : Int32).toInt = 1) (by omega) (by omega)) (fun x281 e282 => ?_)
            refine hv_puti (aX7_readToken 24 rfl) wf_RX7_38 (c111 hS) (s111 hS) (by decide) rfl rfl (fun FI283 u284 => ?_)
            have hI285 : g_I FI283 := gU_111_8 hI21 u284 (by have := (e282 : (x281).toInt = ((x28).toInt) + (1)); omega) (by have := (e282 : (x281).toInt = ((x28).toInt) + (1)); omega)
            refine xw_goto (tgt := 0) (aX7_readToken 25 rfl) (by decide) ?_
            exact hw_L (ih FI283 (gf_f fr20 u284 (by decide)) hI285 (show FI283 111 9 = x1 from (up_k u284 (by decide) (kp22))) (show FI283 111 7 = x6 from (up_k u284 (by decide) (kp23))) (show FI283 111 6 = x9 from (up_k u284 (by decide) (kp24))) (by have := congrArg Int32.toInt (show FI283 111 8 = x281 from up_eq u284); have := (e282 : (x281).toInt = ((x28).toInt) + (1)); omega) (by have := congrArg Int32.toInt (show FI283 111 8 = x281 from up_eq u284); have := (e282 : (x281).toInt = ((x28).toInt) + (1)); omega) (by have := congrArg Int32.toInt (show FI283 111 8 = x281 from up_eq u284); have := (e282 : (x281).toInt = ((x28).toInt) + (1)); omega)) ⟨rfl, trivial⟩
  exact hw_L (lp27 ((1100 - (x3).toInt : Int).toNat + 1) FI gf_rf hI (show FI 111 9 = x1 from h2) (show FI 111 7 = x6 from h7) (show FI 111 6 = x9 from h10) (by have := congrArg Int32.toInt (show FI 111 8 = x3 from h4); omega) (by have := congrArg Int32.toInt (show FI 111 8 = x3 from h4); omega) (by have := congrArg Int32.toInt (show FI 111 8 = x3 from h4); omega)) ⟨rfl, trivial⟩
end
section
def nX7_readAll : Nat := 0xb1a2ffa72900b560042900b4592a4f2600b42a2900b42a1600b42a4f3600b42a2900b42a1300b42a503200b42a2900b42a0f00b42a4f2c00b42a2900b42a0900b42a2f00b62a48009f062c00b42a50009f052c00b42a5800a2be0900b42a2900b42a2c00b5042a2900b5032a2600b5032a2200b51c00b8be2b1c2a1900b52b2a
theorem bX7_readAll : cX7_readAll.data.toList.map UInt8.toNat = x_un nX7_readAll 128 := by decide +kernel
def iX7_readAll : List (Nat × Jvm.ClassFile.Instr × Nat) := [(0, .aload_n 0, 1), (1, .aload_n 1, 1), (2, .putfield 25, 3), (5, .aload_n 0, 1), (6, .iload_n 2, 1), (7, .aload_n 1, 1), (8, .arraylength, 1), (9, .invokestatic 28, 3), (12, .putfield 34, 3), (15, .aload_n 0, 1), (16, .iconst 0, 1), (17, .putfield 38, 3), (20, .aload_n 0, 1), (21, .iconst 0, 1), (22, .putfield 41, 3), (25, .aload_n 0, 1), (26, .iconst 1, 1), (27, .putfield 44, 3), (30, .aload_n 0, 1), (31, .getfield 41, 3), (34, .aload_n 0, 1), (35, .getfield 9, 3), (38, .arraylength, 1), (39, .if_icmp .ge 88, 3), (42, .aload_n 0, 1), (43, .getfield 44, 3), (46, .iconst 2, 1), (47, .if_icmp .eq 80, 3), (50, .aload_n 0, 1), (51, .getfield 44, 3), (54, .iconst 3, 1), (55, .if_icmp .eq 72, 3), (58, .aload_n 0, 1), (59, .invokevirtual 47, 3), (62, .aload_n 0, 1), (63, .getfield 9, 3), (66, .aload_n 0, 1), (67, .getfield 41, 3), (70, .aload_n 0, 1), (71, .getfield 44, 3), (74, .iastore, 1), (75, .aload_n 0, 1), (76, .getfield 15, 3), (79, .aload_n 0, 1), (80, .getfield 41, 3), (83, .aload_n 0, 1), (84, .getfield 50, 3), (87, .lastore, 1), (88, .aload_n 0, 1), (89, .getfield 19, 3), (92, .aload_n 0, 1), (93, .getfield 41, 3), (96, .aload_n 0, 1), (97, .getfield 54, 3), (100, .iastore, 1), (101, .aload_n 0, 1), (102, .getfield 22, 3), (105, .aload_n 0, 1), (106, .getfield 41, 3), (109, .aload_n 0, 1), (110, .getfield 38, 3), (113, .iastore, 1), (114, .aload_n 0, 1), (115, .dup, 1), (116, .getfield 41, 3), (119, .iconst 1, 1), (120, .iadd, 1), (121, .putfield 41, 3), (124, .goto (-94), 3), (127, .return_, 1)]
theorem dX7_readAll : x_il nX7_readAll 128 iX7_readAll = true := by decide +kernel
theorem aX7_readAll (k : Nat) {pc : Nat} {i : Jvm.ClassFile.Instr} {len : Nat} (hk : iX7_readAll[k]? = some (pc, i, len)) : x_at xMM 65 pc i len yX7_readAll 3 none := ⟨cX7_readAll, rfl, x_il_ok bX7_readAll dX7_readAll k hk⟩
set_option maxHeartbeats 4000000 in
set_option maxRecDepth 100000 in
theorem k_X7_readAll {sk : xK} {base d n sl : Nat} {SH : Nat → Nat × Nat} {FI : Nat → Nat → Int32} {FL : Nat → Nat → Int64} {FR : Nat → Nat → Option Nat} (hS : h_S n SH) (hF : h_FR FR) (hI : g_I FI) (hR : g_R n SH FR) (a2 : Int32) (g0 : 0 ≤ (a2).toInt ∧ (a2).toInt ≤ 1000) : hw sk base (d + 8) none 65 0 [(0, .ref (base + 111)), (1, .ref (base + 19)), (2, .int (a2))] [] (n, sl, SH, FI, FL, FR) (h_V (fun s => ∃ FI' FL' FR', s = (n, sl, SH, FI', FL', FR') ∧ g_I FI' ∧ g_fr n (shd SH) [(111, 4), (111, 6), (111, 7), (111, 8), (111, 9)] [112, 114, 115] [] FI FI' ∧ g_fr n (shd SH) [(111, 10)] [113] [] FL FL' ∧ g_fr n (shd SH) [(111, 5)] [] [] FR FR' ∧ h_FR FR' ∧ g_R n SH FR' ∧ ((FI' 111 4).toInt ≤ (a2).toInt + 2) ∧ (g_K FI') ∧ (FR' 111 5 = some 19))) := by
  have rg_a2 := i_rng a2
  obtain ⟨x1, h2⟩ : ∃ y, FI 111 4 = y := ⟨_, rfl⟩
  have h2l := congrArg Int32.toInt h2
  have b3 := gI_111_4 hI; rw [h2] at b3
  refine hw_aloadn (aX7_readAll 0 rfl) rfl ?_
  refine hw_aloadn (aX7_readAll 1 rfl) rfl ?_
  refine hv_putr (r := some (19)) (aX7_readAll 2 rfl) wf_RX7_25 (c111 hS) (s111 hS) (by decide) (by first | exact Or.inl ⟨_, rfl⟩ | exact Or.inr ⟨_, rfl⟩) (Or.inl rfl) (fun FR4 u5 => ?_)
  have hF6 : h_FR FR4 := hF_up hS hF u5 (s111 hS) (by decide +kernel)
  have hR7 : g_R n SH FR4 := gR_up hR u5 (s111 hS) (fun r e => by cases e; exact ⟨(c19 hS), (Or.inl (by decide)), by rw [(s19 hS)]; rfl⟩) (fun h => absurd h (by have := (by decide : 111 < 176); omega)) (fun _ => by simp) (fun h => absurd h.1 (by decide))
  refine hw_aloadn (aX7_readAll 3 rfl) rfl ?_
  refine xw_iloadn (aX7_readAll 4 rfl) rfl ?_
  refine hw_aloadn (aX7_readAll 5 rfl) rfl ?_
  refine hw_alen (k := 0) (z := 1000) (v := (1000 : Int32)) (aX7_readAll 6 rfl) (c19 hS) (s19 hS) (by decide) (by decide) ?_
  refine hw_callS (As := [.int (a2), .int ((1000 : Int32))]) (rest := [.ref (base + 111)]) (aX7_readAll 7 rfl) wc_RX7_28 (by decide) rfl wt_yJ9_min_7cf53 rfl rfl (Nat.le_of_ble_eq_true rfl) (Nat.le_of_ble_eq_true rfl) (k_J9_min_7cf53 (d := d + 7) hS hF6 hI hR7 (a2) ((1000 : Int32)) ) (fun v8 sv9 p10 => ?_)
  have := ((by decide : (1000 : Int32).toInt = 1000) : ((1000 : Int32)).toInt = 1000)
  have := ((by decide : (1000 : Int32).toInt = 1000) : ((1000 : Int32)).toInt = 1000)
  obtain ⟨r11, rfl, rfl, t15, t16⟩ := p10
  have rg_r11 := i_rng r11
  show hw sk base _ _ _ _ _ [.int (r11), .ref (base + 111)] _ _
  refine hv_puti (aX7_readAll 8 rfl) wf_RX7_34 (c111 hS) (s111 hS) (by decide) rfl rfl (fun FI19 u20 => ?_)
  have hI21 : g_I FI19 := gU_111_6 hI u20 (by omega) (by omega)
  refine hw_aloadn (aX7_readAll 9 rfl) rfl ?_
  refine hw_ic (v := (0 : Int32)) (aX7_readAll 10 rfl) (by decide) ?_
  refine hv_puti (aX7_readAll 11 rfl) wf_RX7_38 (c111 hS) (s111 hS) (by decide) rfl rfl (fun FI22 u23 => ?_)
  have hI24 : g_I FI22 := gU_111_8 hI21 u23 (by have := ((by decide : (0 : Int32).toInt = 0) : ((0 : Int32)).toInt = 0); omega) (by have := ((by decide : (0 : Int32).toInt = 0) : ((0 : Int32)).toInt = 0); omega)
  refine hw_aloadn (aX7_readAll 12 rfl) rfl ?_
  refine hw_ic (v := (0 : Int32)) (aX7_readAll 13 rfl) (by decide) ?_
  refine hv_puti (aX7_readAll 14 rfl) wf_RX7_41 (c111 hS) (s111 hS) (by decide) rfl rfl (fun FI25 u26 => ?_)
  have hI27 : g_I FI25 := gU_111_4 hI24 u26 (by have := ((by decide : (0 : Int32).toInt = 0) : ((0 : Int32)).toInt = 0); omega) (by have := ((by decide : (0 : Int32).toInt = 0) : ((0 : Int32)).toInt = 0); omega)
  refine hw_aloadn (aX7_readAll 15 rfl) rfl ?_
  refine hw_ic (v := (1 : Int32)) (aX7_readAll 16 rfl) (by decide) ?_
  refine hv_puti (aX7_readAll 17 rfl) wf_RX7_44 (c111 hS) (s111 hS) (by decide) rfl rfl (fun FI28 u29 => ?_)
  have hI30 : g_I FI28 := gU_F hI27 u29 rfl
  have lp43 : ∀ (m : Nat) (FIv31 : Nat → Nat → Int32) (FLv32 : Nat → Nat → Int64), (g_fr n (shd SH) [(111, 4), (111, 6), (111, 7), (111, 8), (111, 9)] [112, 114, 115] [] FI FIv31) → (g_fr n (shd SH) [(111, 10)] [113] [] FL FLv32) → (g_I FIv31) → (FIv31 111 6 = r11) → (0 ≤ (FIv31 111 4).toInt ∧ (FIv31 111 4).toInt ≤ 1001) → ((FIv31 111 9).toInt = 2 ∨ (FIv31 111 4).toInt ≤ (FIv31 111 8).toInt) → ((FIv31 111 4).toInt = 0 → (FIv31 111 9).toInt = 1) → ((FIv31 111 4).toInt ≤ (r11).toInt + 1) → ((r11).toInt ≤ (a2).toInt ∧ (r11).toInt ≤ 1000) → ((FIv31 111 4).toInt ≤ (r11).toInt ∨ (FIv31 111 9).toInt = 2) → (1 ≤ (FIv31 111 4).toInt → FIv31 112 ((FIv31 111 4).toInt - 1).toNat = FIv31 111 9) → (∀ i : Nat, (i : Int) < (FIv31 111 4).toInt → (FIv31 115 i).toInt ≤ (FIv31 114 i).toInt + 20) → 1001 - (FIv31 111 4).toInt < m → hw sk base (d + 8) none 65 30 [(0, .ref (base + 111))] [] (n, sl, SH, FIv31, FLv32, FR4) (h_V (fun s => ∃ FI' FL' FR', s = (n, sl, SH, FI', FL', FR') ∧ g_I FI' ∧ g_fr n (shd SH) [(111, 4), (111, 6), (111, 7), (111, 8), (111, 9)] [112, 114, 115] [] FI FI' ∧ g_fr n (shd SH) [(111, 10)] [113] [] FL FL' ∧ g_fr n (shd SH) [(111, 5)] [] [] FR FR' ∧ h_FR FR' ∧ g_R n SH FR' ∧ ((FI' 111 4).toInt ≤ (a2).toInt + 2) ∧ (g_K FI') ∧ (FR' 111 5 = some 19))) := by
    intro m
    induction m with
    | zero => intro FIv31 FLv32 fr33 fr34 hI35 kp36 iv37 iv38 iv39 iv40 iv41 iv42 xi30_0 xi30_1 hm; omega
    | succ m ih =>
      intro FIv31 FLv32 fr33 fr34 hI35 kp36 iv37 iv38 iv39 iv40 iv41 iv42 xi30_0 xi30_1 hm
      have := congrArg Int32.toInt kp36
      obtain ⟨x44, h45⟩ : ∃ y, FIv31 111 4 = y := ⟨_, rfl⟩
      have h45l := congrArg Int32.toInt h45
      have b46 := gI_111_4 hI35; rw [h45] at b46
      obtain ⟨x47, h48⟩ : ∃ y, FIv31 111 9 = y := ⟨_, rfl⟩
      have h48l := congrArg Int32.toInt h48
      have := i_rng x47
      obtain ⟨x49, h50⟩ : ∃ y, FIv31 111 8 = y := ⟨_, rfl⟩
      have h50l := congrArg Int32.toInt h50
      have b51 := gI_111_8 hI35; rw [h50] at b51
      refine hw_aloadn (aX7_readAll 18 rfl) rfl ?_
      refine hw_get (v := .int (x44)) (aX7_readAll 19 rfl) wf_RX7_41 (c111 hS) (s111 hS) (by decide) (congrArg Value.int (show FIv31 111 4 = x44 from h45)) ?_
      refine hw_aloadn (aX7_readAll 20 rfl) rfl ?_
      refine hw_get (v := .ref (base + 112)) (aX7_readAll 21 rfl) wf_RX7_9 (c111 hS) (s111 hS) (by decide) (congrArg (fun r => va_rf (h_rf base r)) (r111_0 hF6)) ?_
      refine hw_alen (k := 0) (z := 1001) (v := (1001 : Int32)) (aX7_readAll 22 rfl) (c112 hS) (s112 hS) (by decide) (by decide) ?_
      refine hw_icge (tgt := 127) (aX7_readAll 23 rfl) (by decide) rfl (by decide : (1001 : Int32).toInt = 1001) (fun cd52 => ?_) (fun cd52 => ?_)
      · refine xw_vret (aX7_readAll 69 rfl) rfl ?_
        exact ⟨rfl, FIv31, FLv32, FR4, rfl, hI35, fr33, fr34, (gf_f gf_rf u5 (by decide)), hF6, hR7, (by have := congrArg Int32.toInt (show FIv31 111 4 = x44 from h45); omega), (by have hq1 := congrArg Int32.toInt (show FIv31 111 4 = x44 from h45); have hq9 := congrArg Int32.toInt (show FIv31 111 9 = x47 from h48); refine ⟨by omega, ?_, xi30_1⟩; rw [xi30_0 (by omega)]; omega), (by exact up_eq u5)⟩
      · refine hw_aloadn (aX7_readAll 24 rfl) rfl ?_
        refine hw_get (v := .int (x47)) (aX7_readAll 25 rfl) wf_RX7_44 (c111 hS) (s111 hS) (by decide) (congrArg Value.int (show FIv31 111 9 = x47 from h48)) ?_
        refine hw_ic (v := (2 : Int32)) (aX7_readAll 26 rfl) (by decide) ?_
        refine hw_iceq (tgt := 127) (aX7_readAll 27 rfl) (by decide) rfl (by decide : (2 : Int32).toInt = 2) (fun cd53 => ?_) (fun cd53 => ?_)
        · refine xw_vret (aX7_readAll 69 rfl) rfl ?_
          exact ⟨rfl, FIv31, FLv32, FR4, rfl, hI35, fr33, fr34, (gf_f gf_rf u5 (by decide)), hF6, hR7, (by have := congrArg Int32.toInt (show FIv31 111 4 = x44 from h45); omega), (by have hq1 := congrArg Int32.toInt (show FIv31 111 4 = x44 from h45); have hq9 := congrArg Int32.toInt (show FIv31 111 9 = x47 from h48); refine ⟨by omega, ?_, xi30_1⟩; rw [xi30_0 (by omega)]; omega), (by exact up_eq u5)⟩
        · refine hw_aloadn (aX7_readAll 28 rfl) rfl ?_
          refine hw_get (v := .int (x47)) (aX7_readAll 29 rfl) wf_RX7_44 (c111 hS) (s111 hS) (by decide) (congrArg Value.int (show FIv31 111 9 = x47 from h48)) ?_
          refine hw_ic (v := (3 : Int32)) (aX7_readAll 30 rfl) (by decide) ?_
          refine hw_iceq (tgt := 127) (aX7_readAll 31 rfl) (by decide) rfl (by decide : (3 : Int32).toInt = 3) (fun cd54 => ?_) (fun cd54 => ?_)
          · refine xw_vret (aX7_readAll 69 rfl) rfl ?_
            exact ⟨rfl, FIv31, FLv32, FR4, rfl, hI35, fr33, fr34, (gf_f gf_rf u5 (by decide)), hF6, hR7, (by have := congrArg Int32.toInt (show FIv31 111 4 = x44 from h45); omega), (by have hq1 := congrArg Int32.toInt (show FIv31 111 4 = x44 from h45); have hq9 := congrArg Int32.toInt (show FIv31 111 9 = x47 from h48); refine ⟨by omega, ?_, xi30_1⟩; rw [xi30_0 (by omega)]; omega), (by exact up_eq u5)⟩
          · refine hw_aloadn (aX7_readAll 32 rfl) rfl ?_
            refine hw_callV (Bs := []) (rest := []) (aX7_readAll 33 rfl) wc_RX7_47 (by decide) rfl wi_yX7_readToken wv_yX7_readToken (c111 hS) (s111 hS) rfl rfl rfl (Nat.le_of_ble_eq_true rfl) (Nat.le_of_ble_eq_true rfl) (k_X7_readToken (d := d) hS hF6 hI35 hR7 (fun t ht => by rw [show FR4 111 5 = some 19 from up_eq u5] at ht; cases ht; rw [s19 hS]; have := congrArg Int32.toInt (show FIv31 111 6 = r11 from kp36); show _ ≤ (1000 : Int); omega)) (fun v55 sv56 p57 => ?_)
            have := congrArg Int32.toInt (show FIv31 111 8 = x49 from h50)
            have := congrArg Int32.toInt (show FIv31 111 8 = x49 from h50)
            have := congrArg Int32.toInt (show FIv31 111 6 = r11 from kp36)
            obtain ⟨rfl, FI59, FL60, rfl, hI61, f62, f63, t66, t67⟩ := p57
            obtain ⟨x70, h71⟩ : ∃ y, FI59 111 9 = y := ⟨_, rfl⟩
            have h71l := congrArg Int32.toInt h71
            have := i_rng x70
            obtain ⟨x72, h73⟩ : ∃ y, FI59 111 8 = y := ⟨_, rfl⟩
            have h73l := congrArg Int32.toInt h73
            have b74 := gI_111_8 hI61; rw [h73] at b74
            obtain ⟨x75, h76⟩ : ∃ y, FI59 111 7 = y := ⟨_, rfl⟩
            have h76l := congrArg Int32.toInt h76
            have b77 := gI_111_7 hI61; rw [h76] at b77
            show hw sk base _ _ _ _ _ [] _ _
            refine hw_aloadn (aX7_readAll 34 rfl) rfl ?_
            refine hw_get (v := .ref (base + 112)) (aX7_readAll 35 rfl) wf_RX7_9 (c111 hS) (s111 hS) (by decide) (congrArg (fun r => va_rf (h_rf base r)) (r111_0 hF6)) ?_
            refine hw_aloadn (aX7_readAll 36 rfl) rfl ?_
            refine hw_get (v := .int (x44)) (aX7_readAll 37 rfl) wf_RX7_41 (c111 hS) (s111 hS) (by decide) (congrArg Value.int (show FI59 111 4 = x44 from (gf_at f62 (c111 hS) (shd_f (by decide) (s111 hS)) rfl (h45)))) ?_
            refine hw_aloadn (aX7_readAll 38 rfl) rfl ?_
            refine hw_get (v := .int (x70)) (aX7_readAll 39 rfl) wf_RX7_44 (c111 hS) (s111 hS) (by decide) (congrArg Value.int (show FI59 111 9 = x70 from h71)) ?_
            refine hv_iast (k := (x44).toNatClampNeg) (aX7_readAll 40 rfl) (c112 hS) (s112 hS) (h_in rfl (by omega) (by omega)) rfl (fun FI78 u79 => ?_)
            have hI80 : g_I FI78 := gU_F hI61 u79 rfl
            refine hw_aloadn (aX7_readAll 41 rfl) rfl ?_
            refine hw_get (v := .ref (base + 113)) (aX7_readAll 42 rfl) wf_RX7_15 (c111 hS) (s111 hS) (by decide) (congrArg (fun r => va_rf (h_rf base r)) (r111_1 hF6)) ?_
            refine hw_aloadn (aX7_readAll 43 rfl) rfl ?_
            refine hw_get (v := .int (x44)) (aX7_readAll 44 rfl) wf_RX7_41 (c111 hS) (s111 hS) (by decide) (congrArg Value.int (show FI78 111 4 = x44 from (up_c u79 (by decide) ((gf_at f62 (c111 hS) (shd_f (by decide) (s111 hS)) rfl (h45)))))) ?_
            refine hw_aloadn (aX7_readAll 45 rfl) rfl ?_
            obtain ⟨x81, h82⟩ : ∃ y, FL60 111 10 = y := ⟨_, rfl⟩
            have h82l := congrArg Int64.toInt h82
            have := l_rng x81
            refine hw_get (v := .long (x81)) (aX7_readAll 46 rfl) wf_RX7_50 (c111 hS) (s111 hS) (by decide) (congrArg Value.long (show FL60 111 10 = x81 from h82)) ?_
            refine hv_last (k := (x44).toNatClampNeg) (aX7_readAll 47 rfl) (c113 hS) (s113 hS) (h_in rfl (by omega) (by omega)) rfl (fun FL83 u84 => ?_)
            refine hw_aloadn (aX7_readAll 48 rfl) rfl ?_
            refine hw_get (v := .ref (base + 114)) (aX7_readAll 49 rfl) wf_RX7_19 (c111 hS) (s111 hS) (by decide) (congrArg (fun r => va_rf (h_rf base r)) (r111_2 hF6)) ?_
            refine hw_aloadn (aX7_readAll 50 rfl) rfl ?_
            refine hw_get (v := .int (x44)) (aX7_readAll 51 rfl) wf_RX7_41 (c111 hS) (s111 hS) (by decide) (congrArg Value.int (show FI78 111 4 = x44 from (up_c u79 (by decide) ((gf_at f62 (c111 hS) (shd_f (by decide) (s111 hS)) rfl (h45)))))) ?_
            refine hw_aloadn (aX7_readAll 52 rfl) rfl ?_
            refine hw_get (v := .int (x75)) (aX7_readAll 53 rfl) wf_RX7_54 (c111 hS) (s111 hS) (by decide) (congrArg Value.int (show FI78 111 7 = x75 from (up_c u79 (by decide) (h76)))) ?_
            refine hv_iast (k := (x44).toNatClampNeg) (aX7_readAll 54 rfl) (c114 hS) (s114 hS) (h_in rfl (by omega) (by omega)) rfl (fun FI85 u86 => ?_)
            have hI87 : g_I FI85 := gU_114 hI80 u86 (by omega) (by omega)
            refine hw_aloadn (aX7_readAll 55 rfl) rfl ?_
            refine hw_get (v := .ref (base + 115)) (aX7_readAll 56 rfl) wf_RX7_22 (c111 hS) (s111 hS) (by decide) (congrArg (fun r => va_rf (h_rf base r)) (r111_3 hF6)) ?_
            refine hw_aloadn (aX7_readAll 57 rfl) rfl ?_
            refine hw_get (v := .int (x44)) (aX7_readAll 58 rfl) wf_RX7_41 (c111 hS) (s111 hS) (by decide) (congrArg Value.int (show FI85 111 4 = x44 from (up_c u86 (by decide) ((up_c u79 (by decide) ((gf_at f62 (c111 hS) (shd_f (by decide) (s111 hS)) rfl (h45)))))))) ?_
            refine hw_aloadn (aX7_readAll 59 rfl) rfl ?_
            refine hw_get (v := .int (x72)) (aX7_readAll 60 rfl) wf_RX7_38 (c111 hS) (s111 hS) (by decide) (congrArg Value.int (show FI85 111 8 = x72 from (up_c u86 (by decide) ((up_c u79 (by decide) (h73)))))) ?_
            refine hv_iast (k := (x44).toNatClampNeg) (aX7_readAll 61 rfl) (c115 hS) (s115 hS) (h_in rfl (by omega) (by omega)) rfl (fun FI88 u89 => ?_)
            have hI90 : g_I FI88 := gU_115 hI87 u89 (by omega) (by omega)
            refine hw_aloadn (aX7_readAll 62 rfl) rfl ?_
            refine xw_dup (aX7_readAll 63 rfl) rfl ?_
            refine hw_get (v := .int (x44)) (aX7_readAll 64 rfl) wf_RX7_41 (c111 hS) (s111 hS) (by decide) (congrArg Value.int (show FI88 111 4 = x44 from (up_c u89 (by decide) ((up_c u86 (by decide) ((up_c u79 (by decide) ((gf_at f62 (c111 hS) (shd_f (by decide) (s111 hS)) rfl (h45)))))))))) ?_
            refine hw_ic (v := (1 : Int32)) (aX7_readAll 65 rfl) (by decide) ?_
            refine xw_iadd (aX7_readAll 66 rfl) ?_
            refine hw_tie (A := ((x44).toInt) + (1)) (i_add rfl (by decide : (1 : Int32).toInt = 1) (by omega) (by omega)) (fun x91 e92 => ?_)
            refine hv_puti (aX7_readAll 67 rfl) wf_RX7_41 (c111 hS) (s111 hS) (by decide) rfl rfl (fun FI93 u94 => ?_)
            have hI95 : g_I FI93 := gU_111_4 hI90 u94 (by have := (e92 : (x91).toInt = ((x44).toInt) + (1)); omega) (by have := (e92 : (x91).toInt = ((x44).toInt) + (1)); omega)
            refine xw_goto (tgt := 30) (aX7_readAll 68 rfl) (by decide) ?_
            exact hw_L (ih FI93 FL83 (gf_f (gf_a (gf_a (gf_a (gf_tr ex_rf fr33 f62 rfl rfl rfl) u79 (by decide)) u86 (by decide)) u89 (by decide)) u94 (by decide)) (gf_a (gf_tr ex_rf fr34 f63 rfl rfl rfl) u84 (by decide)) hI95 (show FI93 111 6 = r11 from (up_k u94 (by decide) ((up_c u89 (by decide) ((up_c u86 (by decide) ((up_c u79 (by decide) ((gf_at f62 (c111 hS) (shd_f (by decide) (s111 hS)) rfl (kp36))))))))))) (by have := congrArg Int32.toInt (show FI93 111 4 = x91 from up_eq u94); have := (e92 : (x91).toInt = ((x44).toInt) + (1)); omega) (by have := congrArg Int32.toInt (show FI93 111 4 = x91 from up_eq u94); have := (e92 : (x91).toInt = ((x44).toInt) + (1)); have := congrArg Int32.toInt (show FI93 111 8 = x72 from (up_k u94 (by decide) ((up_c u89 (by decide) ((up_c u86 (by decide) ((up_c u79 (by decide) (h73))))))))); have := congrArg Int32.toInt (show FI93 111 9 = x70 from (up_k u94 (by decide) ((up_c u89 (by decide) ((up_c u86 (by decide) ((up_c u79 (by decide) (h71))))))))); omega) (by have := congrArg Int32.toInt (show FI93 111 4 = x91 from up_eq u94); have := (e92 : (x91).toInt = ((x44).toInt) + (1)); have := congrArg Int32.toInt (show FI93 111 9 = x70 from (up_k u94 (by decide) ((up_c u89 (by decide) ((up_c u86 (by decide) ((up_c u79 (by decide) (h71))))))))); omega) (by have := congrArg Int32.toInt (show FI93 111 4 = x91 from up_eq u94); have := (e92 : (x91).toInt = ((x44).toInt) + (1)); have := congrArg Int32.toInt (show FI93 111 6 = r11 from (up_k u94 (by decide) ((up_c u89 (by decide) ((up_c u86 (by decide) ((up_c u79 (by decide) ((gf_at f62 (c111 hS) (shd_f (by decide) (s111 hS)) rfl (kp36))))))))))); omega) (by have := congrArg Int32.toInt (show FI93 111 6 = r11 from (up_k u94 (by decide) ((up_c u89 (by decide) ((up_c u86 (by decide) ((up_c u79 (by decide) ((gf_at f62 (c111 hS) (shd_f (by decide) (s111 hS)) rfl (kp36))))))))))); omega) (by have := congrArg Int32.toInt (show FI93 111 4 = x91 from up_eq u94); have := (e92 : (x91).toInt = ((x44).toInt) + (1)); have := congrArg Int32.toInt (show FI93 111 6 = r11 from (up_k u94 (by decide) ((up_c u89 (by decide) ((up_c u86 (by decide) ((up_c u79 (by decide) ((gf_at f62 (c111 hS) (shd_f (by decide) (s111 hS)) rfl (kp36))))))))))); have := congrArg Int32.toInt (show FI93 111 9 = x70 from (up_k u94 (by decide) ((up_c u89 (by decide) ((up_c u86 (by decide) ((up_c u79 (by decide) (h71))))))))); omega) (show 1 ≤ (FI93 111 4).toInt → FI93 112 ((FI93 111 4).toInt - 1).toNat = FI93 111 9 from (by have := congrArg Int32.toInt (show FI93 111 4 = x91 from up_eq u94); have := (e92 : (x91).toInt = ((x44).toInt) + (1)); exact (fun _ => by have hk : ((FI93 111 4).toInt - 1).toNat = (x44).toNatClampNeg := (by show _ = (x44).toInt.toNat; omega); rw [hk]; exact (show FI93 112 (x44).toNatClampNeg = x70 from (up_c u94 (by decide) ((up_c u89 (by decide) ((up_c u86 (by decide) (up_eq u79))))))).trans (show FI93 111 9 = x70 from (up_k u94 (by decide) ((up_c u89 (by decide) ((up_c u86 (by decide) ((up_c u79 (by decide) (h71))))))))).symm))) (show ∀ i : Nat, (i : Int) < (FI93 111 4).toInt → (FI93 115 i).toInt ≤ (FI93 114 i).toInt + 20 from (by have := congrArg Int32.toInt (show FI93 111 4 = x91 from up_eq u94); have := (e92 : (x91).toInt = ((x44).toInt) + (1)); exact (fun i hi => by { by_cases hik : i = (x44).toNatClampNeg; { subst hik; have q1 := congrArg Int32.toInt (show FI93 115 _ = x72 from (up_c u94 (by decide) (up_eq u89))); have q2 := congrArg Int32.toInt (show FI93 114 _ = x75 from (up_c u94 (by decide) ((up_c u89 (by decide) (up_eq u86))))); omega }; { have e1 : FI93 115 i = FIv31 115 i := (up_c u94 (by decide) ((up_k u89 hik ((up_c u86 (by decide) ((up_c u79 (by decide) ((gf_at f62 (c115 hS) (shd_f (by decide) (s115 hS)) rfl (rfl)))))))))); have e2 : FI93 114 i = FIv31 114 i := (up_c u94 (by decide) ((up_c u89 (by decide) ((up_k u86 hik ((up_c u79 (by decide) ((gf_at f62 (c114 hS) (shd_f (by decide) (s114 hS)) rfl (rfl)))))))))); rw [e1, e2]; refine xi30_1 i ?_; have : i ≠ (x44).toInt.toNat := hik; omega } }))) (by have := congrArg Int32.toInt (show FI93 111 4 = x91 from up_eq u94); have := (e92 : (x91).toInt = ((x44).toInt) + (1)); omega)) ⟨rfl, trivial⟩
  exact hw_L (lp43 ((1001 - 0 : Int).toNat + 1) FI28 FL (gf_f (gf_f (gf_f (gf_f gf_rf u20 (by decide)) u23 (by decide)) u26 (by decide)) u29 (by decide)) gf_rf hI30 (show FI28 111 6 = r11 from (up_k u29 (by decide) ((up_k u26 (by decide) ((up_k u23 (by decide) (up_eq u20))))))) (by have := congrArg Int32.toInt (show FI28 111 4 = (0 : Int32) from (up_k u29 (by decide) (up_eq u26))); have := ((by decide : (0 : Int32).toInt = 0) : ((0 : Int32)).toInt = 0); omega) (by have := congrArg Int32.toInt (show FI28 111 4 = (0 : Int32) from (up_k u29 (by decide) (up_eq u26))); have := ((by decide : (0 : Int32).toInt = 0) : ((0 : Int32)).toInt = 0); have := congrArg Int32.toInt (show FI28 111 8 = (0 : Int32) from (up_k u29 (by decide) ((up_k u26 (by decide) (up_eq u23))))); have := ((by decide : (0 : Int32).toInt = 0) : ((0 : Int32)).toInt = 0); have := congrArg Int32.toInt (show FI28 111 9 = (1 : Int32) from up_eq u29); have := ((by decide : (1 : Int32).toInt = 1) : ((1 : Int32)).toInt = 1); omega) (by have := congrArg Int32.toInt (show FI28 111 4 = (0 : Int32) from (up_k u29 (by decide) (up_eq u26))); have := ((by decide : (0 : Int32).toInt = 0) : ((0 : Int32)).toInt = 0); have := congrArg Int32.toInt (show FI28 111 9 = (1 : Int32) from up_eq u29); have := ((by decide : (1 : Int32).toInt = 1) : ((1 : Int32)).toInt = 1); omega) (by have := congrArg Int32.toInt (show FI28 111 4 = (0 : Int32) from (up_k u29 (by decide) (up_eq u26))); have := ((by decide : (0 : Int32).toInt = 0) : ((0 : Int32)).toInt = 0); have := congrArg Int32.toInt (show FI28 111 6 = r11 from (up_k u29 (by decide) ((up_k u26 (by decide) ((up_k u23 (by decide) (up_eq u20))))))); omega) (by have := congrArg Int32.toInt (show FI28 111 6 = r11 from (up_k u29 (by decide) ((up_k u26 (by decide) ((up_k u23 (by decide) (up_eq u20))))))); omega) (by have := congrArg Int32.toInt (show FI28 111 4 = (0 : Int32) from (up_k u29 (by decide) (up_eq u26))); have := ((by decide : (0 : Int32).toInt = 0) : ((0 : Int32)).toInt = 0); have := congrArg Int32.toInt (show FI28 111 6 = r11 from (up_k u29 (by decide) ((up_k u26 (by decide) ((up_k u23 (by decide) (up_eq u20))))))); have := congrArg Int32.toInt (show FI28 111 9 = (1 : Int32) from up_eq u29); have := ((by decide : (1 : Int32).toInt = 1) : ((1 : Int32)).toInt = 1); omega) (show 1 ≤ (FI28 111 4).toInt → FI28 112 ((FI28 111 4).toInt - 1).toNat = FI28 111 9 from (by have := congrArg Int32.toInt (show FI28 111 4 = (0 : Int32) from (up_k u29 (by decide) (up_eq u26))); have := ((by decide : (0 : Int32).toInt = 0) : ((0 : Int32)).toInt = 0); exact (fun h => absurd h (by omega)))) (show ∀ i : Nat, (i : Int) < (FI28 111 4).toInt → (FI28 115 i).toInt ≤ (FI28 114 i).toInt + 20 from (by have := congrArg Int32.toInt (show FI28 111 4 = (0 : Int32) from (up_k u29 (by decide) (up_eq u26))); have := ((by decide : (0 : Int32).toInt = 0) : ((0 : Int32)).toInt = 0); exact (fun i hi => absurd hi (by omega)))) (by have := congrArg Int32.toInt (show FI28 111 4 = (0 : Int32) from (up_k u29 (by decide) (up_eq u26))); have := ((by decide : (0 : Int32).toInt = 0) : ((0 : Int32)).toInt = 0); omega)) ⟨rfl, trivial⟩
end
section
/-! Trees that grow. -/
theorem gw_ne {gw : Nat → Nat} {c W : Nat} {o : Option Nat} (h : o ≠ some c) : g_w (va_up gw c W) o = g_w gw o := by
  cases o with
  | none => rfl
  | some x =>
    have : x ≠ c := fun e => h (by rw [e])
    simp [g_w, va_up, this]
theorem va_s {α : Type} {f : Nat → α} {c : Nat} {x : α} : va_up f c x c = x := if_pos rfl
theorem va_o {α : Type} {f : Nat → α} {c d : Nat} {x : α} (h : d ≠ c) : va_up f c x d = f d := if_neg h
section GG
variable {n n2 : Nat} {SH SH2 : Nat → Nat × Nat} {FI FI2 : Nat → Nat → Int32} {FR FR2 : Nat → Nat → Option Nat} {gp gw gs : Nat → Nat} {c z z2 r l k : Nat} {o : Option Nat} {x : Int32}
/-- nothing hangs over what has no parent -/
theorem gT_no (hS : h_S n SH) (H : g_T n SH FI FR gp gw gs) (h0 : gp c = 0) : (∀ d k, d < n → (SH d).1 = 3 → (FI d 0).toInt ≠ 25 → k = 3 ∨ k = 4 ∨ k = 5 → FR d k ≠ some c) ∧ (∀ d, d < n → (SH d).1 = 3 → (FI d 0).toInt = 25 → FR d 3 ≠ some c) ∧ (∀ d, d < n → (SH d).1 = 3 → FR d 6 ≠ some c) ∧ ∀ d, d < n → (SH d).1 = 6 → FR d 2 ≠ some c := by
  refine ⟨fun d k hd hs hk h3 e => ?_, fun d hd hs hk e => ?_, fun d hd hs e => ?_, fun d hd hs e => ?_⟩
  · have h1 := ((H.1 d hd hs).2.1 hk).2 k c h3 e
    have := g_dynt hS hs (by decide +kernel)
    omega
  · have h1 := (H.1 d hd hs).2.2.1 hk c e
    have := g_dynt hS hs (by decide +kernel)
    omega
  · have h1 := (H.1 d hd hs).2.2.2.1 c e
    omega
  · have h1 := (H.2 d hd hs).2.2.2.2 c e
    have := g_dynt hS hs (by decide +kernel)
    omega
theorem gT_link (hS : h_S n SH) (H : g_T n SH FI FR gp gw gs) (hc : c < n) (hs : SH c = (3, z)) (hr : r < n) (hk : k = 3 ∨ k = 4 ∨ k = 5) (hn : FR c k = none) (hx : (FI c 0).toInt ≠ 25) (h0 : gp c = 0) (h1 : gp r = 0) (hne : r ≠ c) (u : FR2 = h_up FR c k (some r)) : g_T n SH FI FR2 (va_up gp r c) (va_up gw c (gw c + gw r)) gs := by
  have hsc : (SH c).1 = 3 := by rw [hs]
  have hc0 : 176 ≤ c := g_dynt hS hsc (by decide +kernel)
  have hz0 : (SH 0).1 ≠ 3 := by rw [s0 hS]; decide
  obtain ⟨q1, q2, q3, q4⟩ := gT_no hS H h0
  obtain ⟨p1, p2, p3, p4⟩ := gT_no hS H h1
  have ek : FR2 c k = some r := up_eq u
  have eo : ∀ j, j ≠ k → FR2 c j = FR c j := fun j h => up_k u h rfl
  have ed : ∀ d j, d ≠ c → FR2 d j = FR d j := fun d j h => up_c u h rfl
  refine ⟨fun d hd hsd => ?_, fun p hp hsp => ?_⟩
  · obtain ⟨a1, a2, a3, a4, a5, a6⟩ := H.1 d hd hsd
    have hd0 : 176 ≤ d := g_dynt hS hsd (by decide +kernel)
    by_cases hdc : d = c
    · subst hdc
      rw [va_s]
      have b := (a2 hx).1
      refine ⟨by omega, fun _ => ⟨?_, fun j y hj e => ?_⟩, fun h => absurd h hx, fun y e => ?_, ?_, fun ht hh => ?_⟩
      · have g : ∀ j, j = 3 ∨ j = 4 ∨ j = 5 → g_w (va_up gw d (gw d + gw r)) (FR2 d j) = if j = k then gw r else g_w gw (FR d j) := by
          intro j hj
          by_cases hjk : j = k
          · subst hjk; rw [ek, if_pos rfl]; simp [g_w, va_up, hne]
          · rw [eo j hjk, if_neg hjk]; exact gw_ne (q1 d j hd hsd hx hj)
        rw [g 3 (by omega), g 4 (by omega), g 5 (by omega)]
        have hz : g_w gw (FR d k) = 0 := by rw [hn]; rfl
        rcases hk with rfl | rfl | rfl <;> simp <;> omega
      · by_cases hjk : j = k
        · subst hjk; rw [ek] at e; cases e; exact va_s
        · rw [eo j hjk] at e
          have := (a2 hx).2 j y hj e
          rw [va_o (fun h => by subst h; omega)]; exact this
      · rw [eo 6 (by omega)] at e
        have := a4 y e
        omega
      · rw [va_o (Ne.symm hne), h0]; omega
      · rw [va_o (Ne.symm hne), h0] at ht; exact absurd ht hz0
    · rw [va_o hdc]
      simp only [ed d _ hdc]
      refine ⟨a1, fun h => ⟨?_, fun j y hj e => ?_⟩, fun h y e => ?_, fun y e => ?_, ?_⟩
      · rw [gw_ne (q1 d 3 hd hsd h (by omega)), gw_ne (q1 d 4 hd hsd h (by omega)), gw_ne (q1 d 5 hd hsd h (by omega))]; exact (a2 h).1
      · have := (a2 h).2 j y hj e
        rw [va_o (fun h => by subst h; omega)]; exact this
      · have := a3 h y e
        rw [va_o (fun h => by subst h; omega)]; exact this
      · obtain ⟨b1, b2, b3⟩ := a4 y e
        rw [va_o (fun h => by subst h; omega), va_o (fun h => by subst h; omega)]; exact ⟨b1, b2, b3⟩
      · by_cases hdr : d = r
        · subst hdr; rw [va_s]; exact ⟨hc, fun _ h => absurd h hx⟩
        · rw [va_o hdr]
          refine ⟨a5, fun ht hh => ?_⟩
          rw [va_o (fun h => by rw [h] at hh; exact hx hh)]
          exact a6 ht hh
  · obtain ⟨a1, a2, a3, a4, a5⟩ := H.2 p hp hsp
    have hpc : p ≠ c := fun e => by rw [e, hsc] at hsp; cases hsp
    rw [va_o hpc]
    simp only [ed p _ hpc]
    refine ⟨by rw [gw_ne (q4 p hp hsp)]; exact a1, a2, a3, a4, fun y e => ?_⟩
    have := a5 y e
    have hp0 : 176 ≤ p := g_dynt hS hsp (by decide +kernel)
    rw [va_o (fun h => by subst h; omega)]; exact this
/-- the first of a chain, or the next: r comes to the chain c; W is c's new weight -/
theorem gT_mem {W G : Nat} (hS : h_S n SH) (hR : g_R n SH FR) (H : g_T n SH FI FR gp gw gs) (hc : c < n) (hs : SH c = (3, z)) (hr : r < n) (hsr : SH r = (3, z2)) (hx : (FI c 0).toInt = 25) (h0 : gp c = 0) (h1 : gp r = 0) (hne : r ≠ c) (hl : l < n) {z3 : Nat} (hsl : SH l = (3, z3)) (hW : gw c ≤ W) (hG : G + gw r + 20 ≤ W) (hcase : (l = c ∧ k = 3 ∧ FR c 3 = none) ∨ (l ≠ c ∧ l ≠ r ∧ k = 6 ∧ gp l = c ∧ gs l + gw l + 20 ≤ G)) (u : FR2 = h_up FR l k (some r)) : g_T n SH FI FR2 (va_up gp r c) (va_up gw c W) (va_up gs r G) := by
  have hsc : (SH c).1 = 3 := by rw [hs]
  have hc0 : 176 ≤ c := g_dynt hS hsc (by decide +kernel)
  have hz0 : (SH 0).1 ≠ 3 := by rw [s0 hS]; decide
  obtain ⟨q1, q2, q3, q4⟩ := gT_no hS H h0
  obtain ⟨p1, p2, p3, p4⟩ := gT_no hS H h1
  have ek : FR2 l k = some r := up_eq u
  have eo : ∀ j, j ≠ k → FR2 l j = FR l j := fun j h => up_k u h rfl
  have ed : ∀ d j, d ≠ l → FR2 d j = FR d j := fun d j h => up_c u h rfl
  refine ⟨fun d hd hsd => ?_, fun p hp hsp => ?_⟩
  · obtain ⟨a1, a2, a3, a4, a5, a6⟩ := H.1 d hd hsd
    have hd0 : 176 ≤ d := g_dynt hS hsd (by decide +kernel)
    -- a field below: the same, but the one that was set
    have ef : ∀ j y, FR2 d j = some y → (d = l ∧ j = k ∧ y = r) ∨ FR d j = some y := by
      intro j y e
      by_cases hdl : d = l
      · subst hdl
        by_cases hjk : j = k
        · subst hjk; rw [ek] at e; cases e; exact Or.inl ⟨rfl, rfl, rfl⟩
        · rw [eo j hjk] at e; exact Or.inr e
      · rw [ed d j hdl] at e; exact Or.inr e
    have e5 : ∀ j, j = 3 ∨ j = 4 ∨ j = 5 → (FI d 0).toInt ≠ 25 → FR2 d j = FR d j := by
      intro j hj h
      by_cases hdl : d = l
      · subst hdl
        refine eo j ?_
        rcases hcase with ⟨e1, -, -⟩ | ⟨-, -, e2, -⟩
        · subst e1; exact absurd hx h
        · omega
      · exact ed d j hdl
    have hw : 20 ≤ va_up gw c W d ∧ gw d ≤ va_up gw c W d := by
      by_cases hdc : d = c
      · subst hdc; rw [va_s]; omega
      · rw [va_o hdc]; omega
    refine ⟨hw.1, fun h => ?_, fun h y e => ?_, fun y e => ?_, ?_⟩
    · have hdc : d ≠ c := fun e => by subst e; exact h hx
      rw [e5 3 (by omega) h, e5 4 (by omega) h, e5 5 (by omega) h, va_o hdc, gw_ne (q1 d 3 hd hsd h (by omega)), gw_ne (q1 d 4 hd hsd h (by omega)), gw_ne (q1 d 5 hd hsd h (by omega))]
      refine ⟨(a2 h).1, fun j y hj e => ?_⟩
      rw [e5 j hj h] at e
      have := (a2 h).2 j y hj e
      rw [va_o (fun h => by subst h; omega)]; exact this
    · rcases ef 3 y e with ⟨e1, e2, e3⟩ | e1
      · subst e3
        rw [va_s]
        rcases hcase with ⟨e4, -, -⟩ | ⟨-, -, e4, -⟩
        · rw [e1, e4]
        · omega
      · have := a3 h y e1
        rw [va_o (fun h => by subst h; omega)]; exact this
    · rcases ef 6 y e with ⟨e1, e2, e3⟩ | e1
      · subst e3
        rcases hcase with ⟨-, e4, -⟩ | ⟨f1, f2, -, f4, f5⟩
        · omega
        · subst e1
          rw [va_s, va_s, va_o f2, va_o f1, va_o f2]
          exact ⟨f4.symm, by omega, f5⟩
      · obtain ⟨b1, b2, b3⟩ := a4 y e1
        have hy : y ≠ r := fun h => by subst h; omega
        have hdr : d ≠ r := fun h => by subst h; omega
        have hdc : d ≠ c := fun h => by subst h; omega
        rw [va_o hy, va_o hdr, va_o hdr, va_o hdc, va_o hy]
        exact ⟨b1, b2, b3⟩
    · by_cases hdr : d = r
      · subst hdr
        rw [va_s, va_s, va_o hne, va_s]
        exact ⟨hc, fun _ _ => hG⟩
      · rw [va_o hdr, va_o hdr]
        refine ⟨a5, fun ht hh => ?_⟩
        have b := a6 ht hh
        have hdc : d ≠ c := fun h => by subst h; rw [h0] at ht; exact hz0 ht
        rw [va_o hdc]
        by_cases hgc : gp d = c
        · rw [hgc, va_s]; rw [hgc] at b; omega
        · rw [va_o hgc]; exact b
  · obtain ⟨a1, a2, a3, a4, a5⟩ := H.2 p hp hsp
    have hpc : p ≠ c := fun e => by rw [e, hsc] at hsp; cases hsp
    have hpl : p ≠ l := fun e => by rw [e, hsl] at hsp; cases hsp
    have hpr : p ≠ r := fun e => by rw [e, hsr] at hsp; cases hsp
    rw [va_o hpc, va_o hpr]
    simp only [ed p _ hpl]
    have hp0 : 176 ≤ p := g_dynt hS hsp (by decide +kernel)
    refine ⟨by rw [gw_ne (q4 p hp hsp)]; exact a1, a2, fun y e => ?_, a4, fun y e => ?_⟩
    · have hy := a3 y e
      by_cases h : y = r
      · subst h; rw [va_s]
        have := (gR_get (t := 6) (z := (SH p).2) hR hp (Or.inr hp0) (Prod.ext hsp rfl) e).2.2
        rw [hsr] at this
        cases this
      · rw [va_o h]; exact hy
    · have := a5 y e
      rw [va_o (fun h => by subst h; omega)]; exact this
theorem gR_t {d t y : Nat} (hR : g_R n SH FR) (hd : d < n) (h0 : 176 ≤ d) (ht : (SH d).1 = t) (e : FR d k = some y) : y < n ∧ (SH y).1 = g_ty t k := by
  have h := gR_get (t := t) (z := (SH d).2) hR hd (Or.inr h0) (Prod.ext ht rfl) e
  exact ⟨h.1, by rw [h.2.2]⟩
theorem gT_pe (hS : h_S n SH) (hR : g_R n SH FR) (H : g_T n SH FI FR gp gw gs) (hc : c < n) (hs : SH c = (6, z)) (hr : r < n) (hsr : SH r = (3, z2)) (hn : FR c 5 = none) (h1 : gp r = 0) (hm : gs c + gw c + gw r ≤ 200000000) (hn2 : FR c 2 = none) (u : FR2 = h_up FR c 2 (some r)) : g_T n SH FI FR2 (va_up gp r c) (va_up gw c (gw c + gw r)) gs := by
  have hsc : (SH c).1 = 6 := by rw [hs]
  have hc0 : 176 ≤ c := g_dynt hS hsc (by decide +kernel)
  obtain ⟨p1, p2, p3, p4⟩ := gT_no hS H h1
  have ek : FR2 c 2 = some r := up_eq u
  have eo : ∀ j, j ≠ 2 → FR2 c j = FR c j := fun j h => up_k u h rfl
  have ed : ∀ d j, d ≠ c → FR2 d j = FR d j := fun d j h => up_c u h rfl
  refine ⟨fun d hd hsd => ?_, fun p hp hsp => ?_⟩
  · obtain ⟨a1, a2, a3, a4, a5, a6⟩ := H.1 d hd hsd
    have hd0 : 176 ≤ d := g_dynt hS hsd (by decide +kernel)
    have hdc : d ≠ c := fun e => by rw [e, hsc] at hsd; cases hsd
    have nc : ∀ j, j = 3 ∨ j = 4 ∨ j = 5 → FR d j ≠ some c := fun j hj e => by
      have := (gR_t hR hd hd0 hsd e).2
      rw [hsc] at this
      rcases hj with rfl | rfl | rfl <;> exact absurd this (by decide)
    rw [va_o hdc]
    simp only [ed d _ hdc]
    refine ⟨a1, fun h => ⟨?_, fun j y hj e => ?_⟩, fun h y e => ?_, fun y e => ?_, ?_⟩
    · rw [gw_ne (nc 3 (by omega)), gw_ne (nc 4 (by omega)), gw_ne (nc 5 (by omega))]; exact (a2 h).1
    · have := (a2 h).2 j y hj e
      rw [va_o (fun h => by subst h; omega)]; exact this
    · have := a3 h y e
      rw [va_o (fun h => by subst h; omega)]; exact this
    · obtain ⟨b1, b2, b3⟩ := a4 y e
      rw [va_o (fun h => by subst h; omega), va_o (fun h => by subst h; omega)]; exact ⟨b1, b2, b3⟩
    · by_cases hdr : d = r
      · subst hdr; rw [va_s]; exact ⟨hc, fun h => by rw [hsc] at h; cases h⟩
      · rw [va_o hdr]
        refine ⟨a5, fun ht hh => ?_⟩
        rw [va_o (fun h => by rw [h, hsc] at ht; cases ht)]
        exact a6 ht hh
  · obtain ⟨a1, a2, a3, a4, a5⟩ := H.2 p hp hsp
    have hp0 : 176 ≤ p := g_dynt hS hsp (by decide +kernel)
    by_cases hpc : p = c
    · subst hpc
      rw [va_s, ek, eo 3 (by decide), eo 5 (by decide)]
      have hrp : r ≠ p := fun e => by rw [e, hs] at hsr; cases hsr
      rw [hn2] at a1
      refine ⟨?_, a2, fun y e => (by rw [hn] at e; cases e), by omega, fun y e => by cases e; exact va_s⟩
      show va_up gw p (gw p + gw r) r + 200 ≤ gw p + gw r
      rw [va_o hrp]
      have : g_w gw none = 0 := rfl
      omega
    · rw [va_o hpc]
      simp only [ed p _ hpc]
      refine ⟨?_, a2, a3, a4, fun y e => ?_⟩
      · rw [gw_ne (fun e => by have := (gR_t hR hp hp0 hsp e).2; rw [hsc] at this; exact absurd this (by decide))]; exact a1
      · have := a5 y e
        rw [va_o (fun h => by subst h; omega)]; exact this
theorem gT_pb (hS : h_S n SH) (H : g_T n SH FI FR gp gw gs) (hc : c < n) (hs : SH c = (6, z)) (hm : ∀ q, o = some q → (SH q).2 ≤ 64) (u : FR2 = h_up FR c 3 o) : g_T n SH FI FR2 gp gw gs := by
  have hsc : (SH c).1 = 6 := by rw [hs]
  have eo : ∀ j, j ≠ 3 → FR2 c j = FR c j := fun j h => up_k u h rfl
  have ed : ∀ d j, d ≠ c → FR2 d j = FR d j := fun d j h => up_c u h rfl
  refine ⟨fun d hd hsd => ?_, fun p hp hsp => ?_⟩
  · have hdc : d ≠ c := fun e => by rw [e, hsc] at hsd; cases hsd
    simp only [ed d _ hdc]
    exact H.1 d hd hsd
  · by_cases hpc : p = c
    · subst hpc
      obtain ⟨a1, a2, a3, a4, a5⟩ := H.2 p hp hsp
      rw [eo 2 (by decide), eo 5 (by decide)]
      exact ⟨a1, fun y e => hm y (by rw [← e]; exact (up_eq u).symm), a3, a4, a5⟩
    · simp only [ed p _ hpc]
      exact H.2 p hp hsp
theorem gT_pn (hS : h_S n SH) (hR : g_R n SH FR) (H : g_T n SH FI FR gp gw gs) (hl : l < n) (hsl : SH l = (6, z)) (hr : r < n) (hsr : SH r = (6, z2)) (hn : FR r 5 = none) (hne : l ≠ r) (hg : gs r ≤ gs l + gw l + 20) (hm : gs l + gw l + 20 + gw r ≤ 200000000) (u : FR2 = h_up FR l 5 (some r)) : g_T n SH FI FR2 gp gw (va_up gs r (gs l + gw l + 20)) := by
  have hs1 : (SH l).1 = 6 := by rw [hsl]
  have hs2 : (SH r).1 = 6 := by rw [hsr]
  have ek : FR2 l 5 = some r := up_eq u
  have eo : ∀ j, j ≠ 5 → FR2 l j = FR l j := fun j h => up_k u h rfl
  have ed : ∀ d j, d ≠ l → FR2 d j = FR d j := fun d j h => up_c u h rfl
  have up : ∀ y, gs y ≤ va_up gs r (gs l + gw l + 20) y := fun y => by
    by_cases h : y = r
    · subst h; rw [va_s]; exact hg
    · rw [va_o h]; exact Nat.le_refl _
  refine ⟨fun d hd hsd => ?_, fun p hp hsp => ?_⟩
  · have hdl : d ≠ l := fun e => by rw [e, hs1] at hsd; cases hsd
    have hdr : d ≠ r := fun e => by rw [e, hs2] at hsd; cases hsd
    simp only [ed d _ hdl]
    rw [va_o hdr]
    obtain ⟨a1, a2, a3, a4, a5⟩ := H.1 d hd hsd
    refine ⟨a1, a2, a3, fun y e => ?_, a5⟩
    obtain ⟨b1, b2, b3⟩ := a4 y e
    exact ⟨b1, b2, Nat.le_trans b3 (up y)⟩
  · obtain ⟨a1, a2, a3, a4, a5⟩ := H.2 p hp hsp
    by_cases hpl : p = l
    · subst hpl
      rw [eo 2 (by decide), eo 3 (by decide), ek, va_o hne]
      exact ⟨a1, a2, fun y e => (by cases e; rw [va_s]; exact Nat.le_refl _), a4, a5⟩
    · simp only [ed p _ hpl]
      by_cases hpr : p = r
      · subst hpr
        rw [va_s]
        exact ⟨a1, a2, fun y e => (by rw [hn] at e; cases e), by omega, a5⟩
      · rw [va_o hpr]
        exact ⟨a1, a2, fun y e => Nat.le_trans (a3 y e) (up y), a4, a5⟩
theorem gT_mk {t W : Nat} (hS : h_S n SH) (hR : g_R n SH FR) (H : g_T n SH FI FR gp gw gs) (hn : n2 = n + 1) (ex : g_ex n SH n2 SH2) (hs : SH2 n = (t, z)) (hW : (t = 3 → 20 ≤ W) ∧ (t = 6 → 200 ≤ W ∧ W ≤ 200000000)) (eI : ∀ c, c < n → FI2 c 0 = FI c 0) (eR : ∀ c k, c < n → FR2 c k = FR c k) (zR : ∀ k, FR2 n k = none) : g_T n2 SH2 FI2 FR2 (va_up gp n 0) (va_up gw n W) (va_up gs n 0) := by
  have hz0 : (SH2 0).1 ≠ 3 := by rw [ex.2 0 (by have := hS.1; omega), s0 hS]; decide
  have hn0 : 176 ≤ n := hS.1
  refine ⟨fun d hd hsd => ?_, fun p hp hsp => ?_⟩
  · by_cases hdn : d = n
    · subst hdn
      rw [hs] at hsd
      simp only [va_s, zR]
      refine ⟨hW.1 hsd, fun _ => ⟨?_, fun j y _ e => (by cases e)⟩, fun _ y e => (by cases e), fun y e => (by cases e), by omega, fun h => ?_⟩
      · have := hW.1 hsd
        have : g_w (va_up gw d W) none = 0 := rfl
        omega
      · exact absurd h hz0
    · have hd' : d < n := by omega
      rw [ex.2 d hd'] at hsd
      have hd0 : 176 ≤ d := g_dynt hS hsd (by decide +kernel)
      obtain ⟨a1, a2, a3, a4, a5, a6⟩ := H.1 d hd' hsd
      have nn : ∀ j, FR d j ≠ some n := fun j e => by have := (gR_t hR hd' hd0 hsd e).1; omega
      have gn : ∀ j y, FR d j = some y → y ≠ n := fun j y e h => nn j (by rw [e, h])
      simp only [eR d _ hd', eI d hd', va_o hdn]
      refine ⟨a1, fun h => ⟨?_, fun j y hj e => ?_⟩, fun h y e => ?_, fun y e => ?_, by omega, fun ht hh => ?_⟩
      · rw [gw_ne (nn 3), gw_ne (nn 4), gw_ne (nn 5)]; exact (a2 h).1
      · rw [va_o (gn j y e)]; exact (a2 h).2 j y hj e
      · rw [va_o (gn 3 y e)]; exact a3 h y e
      · rw [va_o (gn 6 y e), va_o (gn 6 y e)]; exact a4 y e
      · rw [va_o (show gp d ≠ n by omega)]
        rw [ex.2 _ a5] at ht
        rw [eI _ a5] at hh
        exact a6 ht hh
  · by_cases hpn : p = n
    · subst hpn
      rw [hs] at hsp
      simp only [va_s, zR]
      have := hW.2 hsp
      have h0 : g_w (va_up gw p W) none = 0 := rfl
      exact ⟨by omega, fun y e => (by cases e), fun y e => (by cases e), by omega, fun y e => (by cases e)⟩
    · have hp' : p < n := by omega
      rw [ex.2 p hp'] at hsp
      have hp0 : 176 ≤ p := g_dynt hS hsp (by decide +kernel)
      obtain ⟨a1, a2, a3, a4, a5⟩ := H.2 p hp' hsp
      have nn : ∀ j, FR p j ≠ some n := fun j e => by have := (gR_t hR hp' hp0 hsp e).1; omega
      have gn : ∀ j y, FR p j = some y → y ≠ n := fun j y e h => nn j (by rw [e, h])
      simp only [eR p _ hp', va_o hpn]
      refine ⟨by rw [gw_ne (nn 2)]; exact a1, fun y e => ?_, fun y e => ?_, a4, fun y e => ?_⟩
      · rw [ex.2 y (gR_t hR hp' hp0 hsp e).1]; exact a2 y e
      · rw [va_o (gn 5 y e)]; exact a3 y e
      · rw [va_o (gn 2 y e)]; exact a5 y e
theorem gT_wi (H : g_T n SH FI FR gp gw gs) (hk : (SH c).1 = 3 → k ≠ 0) (u : FI2 = h_up FI c k x) : g_T n SH FI2 FR gp gw gs := by
  have e : ∀ d, (SH d).1 = 3 → FI2 d 0 = FI d 0 := fun d hd => by
    by_cases hdc : d = c
    · subst hdc; exact up_k u (fun h => hk hd h.symm) rfl
    · exact up_c u hdc rfl
  refine ⟨fun d hd hsd => ?_, H.2⟩
  obtain ⟨a1, a2, a3, a4, a5, a6⟩ := H.1 d hd hsd
  rw [e d hsd]
  exact ⟨a1, a2, a3, a4, a5, fun ht hh => a6 ht (by rw [← e _ ht]; exact hh)⟩
theorem gT_wo (H : g_T n SH FI FR gp gw gs) (h3 : (SH c).1 ≠ 3) (h6 : (SH c).1 ≠ 6) (u : FR2 = h_up FR c k o) : g_T n SH FI FR2 gp gw gs := by
  refine ⟨fun d hd hsd => ?_, fun d hd hsd => ?_⟩
  · have hdc : d ≠ c := fun e => by rw [e] at hsd; exact h3 hsd
    have ed : ∀ j, FR2 d j = FR d j := fun j => up_c u hdc rfl
    simp only [ed]
    exact H.1 d hd hsd
  · have hdc : d ≠ c := fun e => by rw [e] at hsd; exact h6 hsd
    have ed : ∀ j, FR2 d j = FR d j := fun j => up_c u hdc rfl
    simp only [ed]
    exact H.2 d hd hsd
end GG
end
section
theorem gK_mv {n : Nat} {SH : Nat → Nat × Nat} {FI FI2 : Nat → Nat → Int32} {L : List (Nat × Nat)} {A T : List Nat} (hS : h_S n SH) (h : g_K FI) (f : g_fr n (shd SH) L A T FI FI2) (m : (L.all (fun p => p.1 == 110 || p.1 == 0 || p.1 == 119) && (A.all (fun q => q == 118 || q == 120) && T.isEmpty)) = true) : g_K FI2 := by
  rw [Bool.and_eq_true, Bool.and_eq_true] at m
  obtain ⟨m1, m2, m3⟩ := m
  have hT : T = [] := List.isEmpty_iff.mp m3
  have key : ∀ c k, c = 111 ∨ c = 112 ∨ c = 114 ∨ c = 115 → FI2 c k = FI c k := by
    intro c k hc
    have hn := hS.1
    refine f c k (by omega) (fun h => ?_) (fun h => ?_) (by rw [hT]; simp)
    · have h1 := List.all_eq_true.mp m1 (c, k) h
      simp at h1
      omega
    · have h1 := List.all_eq_true.mp m2 c h
      simp at h1
      omega
  unfold g_K
  rw [key 111 4 (by omega)]
  refine ⟨h.1, by rw [key 112 _ (by omega)]; exact h.2.1, fun i hi => ?_⟩
  rw [key 115 i (by omega), key 114 i (by omega)]
  exact h.2.2 i hi
end
section
set_option maxHeartbeats 4000000 in
set_option maxRecDepth 100000 in
theorem k_take2 {sk : xK} {base d n sl : Nat} {SH : Nat → Nat × Nat} {FI : Nat → Nat → Int32} {FL : Nat → Nat → Int64} {FR : Nat → Nat → Option Nat} (hS : h_S n SH) (hF : h_FR FR) (hI : g_I FI) (hR : g_R n SH FR) (g0 : 0 ≤ (FI 110 7).toInt ∧ (FI 110 7).toInt < (FI 111 4).toInt) (g1 : (FI 110 5).toInt = 0 ∨ (FI 110 8).toInt = 1) (g2 : (FI 110 7).toInt + 1 < (FI 111 4).toInt ∨ (FI 110 8).toInt ≤ 3) (gg0 : g_K FI) : hw sk base d none 38 0 [(0, .ref (base + 110))] [] (n, sl, SH, FI, FL, FR) (h_V (fun s => ∃ FI' FL', s = (n, sl, SH, FI', FL', FR) ∧ g_I FI' ∧ g_fr n (shd SH) [(110, 7), (110, 8)] [] [] FI FI' ∧ g_fr n (shd SH) [(110, 9)] [] [] FL FL' ∧ (0 ≤ (FI' 110 7).toInt ∧ (FI' 110 7).toInt < (FI 111 4).toInt) ∧ ((FI' 110 5).toInt = 0 ∨ (FI' 110 8).toInt = 1) ∧ ((FI' 110 7).toInt + 1 < (FI 111 4).toInt ∨ (FI' 110 8).toInt ≤ 3) ∧ ((FI 110 7).toInt ≤ (FI' 110 7).toInt) ∧ ((FI 110 5).toInt = 0 ∨ (FI' 110 5).toInt = (FI 110 5).toInt) ∧ ((FI' 110 5).toInt = (FI 110 5).toInt) ∧ ((FI 110 5).toInt ≠ 0 ∨ (FI 110 7).toInt + 1 ≥ (FI 111 4).toInt ∨ (FI' 110 7).toInt = (FI 110 7).toInt + 1) ∧ ((FI' 110 7).toInt ≤ (FI 110 7).toInt + 1) ∧ ((FI 110 5).toInt = 0 ∨ (FI' 110 8).toInt = (FI 110 8).toInt))) := by
  obtain ⟨x1, h2⟩ : ∃ y, FI 110 7 = y := ⟨_, rfl⟩
  have h2l := congrArg Int32.toInt h2
  have b3 := gI_110_7 hI; rw [h2] at b3
  obtain ⟨x4, h5⟩ : ∃ y, FI 111 4 = y := ⟨_, rfl⟩
  have h5l := congrArg Int32.toInt h5
  have b6 := gI_111_4 hI; rw [h5] at b6
  obtain ⟨x7, h8⟩ : ∃ y, FI 110 5 = y := ⟨_, rfl⟩
  have h8l := congrArg Int32.toInt h8
  have := i_rng x7
  obtain ⟨x9, h10⟩ : ∃ y, FI 110 8 = y := ⟨_, rfl⟩
  have h10l := congrArg Int32.toInt h10
  have := i_rng x9
  refine hw_aloadn (aX4_take 0 rfl) rfl ?_
  refine hw_get (v := .int (x7)) (aX4_take 1 rfl) wf_RX4_39 (c110 hS) (s110 hS) (by decide) (congrArg Value.int (show FI 110 5 = x7 from h8)) ?_
  refine hw_ifne (tgt := 65) (aX4_take 2 rfl) (by decide) rfl (fun cd11 => ?_) (fun cd11 => ?_)
  · refine xw_vret (aX4_take 33 rfl) rfl ?_
    exact ⟨rfl, FI, FL, rfl, hI, gf_rf, gf_rf, (by have := congrArg Int32.toInt (show FI 110 7 = x1 from h2); omega), (by have := congrArg Int32.toInt (show FI 110 5 = x7 from h8); have := congrArg Int32.toInt (show FI 110 8 = x9 from h10); omega), (by have := congrArg Int32.toInt (show FI 110 7 = x1 from h2); have := congrArg Int32.toInt (show FI 110 8 = x9 from h10); omega), (by have := congrArg Int32.toInt (show FI 110 7 = x1 from h2); omega), (by have := congrArg Int32.toInt (show FI 110 5 = x7 from h8); omega), (by have := congrArg Int32.toInt (show FI 110 5 = x7 from h8); omega), (by have := congrArg Int32.toInt (show FI 110 7 = x1 from h2); omega), (by have := congrArg Int32.toInt (show FI 110 7 = x1 from h2); omega), (by have := congrArg Int32.toInt (show FI 110 8 = x9 from h10); omega)⟩
  · refine hw_aloadn (aX4_take 3 rfl) rfl ?_
    refine hw_get (v := .int (x1)) (aX4_take 4 rfl) wf_RX4_45 (c110 hS) (s110 hS) (by decide) (congrArg Value.int (show FI 110 7 = x1 from h2)) ?_
    refine hw_ic (v := (1 : Int32)) (aX4_take 5 rfl) (by decide) ?_
    refine xw_iadd (aX4_take 6 rfl) ?_
    refine hw_tie (A := ((x1).toInt) + (1)) (i_add rfl (by decide : (1 : Int32).toInt = 1) (by omega) (by omega)) (fun x12 e13 => ?_)
    refine hw_aloadn (aX4_take 7 rfl) rfl ?_
    refine hw_get (v := .ref (base + 111)) (aX4_take 8 rfl) wf_RX4_12 (c110 hS) (s110 hS) (by decide) (congrArg (fun r => va_rf (h_rf base r)) (r110_0 hF)) ?_
    refine hw_get (v := .int (x4)) (aX4_take 9 rfl) wf_RX4_54 (c111 hS) (s111 hS) (by decide) (congrArg Value.int (show FI 111 4 = x4 from h5)) ?_
    refine hw_icge (tgt := 65) (aX4_take 10 rfl) (by decide) e13 rfl (fun cd14 => ?_) (fun cd14 => ?_)
    · refine xw_vret (aX4_take 33 rfl) rfl ?_
      exact ⟨rfl, FI, FL, rfl, hI, gf_rf, gf_rf, (by have := congrArg Int32.toInt (show FI 110 7 = x1 from h2); omega), (by have := congrArg Int32.toInt (show FI 110 5 = x7 from h8); have := congrArg Int32.toInt (show FI 110 8 = x9 from h10); omega), (by have := congrArg Int32.toInt (show FI 110 7 = x1 from h2); have := congrArg Int32.toInt (show FI 110 8 = x9 from h10); omega), (by have := congrArg Int32.toInt (show FI 110 7 = x1 from h2); omega), (by have := congrArg Int32.toInt (show FI 110 5 = x7 from h8); omega), (by have := congrArg Int32.toInt (show FI 110 5 = x7 from h8); omega), (by have := congrArg Int32.toInt (show FI 110 7 = x1 from h2); omega), (by have := congrArg Int32.toInt (show FI 110 7 = x1 from h2); omega), (by have := congrArg Int32.toInt (show FI 110 8 = x9 from h10); omega)⟩
    · refine hw_aloadn (aX4_take 11 rfl) rfl ?_
      refine xw_dup (aX4_take 12 rfl) rfl ?_
      refine hw_get (v := .int (x1)) (aX4_take 13 rfl) wf_RX4_45 (c110 hS) (s110 hS) (by decide) (congrArg Value.int (show FI 110 7 = x1 from h2)) ?_
      refine hw_ic (v := (1 : Int32)) (aX4_take 14 rfl) (by decide) ?_
      refine xw_iadd (aX4_take 15 rfl) ?_
      refine hw_tie (A := ((x1).toInt) + (1)) (i_add rfl (by decide : (1 : Int32).toInt = 1) (by omega) (by omega)) (fun x15 e16 => ?_)
      refine hv_puti (aX4_take 16 rfl) wf_RX4_45 (c110 hS) (s110 hS) (by decide) rfl rfl (fun FI17 u18 => ?_)
      have hI19 : g_I FI17 := gU_110_7 hI u18 (by have := (e16 : (x15).toInt = ((x1).toInt) + (1)); omega) (by have := (e16 : (x15).toInt = ((x1).toInt) + (1)); omega)
      refine hw_aloadn (aX4_take 17 rfl) rfl ?_
      refine hw_aloadn (aX4_take 18 rfl) rfl ?_
      refine hw_get (v := .ref (base + 111)) (aX4_take 19 rfl) wf_RX4_12 (c110 hS) (s110 hS) (by decide) (congrArg (fun r => va_rf (h_rf base r)) (r110_0 hF)) ?_
      refine hw_get (v := .ref (base + 112)) (aX4_take 20 rfl) wf_RX4_55 (c111 hS) (s111 hS) (by decide) (congrArg (fun r => va_rf (h_rf base r)) (r111_0 hF)) ?_
      refine hw_aloadn (aX4_take 21 rfl) rfl ?_
      refine hw_get (v := .int (x15)) (aX4_take 22 rfl) wf_RX4_45 (c110 hS) (s110 hS) (by decide) (congrArg Value.int (show FI17 110 7 = x15 from up_eq u18)) ?_
      obtain ⟨x20, h21⟩ : ∃ y, FI17 112 (x15).toNatClampNeg = y := ⟨_, rfl⟩
      have h21l := congrArg Int32.toInt h21
      have := i_rng x20
      refine hw_iald (v := x20) (aX4_take 23 rfl) (c112 hS) (s112 hS) (h_in e16 (by omega) (by omega)) (show FI17 112 (x15).toNatClampNeg = x20 from h21) ?_
      have hk3 : (x15).toInt + 1 < (x4).toInt ∨ (x20).toInt ≤ 3 := by { by_cases hq : (x15).toInt + 1 = (x4).toInt; { right; have h9 := gg0.2.1; have e9 : ((FI 111 4).toInt - 1).toNat = (x15).toNatClampNeg := (by show _ = (x15).toInt.toNat; have := (e16 : (x15).toInt = ((x1).toInt) + (1)); omega); rw [e9, ← (show FI17 112 _ = FI 112 _ from up_c u18 (by decide) rfl), show FI17 112 _ = x20 from h21] at h9; exact h9 }; { left; have := (e16 : (x15).toInt = ((x1).toInt) + (1)); omega } }
      refine hv_puti (aX4_take 24 rfl) wf_RX4_51 (c110 hS) (s110 hS) (by decide) rfl rfl (fun FI22 u23 => ?_)
      have hI24 : g_I FI22 := gU_F hI19 u23 rfl
      refine hw_aloadn (aX4_take 25 rfl) rfl ?_
      refine hw_aloadn (aX4_take 26 rfl) rfl ?_
      refine hw_get (v := .ref (base + 111)) (aX4_take 27 rfl) wf_RX4_12 (c110 hS) (s110 hS) (by decide) (congrArg (fun r => va_rf (h_rf base r)) (r110_0 hF)) ?_
      refine hw_get (v := .ref (base + 113)) (aX4_take 28 rfl) wf_RX4_58 (c111 hS) (s111 hS) (by decide) (congrArg (fun r => va_rf (h_rf base r)) (r111_1 hF)) ?_
      refine hw_aloadn (aX4_take 29 rfl) rfl ?_
      refine hw_get (v := .int (x15)) (aX4_take 30 rfl) wf_RX4_45 (c110 hS) (s110 hS) (by decide) (congrArg Value.int (show FI22 110 7 = x15 from (up_k u23 (by decide) (up_eq u18)))) ?_
      obtain ⟨x25, h26⟩ : ∃ y, FL 113 (x15).toNatClampNeg = y := ⟨_, rfl⟩
      have h26l := congrArg Int64.toInt h26
      have := l_rng x25
      refine hw_lald (v := x25) (aX4_take 31 rfl) (c113 hS) (s113 hS) (h_in e16 (by omega) (by omega)) (show FL 113 (x15).toNatClampNeg = x25 from h26) ?_
      refine hv_putl (aX4_take 32 rfl) wf_RX4_62 (c110 hS) (s110 hS) (by decide) rfl rfl (fun FL27 u28 => ?_)
      refine xw_vret (aX4_take 33 rfl) rfl ?_
      exact ⟨rfl, FI22, FL27, rfl, hI24, (gf_f (gf_f gf_rf u18 (by decide)) u23 (by decide)), (gf_f gf_rf u28 (by decide)), (by have := congrArg Int32.toInt (show FI22 110 7 = x15 from (up_k u23 (by decide) (up_eq u18))); have := (e16 : (x15).toInt = ((x1).toInt) + (1)); omega), (by have := congrArg Int32.toInt (show FI22 110 5 = x7 from (up_k u23 (by decide) ((up_k u18 (by decide) (h8))))); have := congrArg Int32.toInt (show FI22 110 8 = x20 from up_eq u23); omega), (by have := congrArg Int32.toInt (show FI22 110 7 = x15 from (up_k u23 (by decide) (up_eq u18))); have := (e16 : (x15).toInt = ((x1).toInt) + (1)); have := congrArg Int32.toInt (show FI22 110 8 = x20 from up_eq u23); omega), (by have := congrArg Int32.toInt (show FI22 110 7 = x15 from (up_k u23 (by decide) (up_eq u18))); have := (e16 : (x15).toInt = ((x1).toInt) + (1)); omega), (by have := congrArg Int32.toInt (show FI22 110 5 = x7 from (up_k u23 (by decide) ((up_k u18 (by decide) (h8))))); omega), (by have := congrArg Int32.toInt (show FI22 110 5 = x7 from (up_k u23 (by decide) ((up_k u18 (by decide) (h8))))); omega), (by have := congrArg Int32.toInt (show FI22 110 7 = x15 from (up_k u23 (by decide) (up_eq u18))); have := (e16 : (x15).toInt = ((x1).toInt) + (1)); omega), (by have := congrArg Int32.toInt (show FI22 110 7 = x15 from (up_k u23 (by decide) (up_eq u18))); have := (e16 : (x15).toInt = ((x1).toInt) + (1)); omega), (by have := congrArg Int32.toInt (show FI22 110 8 = x20 from up_eq u23); omega)⟩
set_option maxHeartbeats 4000000 in
set_option maxRecDepth 100000 in
theorem k_refuse2 {sk : xK} {base d n sl : Nat} {SH : Nat → Nat × Nat} {FI : Nat → Nat → Int32} {FL : Nat → Nat → Int64} {FR : Nat → Nat → Option Nat} (hS : h_S n SH) (hF : h_FR FR) (hI : g_I FI) (hR : g_R n SH FR) (a1 : Int32) (g0 : 0 ≤ (FI 110 7).toInt ∧ (FI 110 7).toInt < (FI 111 4).toInt) (g1 : (FI 110 5).toInt = 0 ∨ (FI 110 8).toInt = 1) (g2 : (FI 110 7).toInt + 1 < (FI 111 4).toInt ∨ (FI 110 8).toInt ≤ 3) (g3 : 1 ≤ (a1).toInt ∧ (a1).toInt ≤ 7) : hw sk base d none 39 0 [(0, .ref (base + 110)), (1, .int (a1))] [] (n, sl, SH, FI, FL, FR) (h_V (fun s => ∃ FI', s = (n, sl, SH, FI', FL, FR) ∧ g_I FI' ∧ g_fr n (shd SH) [(110, 5), (110, 6), (110, 8)] [] [] FI FI' ∧ ((FI' 110 5).toInt ≠ 0 ∧ (FI' 110 8).toInt = 1) ∧ ((FI 110 5).toInt = 0 ∨ (FI' 110 5).toInt = (FI 110 5).toInt))) := by
  have rg_a1 := i_rng a1
  obtain ⟨x1, h2⟩ : ∃ y, FI 110 7 = y := ⟨_, rfl⟩
  have h2l := congrArg Int32.toInt h2
  have b3 := gI_110_7 hI; rw [h2] at b3
  obtain ⟨x4, h5⟩ : ∃ y, FI 111 4 = y := ⟨_, rfl⟩
  have h5l := congrArg Int32.toInt h5
  have b6 := gI_111_4 hI; rw [h5] at b6
  obtain ⟨x7, h8⟩ : ∃ y, FI 110 5 = y := ⟨_, rfl⟩
  have h8l := congrArg Int32.toInt h8
  have := i_rng x7
  obtain ⟨x9, h10⟩ : ∃ y, FI 110 8 = y := ⟨_, rfl⟩
  have h10l := congrArg Int32.toInt h10
  have := i_rng x9
  refine hw_aloadn (aX4_refuse 0 rfl) rfl ?_
  refine hw_get (v := .int (x7)) (aX4_refuse 1 rfl) wf_RX4_39 (c110 hS) (s110 hS) (by decide) (congrArg Value.int (show FI 110 5 = x7 from h8)) ?_
  refine hw_ifne (tgt := 54) (aX4_refuse 2 rfl) (by decide) rfl (fun cd11 => ?_) (fun cd11 => ?_)
  · refine xw_vret (aX4_refuse 26 rfl) rfl ?_
    exact ⟨rfl, FI, rfl, hI, gf_rf, (by have := congrArg Int32.toInt (show FI 110 5 = x7 from h8); have := congrArg Int32.toInt (show FI 110 8 = x9 from h10); omega), (by have := congrArg Int32.toInt (show FI 110 5 = x7 from h8); omega)⟩
  · refine hw_aloadn (aX4_refuse 3 rfl) rfl ?_
    refine hw_get (v := .int (x1)) (aX4_refuse 4 rfl) wf_RX4_45 (c110 hS) (s110 hS) (by decide) (congrArg Value.int (show FI 110 7 = x1 from h2)) ?_
    refine hw_iflt (tgt := 54) (aX4_refuse 5 rfl) (by decide) rfl (fun cd12 => ?_) (fun cd12 => ?_)
    · refine xw_vret (aX4_refuse 26 rfl) rfl ?_
      exact ⟨rfl, FI, rfl, hI, gf_rf, (by have := congrArg Int32.toInt (show FI 110 5 = x7 from h8); have := congrArg Int32.toInt (show FI 110 8 = x9 from h10); omega), (by have := congrArg Int32.toInt (show FI 110 5 = x7 from h8); omega)⟩
    · refine hw_aloadn (aX4_refuse 6 rfl) rfl ?_
      refine hw_get (v := .int (x1)) (aX4_refuse 7 rfl) wf_RX4_45 (c110 hS) (s110 hS) (by decide) (congrArg Value.int (show FI 110 7 = x1 from h2)) ?_
      refine hw_aloadn (aX4_refuse 8 rfl) rfl ?_
      refine hw_get (v := .ref (base + 111)) (aX4_refuse 9 rfl) wf_RX4_12 (c110 hS) (s110 hS) (by decide) (congrArg (fun r => va_rf (h_rf base r)) (r110_0 hF)) ?_
      refine hw_get (v := .int (x4)) (aX4_refuse 10 rfl) wf_RX4_54 (c111 hS) (s111 hS) (by decide) (congrArg Value.int (show FI 111 4 = x4 from h5)) ?_
      refine hw_icge (tgt := 54) (aX4_refuse 11 rfl) (by decide) rfl rfl (fun cd13 => ?_) (fun cd13 => ?_)
      · refine xw_vret (aX4_refuse 26 rfl) rfl ?_
        exact ⟨rfl, FI, rfl, hI, gf_rf, (by have := congrArg Int32.toInt (show FI 110 5 = x7 from h8); have := congrArg Int32.toInt (show FI 110 8 = x9 from h10); omega), (by have := congrArg Int32.toInt (show FI 110 5 = x7 from h8); omega)⟩
      · refine hw_aloadn (aX4_refuse 12 rfl) rfl ?_
        refine xw_iloadn (aX4_refuse 13 rfl) rfl ?_
        refine hv_puti (aX4_refuse 14 rfl) wf_RX4_39 (c110 hS) (s110 hS) (by decide) rfl rfl (fun FI14 u15 => ?_)
        have hI16 : g_I FI14 := gU_F hI u15 rfl
        refine hw_aloadn (aX4_refuse 15 rfl) rfl ?_
        refine hw_aloadn (aX4_refuse 16 rfl) rfl ?_
        refine hw_get (v := .ref (base + 111)) (aX4_refuse 17 rfl) wf_RX4_12 (c110 hS) (s110 hS) (by decide) (congrArg (fun r => va_rf (h_rf base r)) (r110_0 hF)) ?_
        refine hw_get (v := .ref (base + 114)) (aX4_refuse 18 rfl) wf_RX4_66 (c111 hS) (s111 hS) (by decide) (congrArg (fun r => va_rf (h_rf base r)) (r111_2 hF)) ?_
        refine hw_aloadn (aX4_refuse 19 rfl) rfl ?_
        refine hw_get (v := .int (x1)) (aX4_refuse 20 rfl) wf_RX4_45 (c110 hS) (s110 hS) (by decide) (congrArg Value.int (show FI14 110 7 = x1 from (up_k u15 (by decide) (h2)))) ?_
        obtain ⟨x17, h18⟩ : ∃ y, FI14 114 (x1).toNatClampNeg = y := ⟨_, rfl⟩
        have h18l := congrArg Int32.toInt h18
        have := i_rng x17
        refine hw_iald (v := x17) (aX4_refuse 21 rfl) (c114 hS) (s114 hS) (h_in rfl (by omega) (by omega)) (show FI14 114 (x1).toNatClampNeg = x17 from h18) ?_
        have b19 := gI_114 hI16 (i_lt (x := x1) rfl (by omega) (by omega)); rw [h18] at b19
        refine hv_puti (aX4_refuse 22 rfl) wf_RX4_42 (c110 hS) (s110 hS) (by decide) rfl rfl (fun FI20 u21 => ?_)
        have hI22 : g_I FI20 := gU_F hI16 u21 rfl
        refine hw_aloadn (aX4_refuse 23 rfl) rfl ?_
        refine hw_ic (v := (1 : Int32)) (aX4_refuse 24 rfl) (by decide) ?_
        refine hv_puti (aX4_refuse 25 rfl) wf_RX4_51 (c110 hS) (s110 hS) (by decide) rfl rfl (fun FI23 u24 => ?_)
        have hI25 : g_I FI23 := gU_F hI22 u24 rfl
        refine xw_vret (aX4_refuse 26 rfl) rfl ?_
        exact ⟨rfl, FI23, rfl, hI25, (gf_f (gf_f (gf_f gf_rf u15 (by decide)) u21 (by decide)) u24 (by decide)), (by have := congrArg Int32.toInt (show FI23 110 5 = a1 from (up_k u24 (by decide) ((up_k u21 (by decide) (up_eq u15))))); have := congrArg Int32.toInt (show FI23 110 8 = (1 : Int32) from up_eq u24); have := ((by decide : (1 : Int32).toInt = 1) : ((1 : Int32)).toInt = 1); omega), (by have := congrArg Int32.toInt (show FI23 110 5 = a1 from (up_k u24 (by decide) ((up_k u21 (by decide) (up_eq u15))))); omega)⟩
set_option maxHeartbeats 4000000 in
set_option maxRecDepth 100000 in
theorem k_expect2 {sk : xK} {base d n sl : Nat} {SH : Nat → Nat × Nat} {FI : Nat → Nat → Int32} {FL : Nat → Nat → Int64} {FR : Nat → Nat → Option Nat} (hS : h_S n SH) (hF : h_FR FR) (hI : g_I FI) (hR : g_R n SH FR) (a1 : Int32) (g0 : 0 ≤ (FI 110 7).toInt ∧ (FI 110 7).toInt < (FI 111 4).toInt) (g1 : (FI 110 5).toInt = 0 ∨ (FI 110 8).toInt = 1) (g2 : (FI 110 7).toInt + 1 < (FI 111 4).toInt ∨ (FI 110 8).toInt ≤ 3) (gg0 : g_K FI) : hw sk base (d + 1) none 40 0 [(0, .ref (base + 110)), (1, .int (a1))] [] (n, sl, SH, FI, FL, FR) (h_V (fun s => ∃ FI' FL', s = (n, sl, SH, FI', FL', FR) ∧ g_I FI' ∧ g_fr n (shd SH) [(110, 5), (110, 6), (110, 7), (110, 8)] [] [] FI FI' ∧ g_fr n (shd SH) [(110, 9)] [] [] FL FL' ∧ (0 ≤ (FI' 110 7).toInt ∧ (FI' 110 7).toInt < (FI 111 4).toInt) ∧ ((FI' 110 5).toInt = 0 ∨ (FI' 110 8).toInt = 1) ∧ ((FI' 110 7).toInt + 1 < (FI 111 4).toInt ∨ (FI' 110 8).toInt ≤ 3) ∧ ((FI 110 7).toInt ≤ (FI' 110 7).toInt) ∧ ((FI 110 5).toInt = 0 ∨ (FI' 110 5).toInt = (FI 110 5).toInt))) := by
  have rg_a1 := i_rng a1
  obtain ⟨x1, h2⟩ : ∃ y, FI 110 7 = y := ⟨_, rfl⟩
  have h2l := congrArg Int32.toInt h2
  have b3 := gI_110_7 hI; rw [h2] at b3
  obtain ⟨x4, h5⟩ : ∃ y, FI 111 4 = y := ⟨_, rfl⟩
  have h5l := congrArg Int32.toInt h5
  have b6 := gI_111_4 hI; rw [h5] at b6
  obtain ⟨x7, h8⟩ : ∃ y, FI 110 5 = y := ⟨_, rfl⟩
  have h8l := congrArg Int32.toInt h8
  have := i_rng x7
  obtain ⟨x9, h10⟩ : ∃ y, FI 110 8 = y := ⟨_, rfl⟩
  have h10l := congrArg Int32.toInt h10
  have := i_rng x9
  refine hw_aloadn (aX4_expect 0 rfl) rfl ?_
  refine hw_get (v := .int (x9)) (aX4_expect 1 rfl) wf_RX4_51 (c110 hS) (s110 hS) (by decide) (congrArg Value.int (show FI 110 8 = x9 from h10)) ?_
  refine xw_iloadn (aX4_expect 2 rfl) rfl ?_
  refine hw_icne (tgt := 15) (aX4_expect 3 rfl) (by decide) rfl rfl (fun cd11 => ?_) (fun cd11 => ?_)
  · refine hw_aloadn (aX4_expect 7 rfl) rfl ?_
    refine hw_ic (v := (1 : Int32)) (aX4_expect 8 rfl) (by decide) ?_
    refine hw_callV (Bs := [.int ((1 : Int32))]) (rest := []) (aX4_expect 9 rfl) wc_RX4_69 (by decide) rfl wi_yX4_refuse wv_yX4_refuse (c110 hS) (s110 hS) rfl rfl rfl (Nat.le_of_ble_eq_true rfl) (Nat.le_of_ble_eq_true rfl) (k_refuse2 (d := d) hS hF hI hR ((1 : Int32)) (by have := congrArg Int32.toInt (show FI 110 7 = x1 from h2); have := congrArg Int32.toInt (show FI 110 7 = x1 from h2); have := congrArg Int32.toInt (show FI 111 4 = x4 from h5); omega) (by have := congrArg Int32.toInt (show FI 110 5 = x7 from h8); have := congrArg Int32.toInt (show FI 110 8 = x9 from h10); omega) (by have := congrArg Int32.toInt (show FI 110 7 = x1 from h2); have := congrArg Int32.toInt (show FI 111 4 = x4 from h5); have := congrArg Int32.toInt (show FI 110 8 = x9 from h10); omega) (by have := ((by decide : (1 : Int32).toInt = 1) : ((1 : Int32)).toInt = 1); have := ((by decide : (1 : Int32).toInt = 1) : ((1 : Int32)).toInt = 1); omega)) (fun v12 sv13 p14 => ?_)
    have := congrArg Int32.toInt (show FI 110 5 = x7 from h8)
    have := congrArg Int32.toInt (show FI 110 5 = x7 from h8)
    obtain ⟨rfl, FI16, rfl, hI17, f18, t21, t22⟩ := p14
    obtain ⟨x25, h26⟩ : ∃ y, FI16 110 5 = y := ⟨_, rfl⟩
    have h26l := congrArg Int32.toInt h26
    have := i_rng x25
    obtain ⟨x27, h28⟩ : ∃ y, FI16 110 8 = y := ⟨_, rfl⟩
    have h28l := congrArg Int32.toInt h28
    have := i_rng x27
    show hw sk base _ _ _ _ _ [] _ _
    refine xw_vret (aX4_expect 10 rfl) rfl ?_
    exact ⟨rfl, FI16, FL, rfl, hI17, (gf_tr ex_rf gf_rf f18 rfl rfl rfl), gf_rf, (by have := congrArg Int32.toInt (show FI16 110 7 = x1 from (gf_at f18 (c110 hS) (shd_f (by decide) (s110 hS)) rfl (h2))); omega), (by have := congrArg Int32.toInt (show FI16 110 5 = x25 from h26); have := congrArg Int32.toInt (show FI16 110 8 = x27 from h28); omega), (by have := congrArg Int32.toInt (show FI16 110 7 = x1 from (gf_at f18 (c110 hS) (shd_f (by decide) (s110 hS)) rfl (h2))); have := congrArg Int32.toInt (show FI16 110 8 = x27 from h28); omega), (by have := congrArg Int32.toInt (show FI16 110 7 = x1 from (gf_at f18 (c110 hS) (shd_f (by decide) (s110 hS)) rfl (h2))); omega), (by have := congrArg Int32.toInt (show FI16 110 5 = x25 from h26); omega)⟩
  · refine hw_aloadn (aX4_expect 4 rfl) rfl ?_
    refine hw_callV (Bs := []) (rest := []) (aX4_expect 5 rfl) wc_RX4_48 (by decide) rfl wi_yX4_take wv_yX4_take (c110 hS) (s110 hS) rfl rfl rfl (Nat.le_of_ble_eq_true rfl) (Nat.le_of_ble_eq_true rfl) (k_take2 (d := d) hS hF hI hR (by have := congrArg Int32.toInt (show FI 110 7 = x1 from h2); have := congrArg Int32.toInt (show FI 110 7 = x1 from h2); have := congrArg Int32.toInt (show FI 111 4 = x4 from h5); omega) (by have := congrArg Int32.toInt (show FI 110 5 = x7 from h8); have := congrArg Int32.toInt (show FI 110 8 = x9 from h10); omega) (by have := congrArg Int32.toInt (show FI 110 7 = x1 from h2); have := congrArg Int32.toInt (show FI 111 4 = x4 from h5); have := congrArg Int32.toInt (show FI 110 8 = x9 from h10); omega) (gK_mv (L := [(110, 5), (110, 6), (110, 7), (110, 8)]) (A := []) (T := []) hS gg0 gf_rf (by decide))) (fun v29 sv30 p31 => ?_)
    have := congrArg Int32.toInt (show FI 111 4 = x4 from h5)
    have := congrArg Int32.toInt (show FI 111 4 = x4 from h5)
    have := congrArg Int32.toInt (show FI 110 7 = x1 from h2)
    have := congrArg Int32.toInt (show FI 110 5 = x7 from h8)
    have := congrArg Int32.toInt (show FI 110 5 = x7 from h8)
    have := congrArg Int32.toInt (show FI 110 5 = x7 from h8)
    have := congrArg Int32.toInt (show FI 110 5 = x7 from h8)
    have := congrArg Int32.toInt (show FI 110 7 = x1 from h2)
    have := congrArg Int32.toInt (show FI 111 4 = x4 from h5)
    have := congrArg Int32.toInt (show FI 110 7 = x1 from h2)
    have := congrArg Int32.toInt (show FI 110 7 = x1 from h2)
    have := congrArg Int32.toInt (show FI 110 5 = x7 from h8)
    have := congrArg Int32.toInt (show FI 110 8 = x9 from h10)
    obtain ⟨rfl, FI33, FL34, rfl, hI35, f36, f37, t40, t41, t42, t43, t44, t45, t46, t47, t48⟩ := p31
    obtain ⟨x51, h52⟩ : ∃ y, FI33 110 7 = y := ⟨_, rfl⟩
    have h52l := congrArg Int32.toInt h52
    have b53 := gI_110_7 hI35; rw [h52] at b53
    obtain ⟨x54, h55⟩ : ∃ y, FI33 110 8 = y := ⟨_, rfl⟩
    have h55l := congrArg Int32.toInt h55
    have := i_rng x54
    show hw sk base _ _ _ _ _ [] _ _
    refine xw_goto (tgt := 20) (aX4_expect 6 rfl) (by decide) ?_
    refine xw_vret (aX4_expect 10 rfl) rfl ?_
    exact ⟨rfl, FI33, FL34, rfl, hI35, (gf_tr ex_rf gf_rf f36 rfl rfl rfl), (gf_tr ex_rf gf_rf f37 rfl rfl rfl), (by have := congrArg Int32.toInt (show FI33 110 7 = x51 from h52); omega), (by have := congrArg Int32.toInt (show FI33 110 5 = x7 from (gf_at f36 (c110 hS) (shd_f (by decide) (s110 hS)) rfl (h8))); have := congrArg Int32.toInt (show FI33 110 8 = x54 from h55); omega), (by have := congrArg Int32.toInt (show FI33 110 7 = x51 from h52); have := congrArg Int32.toInt (show FI33 110 8 = x54 from h55); omega), (by have := congrArg Int32.toInt (show FI33 110 7 = x51 from h52); omega), (by have := congrArg Int32.toInt (show FI33 110 5 = x7 from (gf_at f36 (c110 hS) (shd_f (by decide) (s110 hS)) rfl (h8))); omega)⟩
set_option maxHeartbeats 4000000 in
set_option maxRecDepth 100000 in
theorem k_raise2 {sk : xK} {base d n sl : Nat} {SH : Nat → Nat × Nat} {FI : Nat → Nat → Int32} {FL : Nat → Nat → Int64} {FR : Nat → Nat → Option Nat} (hS : h_S n SH) (hF : h_FR FR) (hI : g_I FI) (hR : g_R n SH FR) (g0 : 0 ≤ (FI 110 7).toInt ∧ (FI 110 7).toInt < (FI 111 4).toInt) (g1 : (FI 110 5).toInt = 0 ∨ (FI 110 8).toInt = 1) (g2 : (FI 110 7).toInt + 1 < (FI 111 4).toInt ∨ (FI 110 8).toInt ≤ 3) : hw sk base (d + 1) none 41 0 [(0, .ref (base + 110))] [] (n, sl, SH, FI, FL, FR) (h_I (fun r s => ∃ FI', s = (n, sl, SH, FI', FL, FR) ∧ g_I FI' ∧ g_fr n (shd SH) [(110, 4), (110, 5), (110, 6), (110, 8)] [] [] FI FI' ∧ (r.toInt = 1 → ((FI' 110 4).toInt = (FI 110 4).toInt + 1 ∧ (FI 110 4).toInt ≤ 11 ∧ (FI' 110 5).toInt = (FI 110 5).toInt ∧ (FI' 110 8).toInt = (FI 110 8).toInt)) ∧ (r.toInt = 0 → ((FI' 110 5).toInt ≠ 0 ∧ (FI' 110 8).toInt = 1 ∧ (FI' 110 4).toInt = (FI 110 4).toInt)) ∧ ((FI 110 5).toInt = 0 ∨ (FI' 110 5).toInt = (FI 110 5).toInt) ∧ (0 ≤ r.toInt ∧ r.toInt ≤ 1))) := by
  obtain ⟨x1, h2⟩ : ∃ y, FI 110 7 = y := ⟨_, rfl⟩
  have h2l := congrArg Int32.toInt h2
  have b3 := gI_110_7 hI; rw [h2] at b3
  obtain ⟨x4, h5⟩ : ∃ y, FI 111 4 = y := ⟨_, rfl⟩
  have h5l := congrArg Int32.toInt h5
  have b6 := gI_111_4 hI; rw [h5] at b6
  obtain ⟨x7, h8⟩ : ∃ y, FI 110 5 = y := ⟨_, rfl⟩
  have h8l := congrArg Int32.toInt h8
  have := i_rng x7
  obtain ⟨x9, h10⟩ : ∃ y, FI 110 8 = y := ⟨_, rfl⟩
  have h10l := congrArg Int32.toInt h10
  have := i_rng x9
  obtain ⟨x11, h12⟩ : ∃ y, FI 110 4 = y := ⟨_, rfl⟩
  have h12l := congrArg Int32.toInt h12
  have := i_rng x11
  refine hw_aloadn (aX4_raise 0 rfl) rfl ?_
  refine hw_get (v := .int (x11)) (aX4_raise 1 rfl) wf_RX4_36 (c110 hS) (s110 hS) (by decide) (congrArg Value.int (show FI 110 4 = x11 from h12)) ?_
  refine hw_bp (v := (12 : Int32)) (aX4_raise 2 rfl) (by decide) ?_
  refine hw_iclt (tgt := 16) (aX4_raise 3 rfl) (by decide) rfl (by decide : (12 : Int32).toInt = 12) (fun cd13 => ?_) (fun cd13 => ?_)
  · refine hw_aloadn (aX4_raise 9 rfl) rfl ?_
    refine xw_dup (aX4_raise 10 rfl) rfl ?_
    refine hw_get (v := .int (x11)) (aX4_raise 11 rfl) wf_RX4_36 (c110 hS) (s110 hS) (by decide) (congrArg Value.int (show FI 110 4 = x11 from h12)) ?_
    refine hw_ic (v := (1 : Int32)) (aX4_raise 12 rfl) (by decide) ?_
    refine xw_iadd (aX4_raise 13 rfl) ?_
    refine hw_tie (A := ((x11).toInt) + (1)) (i_add rfl (by decide : (1 : Int32).toInt = 1) (by omega) (by omega)) (fun x14 e15 => ?_)
    refine hv_puti (aX4_raise 14 rfl) wf_RX4_36 (c110 hS) (s110 hS) (by decide) rfl rfl (fun FI16 u17 => ?_)
    have hI18 : g_I FI16 := gU_F hI u17 rfl
    refine hw_ic (v := (1 : Int32)) (aX4_raise 15 rfl) (by decide) ?_
    refine xw_iret (aX4_raise 16 rfl) rfl (by decide) ?_
    have e19 : ((1 : Int32)).toInt = 1 := (by decide : (1 : Int32).toInt = 1)
    exact ⟨(1 : Int32), rfl, FI16, rfl, hI18, (gf_f gf_rf u17 (by decide)), (by have : ((1 : Int32)).toInt = 1 := (by decide); have := congrArg Int32.toInt (show FI16 110 4 = x14 from up_eq u17); have := (e15 : (x14).toInt = ((x11).toInt) + (1)); have := congrArg Int32.toInt (show FI16 110 5 = x7 from (up_k u17 (by decide) (h8))); have := congrArg Int32.toInt (show FI16 110 8 = x9 from (up_k u17 (by decide) (h10))); omega), (by have : ((1 : Int32)).toInt = 1 := (by decide); have := congrArg Int32.toInt (show FI16 110 4 = x14 from up_eq u17); have := (e15 : (x14).toInt = ((x11).toInt) + (1)); have := congrArg Int32.toInt (show FI16 110 5 = x7 from (up_k u17 (by decide) (h8))); have := congrArg Int32.toInt (show FI16 110 8 = x9 from (up_k u17 (by decide) (h10))); omega), (by have : ((1 : Int32)).toInt = 1 := (by decide); have := congrArg Int32.toInt (show FI16 110 5 = x7 from (up_k u17 (by decide) (h8))); omega), (by have : ((1 : Int32)).toInt = 1 := (by decide); omega)⟩
  · refine hw_aloadn (aX4_raise 4 rfl) rfl ?_
    refine hw_ic (v := (5 : Int32)) (aX4_raise 5 rfl) (by decide) ?_
    refine hw_callV (Bs := [.int ((5 : Int32))]) (rest := []) (aX4_raise 6 rfl) wc_RX4_69 (by decide) rfl wi_yX4_refuse wv_yX4_refuse (c110 hS) (s110 hS) rfl rfl rfl (Nat.le_of_ble_eq_true rfl) (Nat.le_of_ble_eq_true rfl) (k_refuse2 (d := d) hS hF hI hR ((5 : Int32)) (by have := congrArg Int32.toInt (show FI 110 7 = x1 from h2); have := congrArg Int32.toInt (show FI 110 7 = x1 from h2); have := congrArg Int32.toInt (show FI 111 4 = x4 from h5); omega) (by have := congrArg Int32.toInt (show FI 110 5 = x7 from h8); have := congrArg Int32.toInt (show FI 110 8 = x9 from h10); omega) (by have := congrArg Int32.toInt (show FI 110 7 = x1 from h2); have := congrArg Int32.toInt (show FI 111 4 = x4 from h5); have := congrArg Int32.toInt (show FI 110 8 = x9 from h10); omega) (by have := ((by decide : (5 : Int32).toInt = 5) : ((5 : Int32)).toInt = 5); have := ((by decide : (5 : Int32).toInt = 5) : ((5 : Int32)).toInt = 5); omega)) (fun v20 sv21 p22 => ?_)
    have := congrArg Int32.toInt (show FI 110 5 = x7 from h8)
    have := congrArg Int32.toInt (show FI 110 5 = x7 from h8)
    obtain ⟨rfl, FI24, rfl, hI25, f26, t29, t30⟩ := p22
    obtain ⟨x33, h34⟩ : ∃ y, FI24 110 5 = y := ⟨_, rfl⟩
    have h34l := congrArg Int32.toInt h34
    have := i_rng x33
    obtain ⟨x35, h36⟩ : ∃ y, FI24 110 8 = y := ⟨_, rfl⟩
    have h36l := congrArg Int32.toInt h36
    have := i_rng x35
    show hw sk base _ _ _ _ _ [] _ _
    refine hw_ic (v := (0 : Int32)) (aX4_raise 7 rfl) (by decide) ?_
    refine xw_iret (aX4_raise 8 rfl) rfl (by decide) ?_
    have e37 : ((0 : Int32)).toInt = 0 := (by decide : (0 : Int32).toInt = 0)
    exact ⟨(0 : Int32), rfl, FI24, rfl, hI25, (gf_tr ex_rf gf_rf f26 rfl rfl rfl), (by have : ((0 : Int32)).toInt = 0 := (by decide); have := congrArg Int32.toInt (show FI24 110 4 = x11 from (gf_at f26 (c110 hS) (shd_f (by decide) (s110 hS)) rfl (h12))); have := congrArg Int32.toInt (show FI24 110 5 = x33 from h34); have := congrArg Int32.toInt (show FI24 110 8 = x35 from h36); omega), (by have : ((0 : Int32)).toInt = 0 := (by decide); have := congrArg Int32.toInt (show FI24 110 4 = x11 from (gf_at f26 (c110 hS) (shd_f (by decide) (s110 hS)) rfl (h12))); have := congrArg Int32.toInt (show FI24 110 5 = x33 from h34); have := congrArg Int32.toInt (show FI24 110 8 = x35 from h36); omega), (by have : ((0 : Int32)).toInt = 0 := (by decide); have := congrArg Int32.toInt (show FI24 110 5 = x33 from h34); omega), (by have : ((0 : Int32)).toInt = 0 := (by decide); omega)⟩
set_option maxHeartbeats 4000000 in
set_option maxRecDepth 100000 in
theorem k_high2 {sk : xK} {base d n sl : Nat} {SH : Nat → Nat × Nat} {FI : Nat → Nat → Int32} {FL : Nat → Nat → Int64} {FR : Nat → Nat → Option Nat} (hS : h_S n SH) (hF : h_FR FR) (hI : g_I FI) (hR : g_R n SH FR) (g0 : 0 ≤ (FI 110 7).toInt ∧ (FI 110 7).toInt < (FI 111 4).toInt) (g1 : (FI 110 5).toInt = 0 ∨ (FI 110 8).toInt = 1) (g2 : (FI 110 7).toInt + 1 < (FI 111 4).toInt ∨ (FI 110 8).toInt ≤ 3) : hw sk base (d + 1) none 51 0 [(0, .ref (base + 110))] [] (n, sl, SH, FI, FL, FR) (h_J (fun r s => ∃ FI', s = (n, sl, SH, FI', FL, FR) ∧ g_I FI' ∧ g_fr n (shd SH) [(110, 5), (110, 6), (110, 8)] [] [] FI FI' ∧ ((FI' 110 5).toInt = 0 ∨ (FI' 110 8).toInt = 1) ∧ ((FI' 110 7).toInt + 1 < (FI 111 4).toInt ∨ (FI' 110 8).toInt ≤ 3) ∧ ((FI 110 5).toInt = 0 ∨ (FI' 110 5).toInt = (FI 110 5).toInt))) := by
  obtain ⟨x1, h2⟩ : ∃ y, FI 110 7 = y := ⟨_, rfl⟩
  have h2l := congrArg Int32.toInt h2
  have b3 := gI_110_7 hI; rw [h2] at b3
  obtain ⟨x4, h5⟩ : ∃ y, FI 111 4 = y := ⟨_, rfl⟩
  have h5l := congrArg Int32.toInt h5
  have b6 := gI_111_4 hI; rw [h5] at b6
  obtain ⟨x7, h8⟩ : ∃ y, FI 110 5 = y := ⟨_, rfl⟩
  have h8l := congrArg Int32.toInt h8
  have := i_rng x7
  obtain ⟨x9, h10⟩ : ∃ y, FI 110 8 = y := ⟨_, rfl⟩
  have h10l := congrArg Int32.toInt h10
  have := i_rng x9
  refine hw_aloadn (aX4_refuseHighRegister 0 rfl) rfl ?_
  refine hw_get (v := .int (x9)) (aX4_refuseHighRegister 1 rfl) wf_RX4_51 (c110 hS) (s110 hS) (by decide) (congrArg Value.int (show FI 110 8 = x9 from h10)) ?_
  refine hw_ic (v := (5 : Int32)) (aX4_refuseHighRegister 2 rfl) (by decide) ?_
  refine hw_icne (tgt := 24) (aX4_refuseHighRegister 3 rfl) (by decide) rfl (by decide : (5 : Int32).toInt = 5) (fun cd11 => ?_) (fun cd11 => ?_)
  · refine hw_aloadn (aX4_refuseHighRegister 12 rfl) rfl ?_
    obtain ⟨x12, h13⟩ : ∃ y, FL 110 9 = y := ⟨_, rfl⟩
    have h13l := congrArg Int64.toInt h13
    have := l_rng x12
    refine hw_get (v := .long (x12)) (aX4_refuseHighRegister 13 rfl) wf_RX4_62 (c110 hS) (s110 hS) (by decide) (congrArg Value.long (show FL 110 9 = x12 from h13)) ?_
    refine xw_lret (aX4_refuseHighRegister 14 rfl) rfl ?_
    exact ⟨x12, rfl, FI, rfl, hI, gf_rf, (by have := congrArg Int32.toInt (show FI 110 5 = x7 from h8); have := congrArg Int32.toInt (show FI 110 8 = x9 from h10); omega), (by have := congrArg Int32.toInt (show FI 110 7 = x1 from h2); have := congrArg Int32.toInt (show FI 110 8 = x9 from h10); omega), (by have := congrArg Int32.toInt (show FI 110 5 = x7 from h8); omega)⟩
  · refine hw_aloadn (aX4_refuseHighRegister 4 rfl) rfl ?_
    obtain ⟨x14, h15⟩ : ∃ y, FL 110 9 = y := ⟨_, rfl⟩
    have h15l := congrArg Int64.toInt h15
    have := l_rng x14
    refine hw_get (v := .long (x14)) (aX4_refuseHighRegister 5 rfl) wf_RX4_62 (c110 hS) (s110 hS) (by decide) (congrArg Value.long (show FL 110 9 = x14 from h15)) ?_
    refine xw_ldc2 (aX4_refuseHighRegister 6 rfl) wk_RX4_167 ?_
    refine hw_lclt (tgt := 24) (aX4_refuseHighRegister 7 rfl) (aX4_refuseHighRegister 8 rfl) (by decide) rfl (by decide : (32 : Int64).toInt = 32) (fun cd16 => ?_) (fun cd16 => ?_)
    · refine hw_aloadn (aX4_refuseHighRegister 12 rfl) rfl ?_
      refine hw_get (v := .long (x14)) (aX4_refuseHighRegister 13 rfl) wf_RX4_62 (c110 hS) (s110 hS) (by decide) (congrArg Value.long (show FL 110 9 = x14 from h15)) ?_
      refine xw_lret (aX4_refuseHighRegister 14 rfl) rfl ?_
      exact ⟨x14, rfl, FI, rfl, hI, gf_rf, (by have := congrArg Int32.toInt (show FI 110 5 = x7 from h8); have := congrArg Int32.toInt (show FI 110 8 = x9 from h10); omega), (by have := congrArg Int32.toInt (show FI 110 7 = x1 from h2); have := congrArg Int32.toInt (show FI 110 8 = x9 from h10); omega), (by have := congrArg Int32.toInt (show FI 110 5 = x7 from h8); omega)⟩
    · refine hw_aloadn (aX4_refuseHighRegister 9 rfl) rfl ?_
      refine hw_ic (v := (2 : Int32)) (aX4_refuseHighRegister 10 rfl) (by decide) ?_
      refine hw_callV (Bs := [.int ((2 : Int32))]) (rest := []) (aX4_refuseHighRegister 11 rfl) wc_RX4_69 (by decide) rfl wi_yX4_refuse wv_yX4_refuse (c110 hS) (s110 hS) rfl rfl rfl (Nat.le_of_ble_eq_true rfl) (Nat.le_of_ble_eq_true rfl) (k_refuse2 (d := d) hS hF hI hR ((2 : Int32)) (by have := congrArg Int32.toInt (show FI 110 7 = x1 from h2); have := congrArg Int32.toInt (show FI 110 7 = x1 from h2); have := congrArg Int32.toInt (show FI 111 4 = x4 from h5); omega) (by have := congrArg Int32.toInt (show FI 110 5 = x7 from h8); have := congrArg Int32.toInt (show FI 110 8 = x9 from h10); omega) (by have := congrArg Int32.toInt (show FI 110 7 = x1 from h2); have := congrArg Int32.toInt (show FI 111 4 = x4 from h5); have := congrArg Int32.toInt (show FI 110 8 = x9 from h10); omega) (by have := ((by decide : (2 : Int32).toInt = 2) : ((2 : Int32)).toInt = 2); have := ((by decide : (2 : Int32).toInt = 2) : ((2 : Int32)).toInt = 2); omega)) (fun v17 sv18 p19 => ?_)
      have := congrArg Int32.toInt (show FI 110 5 = x7 from h8)
      have := congrArg Int32.toInt (show FI 110 5 = x7 from h8)
      obtain ⟨rfl, FI21, rfl, hI22, f23, t26, t27⟩ := p19
      obtain ⟨x30, h31⟩ : ∃ y, FI21 110 5 = y := ⟨_, rfl⟩
      have h31l := congrArg Int32.toInt h31
      have := i_rng x30
      obtain ⟨x32, h33⟩ : ∃ y, FI21 110 8 = y := ⟨_, rfl⟩
      have h33l := congrArg Int32.toInt h33
      have := i_rng x32
      show hw sk base _ _ _ _ _ [] _ _
      refine hw_aloadn (aX4_refuseHighRegister 12 rfl) rfl ?_
      refine hw_get (v := .long (x14)) (aX4_refuseHighRegister 13 rfl) wf_RX4_62 (c110 hS) (s110 hS) (by decide) (congrArg Value.long (show FL 110 9 = x14 from h15)) ?_
      refine xw_lret (aX4_refuseHighRegister 14 rfl) rfl ?_
      exact ⟨x14, rfl, FI21, rfl, hI22, (gf_tr ex_rf gf_rf f23 rfl rfl rfl), (by have := congrArg Int32.toInt (show FI21 110 5 = x30 from h31); have := congrArg Int32.toInt (show FI21 110 8 = x32 from h33); omega), (by have := congrArg Int32.toInt (show FI21 110 7 = x1 from (gf_at f23 (c110 hS) (shd_f (by decide) (s110 hS)) rfl (h2))); have := congrArg Int32.toInt (show FI21 110 8 = x32 from h33); omega), (by have := congrArg Int32.toInt (show FI21 110 5 = x30 from h31); omega)⟩
set_option maxHeartbeats 4000000 in
set_option maxRecDepth 100000 in
theorem k_levelOf2 {sk : xK} {base d n sl : Nat} {SH : Nat → Nat × Nat} {FI : Nat → Nat → Int32} {FL : Nat → Nat → Int64} {FR : Nat → Nat → Option Nat} (hS : h_S n SH) (hF : h_FR FR) (hI : g_I FI) (hR : g_R n SH FR) (a1 : Int32) : hw sk base d none 55 0 [(0, .int (a1))] [] (n, sl, SH, FI, FL, FR) (h_I (fun r s => s = (n, sl, SH, FI, FL, FR) ∧ (r.toInt = -1 ∨ 4 ≤ (a1).toInt))) := by
  have rg_a1 := i_rng a1
  refine xw_iloadn (aX4_levelOf 0 rfl) rfl ?_
  have hsw : ((a1).toInt ≠ 15 ∧ (a1).toInt ≠ 16 ∧ (a1).toInt ≠ 18 ∧ (a1).toInt ≠ 19 ∧ (a1).toInt ≠ 20 ∧ (a1).toInt ≠ 21 ∧ (a1).toInt ≠ 22 ∧ (a1).toInt ≠ 23 ∧ (a1).toInt ≠ 24 ∧ (a1).toInt ≠ 38 ∧ (a1).toInt ≠ 42 ∧ (a1).toInt ≠ 43 ∧ (a1).toInt ≠ 45 ∧ (a1).toInt ≠ 60 ∧ (a1).toInt ≠ 62 ∧ (a1).toInt ≠ 94 ∧ (a1).toInt ≠ 124) ∨ ((a1).toInt = 15 ∨ (a1).toInt = 16 ∨ (a1).toInt = 42) ∨ ((a1).toInt = 18 ∨ (a1).toInt = 19 ∨ (a1).toInt = 20 ∨ (a1).toInt = 21 ∨ (a1).toInt = 60 ∨ (a1).toInt = 62) ∨ ((a1).toInt = 22 ∨ (a1).toInt = 23 ∨ (a1).toInt = 24) ∨ ((a1).toInt = 38) ∨ ((a1).toInt = 43 ∨ (a1).toInt = 45) ∨ ((a1).toInt = 94) ∨ ((a1).toInt = 124) := by omega
  rcases hsw with hsw | hsw | hsw | hsw | hsw | hsw | hsw | hsw
  · refine xw_lsw (tgt := 163) aX4_levelOf_1 (by decide) (by show (1 : Int) + Jvm.Op.lookupswitch.offset [(15, 159), (16, 159), (18, 153), (19, 153), (20, 153), (21, 153), (22, 155), (23, 155), (24, 155), (38, 151), (42, 159), (43, 157), (45, 157), (60, 153), (62, 153), (94, 149), (124, 147)] (162) (a1).toInt = 163; simp only [Jvm.Op.lookupswitch.offset]; rw [if_neg (by omega), if_neg (by omega), if_neg (by omega), if_neg (by omega), if_neg (by omega), if_neg (by omega), if_neg (by omega), if_neg (by omega), if_neg (by omega), if_neg (by omega), if_neg (by omega), if_neg (by omega), if_neg (by omega), if_neg (by omega), if_neg (by omega), if_neg (by omega), if_neg (by omega)]; rfl) ?_
    clear hsw
    refine hw_ic (v := ((-1) : Int32)) (aX4_levelOf 15 rfl) (by decide) ?_
    refine xw_iret (aX4_levelOf 16 rfl) rfl rfl ?_
    have e1 : (((-1) : Int32)).toInt = (-1) := (by decide : ((-1) : Int32).toInt = (-1))
    exact ⟨((-1) : Int32), rfl, rfl, (by have : (((-1) : Int32)).toInt = (-1) := (by decide); omega)⟩
  · refine xw_lsw (tgt := 160) aX4_levelOf_1 (by decide) (by rcases hsw with hsw | hsw | hsw <;> (rw [hsw]; decide)) ?_
    refine hw_bp (v := (6 : Int32)) (aX4_levelOf 13 rfl) (by decide) ?_
    refine xw_iret (aX4_levelOf 14 rfl) rfl rfl ?_
    have e2 : ((6 : Int32)).toInt = 6 := (by decide : (6 : Int32).toInt = 6)
    exact ⟨(6 : Int32), rfl, rfl, (by have : ((6 : Int32)).toInt = 6 := (by decide); omega)⟩
  · refine xw_lsw (tgt := 154) aX4_levelOf_1 (by decide) (by rcases hsw with hsw | hsw | hsw | hsw | hsw | hsw <;> (rw [hsw]; decide)) ?_
    refine hw_ic (v := (3 : Int32)) (aX4_levelOf 7 rfl) (by decide) ?_
    refine xw_iret (aX4_levelOf 8 rfl) rfl rfl ?_
    have e3 : ((3 : Int32)).toInt = 3 := (by decide : (3 : Int32).toInt = 3)
    exact ⟨(3 : Int32), rfl, rfl, (by have : ((3 : Int32)).toInt = 3 := (by decide); omega)⟩
  · refine xw_lsw (tgt := 156) aX4_levelOf_1 (by decide) (by rcases hsw with hsw | hsw | hsw <;> (rw [hsw]; decide)) ?_
    refine hw_ic (v := (4 : Int32)) (aX4_levelOf 9 rfl) (by decide) ?_
    refine xw_iret (aX4_levelOf 10 rfl) rfl rfl ?_
    have e4 : ((4 : Int32)).toInt = 4 := (by decide : (4 : Int32).toInt = 4)
    exact ⟨(4 : Int32), rfl, rfl, (by have : ((4 : Int32)).toInt = 4 := (by decide); omega)⟩
  · refine xw_lsw (tgt := 152) aX4_levelOf_1 (by decide) (by rw [hsw]; decide) ?_
    refine hw_ic (v := (2 : Int32)) (aX4_levelOf 5 rfl) (by decide) ?_
    refine xw_iret (aX4_levelOf 6 rfl) rfl rfl ?_
    have e5 : ((2 : Int32)).toInt = 2 := (by decide : (2 : Int32).toInt = 2)
    exact ⟨(2 : Int32), rfl, rfl, (by have : ((2 : Int32)).toInt = 2 := (by decide); omega)⟩
  · refine xw_lsw (tgt := 158) aX4_levelOf_1 (by decide) (by rcases hsw with hsw | hsw <;> (rw [hsw]; decide)) ?_
    refine hw_ic (v := (5 : Int32)) (aX4_levelOf 11 rfl) (by decide) ?_
    refine xw_iret (aX4_levelOf 12 rfl) rfl rfl ?_
    have e6 : ((5 : Int32)).toInt = 5 := (by decide : (5 : Int32).toInt = 5)
    exact ⟨(5 : Int32), rfl, rfl, (by have : ((5 : Int32)).toInt = 5 := (by decide); omega)⟩
  · refine xw_lsw (tgt := 150) aX4_levelOf_1 (by decide) (by rw [hsw]; decide) ?_
    refine hw_ic (v := (1 : Int32)) (aX4_levelOf 3 rfl) (by decide) ?_
    refine xw_iret (aX4_levelOf 4 rfl) rfl rfl ?_
    have e7 : ((1 : Int32)).toInt = 1 := (by decide : (1 : Int32).toInt = 1)
    exact ⟨(1 : Int32), rfl, rfl, (by have : ((1 : Int32)).toInt = 1 := (by decide); omega)⟩
  · refine xw_lsw (tgt := 148) aX4_levelOf_1 (by decide) (by rw [hsw]; decide) ?_
    refine hw_ic (v := (0 : Int32)) (aX4_levelOf 1 rfl) (by decide) ?_
    refine xw_iret (aX4_levelOf 2 rfl) rfl rfl ?_
    have e8 : ((0 : Int32)).toInt = 0 := (by decide : (0 : Int32).toInt = 0)
    exact ⟨(0 : Int32), rfl, rfl, (by have : ((0 : Int32)).toInt = 0 := (by decide); omega)⟩
set_option maxHeartbeats 4000000 in
set_option maxRecDepth 100000 in
theorem k_begins2 {sk : xK} {base d n sl : Nat} {SH : Nat → Nat × Nat} {FI : Nat → Nat → Int32} {FL : Nat → Nat → Int64} {FR : Nat → Nat → Option Nat} (hS : h_S n SH) (hF : h_FR FR) (hI : g_I FI) (hR : g_R n SH FR) (a1 : Int32) : hw sk base d none 49 0 [(0, .int (a1))] [] (n, sl, SH, FI, FL, FR) (h_I (fun r s => s = (n, sl, SH, FI, FL, FR) ∧ (r.toInt = 1 → 4 ≤ (a1).toInt) ∧ (0 ≤ r.toInt ∧ r.toInt ≤ 1))) := by
  have rg_a1 := i_rng a1
  refine xw_iloadn (aX4_beginsPlace 0 rfl) rfl ?_
  refine hw_bp (v := (7 : Int32)) (aX4_beginsPlace 1 rfl) (by decide) ?_
  refine hw_iceq (tgt := 30) (aX4_beginsPlace 2 rfl) (by decide) rfl (by decide : (7 : Int32).toInt = 7) (fun cd1 => ?_) (fun cd1 => ?_)
  · refine hw_ic (v := (1 : Int32)) (aX4_beginsPlace 15 rfl) (by decide) ?_
    refine xw_goto (tgt := 35) (aX4_beginsPlace 16 rfl) (by decide) ?_
    refine xw_iret (aX4_beginsPlace 18 rfl) rfl (by decide) ?_
    have e2 : ((1 : Int32)).toInt = 1 := (by decide : (1 : Int32).toInt = 1)
    exact ⟨(1 : Int32), rfl, rfl, (by have : ((1 : Int32)).toInt = 1 := (by decide); omega), (by have : ((1 : Int32)).toInt = 1 := (by decide); omega)⟩
  · refine xw_iloadn (aX4_beginsPlace 3 rfl) rfl ?_
    refine hw_bp (v := (91 : Int32)) (aX4_beginsPlace 4 rfl) (by decide) ?_
    refine hw_iceq (tgt := 30) (aX4_beginsPlace 5 rfl) (by decide) rfl (by decide : (91 : Int32).toInt = 91) (fun cd3 => ?_) (fun cd3 => ?_)
    · refine hw_ic (v := (1 : Int32)) (aX4_beginsPlace 15 rfl) (by decide) ?_
      refine xw_goto (tgt := 35) (aX4_beginsPlace 16 rfl) (by decide) ?_
      refine xw_iret (aX4_beginsPlace 18 rfl) rfl (by decide) ?_
      have e4 : ((1 : Int32)).toInt = 1 := (by decide : (1 : Int32).toInt = 1)
      exact ⟨(1 : Int32), rfl, rfl, (by have : ((1 : Int32)).toInt = 1 := (by decide); omega), (by have : ((1 : Int32)).toInt = 1 := (by decide); omega)⟩
    · refine xw_iloadn (aX4_beginsPlace 6 rfl) rfl ?_
      refine hw_bp (v := (8 : Int32)) (aX4_beginsPlace 7 rfl) (by decide) ?_
      refine hw_iceq (tgt := 30) (aX4_beginsPlace 8 rfl) (by decide) rfl (by decide : (8 : Int32).toInt = 8) (fun cd5 => ?_) (fun cd5 => ?_)
      · refine hw_ic (v := (1 : Int32)) (aX4_beginsPlace 15 rfl) (by decide) ?_
        refine xw_goto (tgt := 35) (aX4_beginsPlace 16 rfl) (by decide) ?_
        refine xw_iret (aX4_beginsPlace 18 rfl) rfl (by decide) ?_
        have e6 : ((1 : Int32)).toInt = 1 := (by decide : (1 : Int32).toInt = 1)
        exact ⟨(1 : Int32), rfl, rfl, (by have : ((1 : Int32)).toInt = 1 := (by decide); omega), (by have : ((1 : Int32)).toInt = 1 := (by decide); omega)⟩
      · refine xw_iloadn (aX4_beginsPlace 9 rfl) rfl ?_
        refine hw_bp (v := (9 : Int32)) (aX4_beginsPlace 10 rfl) (by decide) ?_
        refine hw_iceq (tgt := 30) (aX4_beginsPlace 11 rfl) (by decide) rfl (by decide : (9 : Int32).toInt = 9) (fun cd7 => ?_) (fun cd7 => ?_)
        · refine hw_ic (v := (1 : Int32)) (aX4_beginsPlace 15 rfl) (by decide) ?_
          refine xw_goto (tgt := 35) (aX4_beginsPlace 16 rfl) (by decide) ?_
          refine xw_iret (aX4_beginsPlace 18 rfl) rfl (by decide) ?_
          have e8 : ((1 : Int32)).toInt = 1 := (by decide : (1 : Int32).toInt = 1)
          exact ⟨(1 : Int32), rfl, rfl, (by have : ((1 : Int32)).toInt = 1 := (by decide); omega), (by have : ((1 : Int32)).toInt = 1 := (by decide); omega)⟩
        · refine xw_iloadn (aX4_beginsPlace 12 rfl) rfl ?_
          refine hw_bp (v := (10 : Int32)) (aX4_beginsPlace 13 rfl) (by decide) ?_
          refine hw_icne (tgt := 34) (aX4_beginsPlace 14 rfl) (by decide) rfl (by decide : (10 : Int32).toInt = 10) (fun cd9 => ?_) (fun cd9 => ?_)
          · refine hw_ic (v := (0 : Int32)) (aX4_beginsPlace 17 rfl) (by decide) ?_
            refine xw_iret (aX4_beginsPlace 18 rfl) rfl (by decide) ?_
            have e10 : ((0 : Int32)).toInt = 0 := (by decide : (0 : Int32).toInt = 0)
            exact ⟨(0 : Int32), rfl, rfl, (by have : ((0 : Int32)).toInt = 0 := (by decide); omega), (by have : ((0 : Int32)).toInt = 0 := (by decide); omega)⟩
          · refine hw_ic (v := (1 : Int32)) (aX4_beginsPlace 15 rfl) (by decide) ?_
            refine xw_goto (tgt := 35) (aX4_beginsPlace 16 rfl) (by decide) ?_
            refine xw_iret (aX4_beginsPlace 18 rfl) rfl (by decide) ?_
            have e11 : ((1 : Int32)).toInt = 1 := (by decide : (1 : Int32).toInt = 1)
            exact ⟨(1 : Int32), rfl, rfl, (by have : ((1 : Int32)).toInt = 1 := (by decide); omega), (by have : ((1 : Int32)).toInt = 1 := (by decide); omega)⟩
end
