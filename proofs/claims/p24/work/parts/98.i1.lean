def nX4_readBlock : Nat := 0xb0ab00b81b1200b42a4500b6042a08009a1bb5ffa70102843000b62a0101844f883e00b42a1b1200b42a1500a74500b606102a0c00a1be1200b42a1b2700a74500b6062a0b009e94a900143e00b42a4000a0083300b42a4800a3be1200b42a1c3d033c03
theorem bX4_readBlock : cX4_readBlock.data.toList.map UInt8.toNat = x_un nX4_readBlock 100 := by decide +kernel
def iX4_readBlock : List (Nat × Jvm.ClassFile.Instr × Nat) := [(0, .iconst 0, 1), (1, .istore_n 1, 1), (2, .iconst 0, 1), (3, .istore_n 2, 1), (4, .iload_n 2, 1), (5, .aload_n 0, 1), (6, .getfield 18, 3), (9, .arraylength, 1), (10, .if_icmp .gt 72, 3), (13, .aload_n 0, 1), (14, .getfield 51, 3), (17, .iconst 5, 1), (18, .if_icmp .ne 64, 3), (21, .aload_n 0, 1), (22, .getfield 62, 3), (25, .ldc2_w 169, 3), (28, .lcmp, 1), (29, .ifCond .le 11, 3), (32, .aload_n 0, 1), (33, .iconst 3, 1), (34, .invokevirtual 69, 3), (37, .goto 39, 3), (40, .iload_n 1, 1), (41, .aload_n 0, 1), (42, .getfield 18, 3), (45, .arraylength, 1), (46, .if_icmp .lt 12, 3), (49, .aload_n 0, 1), (50, .bipush 6, 2), (52, .invokevirtual 69, 3), (55, .goto 21, 3), (58, .aload_n 0, 1), (59, .getfield 18, 3), (62, .iload_n 1, 1), (63, .aload_n 0, 1), (64, .getfield 62, 3), (67, .l2i, 1), (68, .iastore, 1), (69, .iinc 1 1, 3), (72, .aload_n 0, 1), (73, .invokevirtual 48, 3), (76, .iinc 2 1, 3), (79, .goto (-75), 3), (82, .iload_n 1, 1), (83, .ifCond .ne 8, 3), (86, .aload_n 0, 1), (87, .iconst 1, 1), (88, .invokevirtual 69, 3), (91, .aload_n 0, 1), (92, .getfield 18, 3), (95, .iload_n 1, 1), (96, .invokestatic 171, 3), (99, .areturn, 1)]
theorem dX4_readBlock : x_il nX4_readBlock 100 iX4_readBlock = true := by decide +kernel
theorem aX4_readBlock (k : Nat) {pc : Nat} {i : Jvm.ClassFile.Instr} {len : Nat} (hk : iX4_readBlock[k]? = some (pc, i, len)) : x_at xMM 52 pc i len yX4_readBlock 3 (some (.array .int)) := ⟨cX4_readBlock, rfl, x_il_ok bX4_readBlock dX4_readBlock k hk⟩
set_option maxHeartbeats 4000000 in
set_option maxRecDepth 100000 in
theorem k_readBlock {sk : xK} {base d n sl : Nat} {SH : Nat → Nat × Nat} {FI : Nat → Nat → Int32} {FL : Nat → Nat → Int64} {FR : Nat → Nat → Option Nat} (hS : h_S n SH) (hF : h_FR FR) (hI : g_I FI) (hR : g_R n SH FR) (g0 : 0 ≤ (FI 110 7).toInt ∧ (FI 110 7).toInt < (FI 111 4).toInt) (g1 : (FI 110 5).toInt = 0 ∨ (FI 110 8).toInt = 1) (g2 : (FI 110 7).toInt + 1 < (FI 111 4).toInt ∨ (FI 110 8).toInt ≤ 3) (gg0 : g_K FI) : hw sk base (d + 2) none 52 0 [(0, .ref (base + 110))] [] (n, sl, SH, FI, FL, FR) (h_A base (fun r s => ∃ n' sl' SH' FI' FL' FR', s = (n', sl', SH', FI', FL', FR') ∧ g_ex n SH n' SH' ∧ h_S n' SH' ∧ g_I FI' ∧ g_fr n (shd SH) [(110, 5), (110, 6), (110, 7), (110, 8)] [117] [] FI FI' ∧ g_fr n (shd SH) [(110, 9)] [] [] FL FL' ∧ g_fr n (shd SH) [] [] [] FR FR' ∧ h_FR FR' ∧ g_R n' SH' FR' ∧ (0 ≤ (FI' 110 7).toInt ∧ (FI' 110 7).toInt < (FI 111 4).toInt) ∧ ((FI' 110 5).toInt = 0 ∨ (FI' 110 8).toInt = 1) ∧ ((FI' 110 7).toInt + 1 < (FI 111 4).toInt ∨ (FI' 110 8).toInt ≤ 3) ∧ ((FI 110 7).toInt ≤ (FI' 110 7).toInt) ∧ ((FI 110 5).toInt = 0 ∨ (FI' 110 5).toInt = (FI 110 5).toInt) ∧ (n' = n + 1) ∧ ((sl' : Int) ≤ sl + ((FI' 110 7).toInt - (FI 110 7).toInt)) ∧ (∀ q, r = some q → (SH' q).2 ≤ 64) ∧ (∀ q, r = some q → q < n' ∧ own q ∧ SH' q = (100, (SH' q).2)) ∧ r ≠ none ∧ (∀ q, r = some q → n ≤ q))) := by
  obtain ⟨x1, h2⟩ : ∃ y, FI 110 7 = y := ⟨_, rfl⟩
  have h2l := congrArg Int32.toInt h2
  have b3 := gI_110_7 hI; rw [h2] at b3
  obtain ⟨x4, h5⟩ : ∃ y, FI 111 4 = y := ⟨_, rfl⟩
  have h5l := congrArg Int32.toInt h5
  have b6 := gI_111_4 hI; rw [h5] at b6
  obtain ⟨x7, h8⟩ : ∃ y, FI 110 5 = y := ⟨_, rfl⟩
  have h8l := congrArg Int32.toInt h8
  have := i_rng x7
  obtain ⟨x9, h10⟩ : ∃ y, FI 110 8 = y := ⟨_, rfl⟩
  have h10l := congrArg Int32.toInt h10
  have := i_rng x9
  refine hw_ic (v := (0 : Int32)) (aX4_readBlock 0 rfl) (by decide) ?_
  refine xw_istoren (L2 := [(1, .int ((0 : Int32))), (0, .ref (base + 110))]) (aX4_readBlock 1 rfl) (by decide) rfl ?_
  refine hw_ic (v := (0 : Int32)) (aX4_readBlock 2 rfl) (by decide) ?_
  refine xw_istoren (L2 := [(2, .int ((0 : Int32))), (1, .int ((0 : Int32))), (0, .ref (base + 110))]) (aX4_readBlock 3 rfl) (by decide) rfl ?_
  have lp35 : ∀ (m : Nat) (y2 : Int32) (y1 : Int32) (FIv16 : Nat → Nat → Int32) (FLv17 : Nat → Nat → Int64) (FRv18 : Nat → Nat → Option Nat) (n11 sl12 : Nat) (SH13 : Nat → Nat × Nat), (g_ex n SH n11 SH13) → (h_S n11 SH13) → (g_fr n (shd SH) [(110, 5), (110, 6), (110, 7), (110, 8)] [117] [] FI FIv16) → (g_fr n (shd SH) [(110, 9)] [] [] FL FLv17) → (g_fr n (shd SH) [] [] [] FR FRv18) → (g_I FIv16) → (h_FR FRv18) → (g_R n11 SH13 FRv18) → (FIv16 111 4 = x4) → (0 ≤ (y2).toInt ∧ (y2).toInt ≤ 65) → (0 ≤ (y1).toInt ∧ (y1).toInt ≤ 64) → (0 ≤ (FIv16 110 7).toInt ∧ (FIv16 110 7).toInt < (FI 111 4).toInt) → ((FIv16 110 5).toInt = 0 ∨ (FIv16 110 8).toInt = 1) → ((FIv16 110 7).toInt + 1 < (FI 111 4).toInt ∨ (FIv16 110 8).toInt ≤ 3) → ((FI 110 7).toInt + (y1).toInt ≤ (FIv16 110 7).toInt) → ((FI 110 5).toInt = 0 ∨ (FIv16 110 5).toInt = (FI 110 5).toInt) → (n11 = n) → (sl12 = sl) → 65 - (y2).toInt < m → hw sk base (d + 2) none 52 4 [(2, .int (y2)), (1, .int (y1)), (0, .ref (base + 110))] [] (n11, sl12, SH13, FIv16, FLv17, FRv18) (h_A base (fun r s => ∃ n' sl' SH' FI' FL' FR', s = (n', sl', SH', FI', FL', FR') ∧ g_ex n SH n' SH' ∧ h_S n' SH' ∧ g_I FI' ∧ g_fr n (shd SH) [(110, 5), (110, 6), (110, 7), (110, 8)] [117] [] FI FI' ∧ g_fr n (shd SH) [(110, 9)] [] [] FL FL' ∧ g_fr n (shd SH) [] [] [] FR FR' ∧ h_FR FR' ∧ g_R n' SH' FR' ∧ (0 ≤ (FI' 110 7).toInt ∧ (FI' 110 7).toInt < (FI 111 4).toInt) ∧ ((FI' 110 5).toInt = 0 ∨ (FI' 110 8).toInt = 1) ∧ ((FI' 110 7).toInt + 1 < (FI 111 4).toInt ∨ (FI' 110 8).toInt ≤ 3) ∧ ((FI 110 7).toInt ≤ (FI' 110 7).toInt) ∧ ((FI 110 5).toInt = 0 ∨ (FI' 110 5).toInt = (FI 110 5).toInt) ∧ (n' = n + 1) ∧ ((sl' : Int) ≤ sl + ((FI' 110 7).toInt - (FI 110 7).toInt)) ∧ (∀ q, r = some q → (SH' q).2 ≤ 64) ∧ (∀ q, r = some q → q < n' ∧ own q ∧ SH' q = (100, (SH' q).2)) ∧ r ≠ none ∧ (∀ q, r = some q → n ≤ q))) := by
    intro m
    induction m with
    | zero => intro y2 y1 FIv16 FLv17 FRv18 n11 sl12 SH13 ex14 hS15 fr19 fr20 fr21 hI22 hF23 hR24 kp25 iv26 iv27 iv28 iv29 iv30 iv31 iv32 iv33 iv34 hm; omega
    | succ m ih =>
      intro y2 y1 FIv16 FLv17 FRv18 n11 sl12 SH13 ex14 hS15 fr19 fr20 fr21 hI22 hF23 hR24 kp25 iv26 iv27 iv28 iv29 iv30 iv31 iv32 iv33 iv34 hm
      have rg_y2 := i_rng y2
      have rg_y1 := i_rng y1
      have := congrArg Int32.toInt kp25
      obtain ⟨x36, h37⟩ : ∃ y, FIv16 110 7 = y := ⟨_, rfl⟩
      have h37l := congrArg Int32.toInt h37
      have b38 := gI_110_7 hI22; rw [h37] at b38
      obtain ⟨x39, h40⟩ : ∃ y, FIv16 110 5 = y := ⟨_, rfl⟩
      have h40l := congrArg Int32.toInt h40
      have := i_rng x39
      obtain ⟨x41, h42⟩ : ∃ y, FIv16 110 8 = y := ⟨_, rfl⟩
      have h42l := congrArg Int32.toInt h42
      have := i_rng x41
      refine xw_iloadn (aX4_readBlock 4 rfl) rfl ?_
      refine hw_aloadn (aX4_readBlock 5 rfl) rfl ?_
      refine hw_get (v := .ref (base + 117)) (aX4_readBlock 6 rfl) wf_RX4_18 (c110 hS15) (s110 hS15) (by decide) (congrArg (fun r => va_rf (h_rf base r)) (r110_1 hF23)) ?_
      refine hw_alen (k := 0) (z := 64) (v := (64 : Int32)) (aX4_readBlock 7 rfl) (c117 hS15) (s117 hS15) (by decide) (by decide) ?_
      refine hw_icgt (tgt := 82) (aX4_readBlock 8 rfl) (by decide) rfl (by decide : (64 : Int32).toInt = 64) (fun cd43 => ?_) (fun cd43 => ?_)
      · refine xw_iloadn (aX4_readBlock 43 rfl) rfl ?_
        refine hw_ifne (tgt := 91) (aX4_readBlock 44 rfl) (by decide) rfl (fun cd44 => ?_) (fun cd44 => ?_)
        · refine hw_aloadn (aX4_readBlock 48 rfl) rfl ?_
          refine hw_get (v := .ref (base + 117)) (aX4_readBlock 49 rfl) wf_RX4_18 (c110 hS15) (s110 hS15) (by decide) (congrArg (fun r => va_rf (h_rf base r)) (r110_1 hF23)) ?_
          refine xw_iloadn (aX4_readBlock 50 rfl) rfl ?_
          refine hw_callS (As := [.ref (base + 117), .int (y1)]) (rest := []) (aX4_readBlock 51 rfl) wc_RX4_171 (by decide) rfl wt_yJ7_copyOf_59c91 rfl rfl (Nat.le_of_ble_eq_true rfl) (Nat.le_of_ble_eq_true rfl) (k_copyOf117 (d := d) hS15 hF23 hI22 hR24 (y1) (by omega)) (fun v45 sv46 p47 => ?_)
          obtain ⟨r48, rfl, n63, sl64, SH65, FI49, FL50, FR51, rfl, ex66, hS67, hI52, f53, f54, f55, hF56, hR57, t58, t59, u60, ht61, nn62, hfr68⟩ := p47
          have ex69 := ex_tr ex14 ex66
          have ex70 := ex_tr ex14 ex66
          obtain ⟨r71, rfl⟩ : ∃ q, r48 = some q := Option.ne_none_iff_exists'.mp nn62
          have fq72 := hfr68 r71 rfl
          have dq73 : 176 ≤ r71 := Nat.le_trans hS15.1 fq72
          obtain ⟨lt75, ow76, sh77⟩ := ht61 r71 rfl
          show hw sk base _ _ _ _ _ [.ref (base + r71)] _ _
          refine xw_aret (v := h_rf base (some (r71))) (aX4_readBlock 52 rfl) rfl (by first | exact Or.inl ⟨_, rfl⟩ | exact Or.inr ⟨_, rfl⟩) ?_
          exact ⟨some (r71), rfl, n63, sl64, SH65, FI49, FL50, FR51, rfl, ex70, hS67, hI52, (gf_tr (ex_shd ex14) fr19 f53 rfl rfl rfl), (gf_tr (ex_shd ex14) fr20 f54 rfl rfl rfl), (gf_tr (ex_shd ex14) fr21 f55 rfl rfl rfl), hF56, hR57, (by have := congrArg Int32.toInt (show FI49 110 7 = x36 from (gf_at f53 (c110 hS15) (shd_f (by decide) (s110 hS15)) rfl (h37))); omega), (by have := congrArg Int32.toInt (show FI49 110 5 = x39 from (gf_at f53 (c110 hS15) (shd_f (by decide) (s110 hS15)) rfl (h40))); have := congrArg Int32.toInt (show FI49 110 8 = x41 from (gf_at f53 (c110 hS15) (shd_f (by decide) (s110 hS15)) rfl (h42))); omega), (by have := congrArg Int32.toInt (show FI49 110 7 = x36 from (gf_at f53 (c110 hS15) (shd_f (by decide) (s110 hS15)) rfl (h37))); have := congrArg Int32.toInt (show FI49 110 8 = x41 from (gf_at f53 (c110 hS15) (shd_f (by decide) (s110 hS15)) rfl (h42))); omega), (by have := congrArg Int32.toInt (show FI49 110 7 = x36 from (gf_at f53 (c110 hS15) (shd_f (by decide) (s110 hS15)) rfl (h37))); omega), (by have := congrArg Int32.toInt (show FI49 110 5 = x39 from (gf_at f53 (c110 hS15) (shd_f (by decide) (s110 hS15)) rfl (h40))); omega), (by omega), (by have := congrArg Int32.toInt (show FI49 110 7 = x36 from (gf_at f53 (c110 hS15) (shd_f (by decide) (s110 hS15)) rfl (h37))); omega), (by intro q e; cases e; rw [u60 _ rfl]; show (y1).toInt.toNat ≤ 64; omega), ((fun r e => by cases e; exact ⟨lt75, ow76, by rw [sh77]⟩)), (by simp), (fun q e => by cases e; exact (Nat.le_trans (ex14).1 fq72))⟩
        · refine hw_aloadn (aX4_readBlock 45 rfl) rfl ?_
          refine hw_ic (v := (1 : Int32)) (aX4_readBlock 46 rfl) (by decide) ?_
          refine hw_callV (Bs := [.int ((1 : Int32))]) (rest := []) (aX4_readBlock 47 rfl) wc_RX4_69 (by decide) rfl wi_yX4_refuse wv_yX4_refuse (c110 hS15) (s110 hS15) rfl rfl rfl (Nat.le_of_ble_eq_true rfl) (Nat.le_of_ble_eq_true rfl) (k_refuse2 (d := d + 1) hS15 hF23 hI22 hR24 ((1 : Int32)) (by have := congrArg Int32.toInt (show FIv16 110 7 = x36 from h37); have := congrArg Int32.toInt (show FIv16 110 7 = x36 from h37); have := congrArg Int32.toInt (show FIv16 111 4 = x4 from kp25); omega) (by have := congrArg Int32.toInt (show FIv16 110 5 = x39 from h40); have := congrArg Int32.toInt (show FIv16 110 8 = x41 from h42); omega) (by have := congrArg Int32.toInt (show FIv16 110 7 = x36 from h37); have := congrArg Int32.toInt (show FIv16 111 4 = x4 from kp25); have := congrArg Int32.toInt (show FIv16 110 8 = x41 from h42); omega) (by have := ((by decide : (1 : Int32).toInt = 1) : ((1 : Int32)).toInt = 1); have := ((by decide : (1 : Int32).toInt = 1) : ((1 : Int32)).toInt = 1); omega)) (fun v78 sv79 p80 => ?_)
          have := congrArg Int32.toInt (show FIv16 110 5 = x39 from h40)
          have := congrArg Int32.toInt (show FIv16 110 5 = x39 from h40)
          obtain ⟨rfl, FI82, rfl, hI83, f84, t87, t88⟩ := p80
          obtain ⟨x91, h92⟩ : ∃ y, FI82 110 5 = y := ⟨_, rfl⟩
          have h92l := congrArg Int32.toInt h92
          have := i_rng x91
          obtain ⟨x93, h94⟩ : ∃ y, FI82 110 8 = y := ⟨_, rfl⟩
          have h94l := congrArg Int32.toInt h94
          have := i_rng x93
          show hw sk base _ _ _ _ _ [] _ _
          refine hw_aloadn (aX4_readBlock 48 rfl) rfl ?_
          refine hw_get (v := .ref (base + 117)) (aX4_readBlock 49 rfl) wf_RX4_18 (c110 hS15) (s110 hS15) (by decide) (congrArg (fun r => va_rf (h_rf base r)) (r110_1 hF23)) ?_
          refine xw_iloadn (aX4_readBlock 50 rfl) rfl ?_
          refine hw_callS (As := [.ref (base + 117), .int (y1)]) (rest := []) (aX4_readBlock 51 rfl) wc_RX4_171 (by decide) rfl wt_yJ7_copyOf_59c91 rfl rfl (Nat.le_of_ble_eq_true rfl) (Nat.le_of_ble_eq_true rfl) (k_copyOf117 (d := d) hS15 hF23 hI83 hR24 (y1) (by omega)) (fun v95 sv96 p97 => ?_)
          obtain ⟨r98, rfl, n113, sl114, SH115, FI99, FL100, FR101, rfl, ex116, hS117, hI102, f103, f104, f105, hF106, hR107, t108, t109, u110, ht111, nn112, hfr118⟩ := p97
          have ex119 := ex_tr ex14 ex116
          have ex120 := ex_tr ex14 ex116
          obtain ⟨r121, rfl⟩ : ∃ q, r98 = some q := Option.ne_none_iff_exists'.mp nn112
          have fq122 := hfr118 r121 rfl
          have dq123 : 176 ≤ r121 := Nat.le_trans hS15.1 fq122
          obtain ⟨lt125, ow126, sh127⟩ := ht111 r121 rfl
          show hw sk base _ _ _ _ _ [.ref (base + r121)] _ _
          refine xw_aret (v := h_rf base (some (r121))) (aX4_readBlock 52 rfl) rfl (by first | exact Or.inl ⟨_, rfl⟩ | exact Or.inr ⟨_, rfl⟩) ?_
          exact ⟨some (r121), rfl, n113, sl114, SH115, FI99, FL100, FR101, rfl, ex120, hS117, hI102, (gf_tr (ex_shd ex14) (gf_tr (ex_shd ex14) fr19 f84 rfl rfl rfl) f103 rfl rfl rfl), (gf_tr (ex_shd ex14) fr20 f104 rfl rfl rfl), (gf_tr (ex_shd ex14) fr21 f105 rfl rfl rfl), hF106, hR107, (by have := congrArg Int32.toInt (show FI99 110 7 = x36 from (gf_at f103 (c110 hS15) (shd_f (by decide) (s110 hS15)) rfl ((gf_at f84 (c110 hS15) (shd_f (by decide) (s110 hS15)) rfl (h37))))); omega), (by have := congrArg Int32.toInt (show FI99 110 5 = x91 from (gf_at f103 (c110 hS15) (shd_f (by decide) (s110 hS15)) rfl (h92))); have := congrArg Int32.toInt (show FI99 110 8 = x93 from (gf_at f103 (c110 hS15) (shd_f (by decide) (s110 hS15)) rfl (h94))); omega), (by have := congrArg Int32.toInt (show FI99 110 7 = x36 from (gf_at f103 (c110 hS15) (shd_f (by decide) (s110 hS15)) rfl ((gf_at f84 (c110 hS15) (shd_f (by decide) (s110 hS15)) rfl (h37))))); have := congrArg Int32.toInt (show FI99 110 8 = x93 from (gf_at f103 (c110 hS15) (shd_f (by decide) (s110 hS15)) rfl (h94))); omega), (by have := congrArg Int32.toInt (show FI99 110 7 = x36 from (gf_at f103 (c110 hS15) (shd_f (by decide) (s110 hS15)) rfl ((gf_at f84 (c110 hS15) (shd_f (by decide) (s110 hS15)) rfl (h37))))); omega), (by have := congrArg Int32.toInt (show FI99 110 5 = x91 from (gf_at f103 (c110 hS15) (shd_f (by decide) (s110 hS15)) rfl (h92))); omega), (by omega), (by have := congrArg Int32.toInt (show FI99 110 7 = x36 from (gf_at f103 (c110 hS15) (shd_f (by decide) (s110 hS15)) rfl ((gf_at f84 (c110 hS15) (shd_f (by decide) (s110 hS15)) rfl (h37))))); omega), (by intro q e; cases e; rw [u110 _ rfl]; show (y1).toInt.toNat ≤ 64; omega), ((fun r e => by cases e; exact ⟨lt125, ow126, by rw [sh127]⟩)), (by simp), (fun q e => by cases e; exact (Nat.le_trans (ex14).1 fq122))⟩
      · refine hw_aloadn (aX4_readBlock 9 rfl) rfl ?_
        refine hw_get (v := .int (x41)) (aX4_readBlock 10 rfl) wf_RX4_51 (c110 hS15) (s110 hS15) (by decide) (congrArg Value.int (show FIv16 110 8 = x41 from h42)) ?_
        refine hw_ic (v := (5 : Int32)) (aX4_readBlock 11 rfl) (by decide) ?_
        refine hw_icne (tgt := 82) (aX4_readBlock 12 rfl) (by decide) rfl (by decide : (5 : Int32).toInt = 5) (fun cd128 => ?_) (fun cd128 => ?_)
        · refine xw_iloadn (aX4_readBlock 43 rfl) rfl ?_
          refine hw_ifne (tgt := 91) (aX4_readBlock 44 rfl) (by decide) rfl (fun cd129 => ?_) (fun cd129 => ?_)
          · refine hw_aloadn (aX4_readBlock 48 rfl) rfl ?_
            refine hw_get (v := .ref (base + 117)) (aX4_readBlock 49 rfl) wf_RX4_18 (c110 hS15) (s110 hS15) (by decide) (congrArg (fun r => va_rf (h_rf base r)) (r110_1 hF23)) ?_
            refine xw_iloadn (aX4_readBlock 50 rfl) rfl ?_
            refine hw_callS (As := [.ref (base + 117), .int (y1)]) (rest := []) (aX4_readBlock 51 rfl) wc_RX4_171 (by decide) rfl wt_yJ7_copyOf_59c91 rfl rfl (Nat.le_of_ble_eq_true rfl) (Nat.le_of_ble_eq_true rfl) (k_copyOf117 (d := d) hS15 hF23 hI22 hR24 (y1) (by omega)) (fun v130 sv131 p132 => ?_)
            obtain ⟨r133, rfl, n148, sl149, SH150, FI134, FL135, FR136, rfl, ex151, hS152, hI137, f138, f139, f140, hF141, hR142, t143, t144, u145, ht146, nn147, hfr153⟩ := p132
            have ex154 := ex_tr ex14 ex151
            have ex155 := ex_tr ex14 ex151
            obtain ⟨r156, rfl⟩ : ∃ q, r133 = some q := Option.ne_none_iff_exists'.mp nn147
            have fq157 := hfr153 r156 rfl
            have dq158 : 176 ≤ r156 := Nat.le_trans hS15.1 fq157
            obtain ⟨lt160, ow161, sh162⟩ := ht146 r156 rfl
            show hw sk base _ _ _ _ _ [.ref (base + r156)] _ _
            refine xw_aret (v := h_rf base (some (r156))) (aX4_readBlock 52 rfl) rfl (by first | exact Or.inl ⟨_, rfl⟩ | exact Or.inr ⟨_, rfl⟩) ?_
            exact ⟨some (r156), rfl, n148, sl149, SH150, FI134, FL135, FR136, rfl, ex155, hS152, hI137, (gf_tr (ex_shd ex14) fr19 f138 rfl rfl rfl), (gf_tr (ex_shd ex14) fr20 f139 rfl rfl rfl), (gf_tr (ex_shd ex14) fr21 f140 rfl rfl rfl), hF141, hR142, (by have := congrArg Int32.toInt (show FI134 110 7 = x36 from (gf_at f138 (c110 hS15) (shd_f (by decide) (s110 hS15)) rfl (h37))); omega), (by have := congrArg Int32.toInt (show FI134 110 5 = x39 from (gf_at f138 (c110 hS15) (shd_f (by decide) (s110 hS15)) rfl (h40))); have := congrArg Int32.toInt (show FI134 110 8 = x41 from (gf_at f138 (c110 hS15) (shd_f (by decide) (s110 hS15)) rfl (h42))); omega), (by have := congrArg Int32.toInt (show FI134 110 7 = x36 from (gf_at f138 (c110 hS15) (shd_f (by decide) (s110 hS15)) rfl (h37))); have := congrArg Int32.toInt (show FI134 110 8 = x41 from (gf_at f138 (c110 hS15) (shd_f (by decide) (s110 hS15)) rfl (h42))); omega), (by have := congrArg Int32.toInt (show FI134 110 7 = x36 from (gf_at f138 (c110 hS15) (shd_f (by decide) (s110 hS15)) rfl (h37))); omega), (by have := congrArg Int32.toInt (show FI134 110 5 = x39 from (gf_at f138 (c110 hS15) (shd_f (by decide) (s110 hS15)) rfl (h40))); omega), (by omega), (by have := congrArg Int32.toInt (show FI134 110 7 = x36 from (gf_at f138 (c110 hS15) (shd_f (by decide) (s110 hS15)) rfl (h37))); omega), (by intro q e; cases e; rw [u145 _ rfl]; show (y1).toInt.toNat ≤ 64; omega), ((fun r e => by cases e; exact ⟨lt160, ow161, by rw [sh162]⟩)), (by simp), (fun q e => by cases e; exact (Nat.le_trans (ex14).1 fq157))⟩
          · refine hw_aloadn (aX4_readBlock 45 rfl) rfl ?_
            refine hw_ic (v := (1 : Int32)) (aX4_readBlock 46 rfl) (by decide) ?_
            refine hw_callV (Bs := [.int ((1 : Int32))]) (rest := []) (aX4_readBlock 47 rfl) wc_RX4_69 (by decide) rfl wi_yX4_refuse wv_yX4_refuse (c110 hS15) (s110 hS15) rfl rfl rfl (Nat.le_of_ble_eq_true rfl) (Nat.le_of_ble_eq_true rfl) (k_refuse2 (d := d + 1) hS15 hF23 hI22 hR24 ((1 : Int32)) (by have := congrArg Int32.toInt (show FIv16 110 7 = x36 from h37); have := congrArg Int32.toInt (show FIv16 110 7 = x36 from h37); have := congrArg Int32.toInt (show FIv16 111 4 = x4 from kp25); omega) (by have := congrArg Int32.toInt (show FIv16 110 5 = x39 from h40); have := congrArg Int32.toInt (show FIv16 110 8 = x41 from h42); omega) (by have := congrArg Int32.toInt (show FIv16 110 7 = x36 from h37); have := congrArg Int32.toInt (show FIv16 111 4 = x4 from kp25); have := congrArg Int32.toInt (show FIv16 110 8 = x41 from h42); omega) (by have := ((by decide : (1 : Int32).toInt = 1) : ((1 : Int32)).toInt = 1); have := ((by decide : (1 : Int32).toInt = 1) : ((1 : Int32)).toInt = 1); omega)) (fun v163 sv164 p165 => ?_)
            have := congrArg Int32.toInt (show FIv16 110 5 = x39 from h40)
            have := congrArg Int32.toInt (show FIv16 110 5 = x39 from h40)
            obtain ⟨rfl, FI167, rfl, hI168, f169, t172, t173⟩ := p165
            obtain ⟨x176, h177⟩ : ∃ y, FI167 110 5 = y := ⟨_, rfl⟩
            have h177l := congrArg Int32.toInt h177
            have := i_rng x176
            obtain ⟨x178, h179⟩ : ∃ y, FI167 110 8 = y := ⟨_, rfl⟩
            have h179l := congrArg Int32.toInt h179
            have := i_rng x178
            show hw sk base _ _ _ _ _ [] _ _
            refine hw_aloadn (aX4_readBlock 48 rfl) rfl ?_
            refine hw_get (v := .ref (base + 117)) (aX4_readBlock 49 rfl) wf_RX4_18 (c110 hS15) (s110 hS15) (by decide) (congrArg (fun r => va_rf (h_rf base r)) (r110_1 hF23)) ?_
            refine xw_iloadn (aX4_readBlock 50 rfl) rfl ?_
            refine hw_callS (As := [.ref (base + 117), .int (y1)]) (rest := []) (aX4_readBlock 51 rfl) wc_RX4_171 (by decide) rfl wt_yJ7_copyOf_59c91 rfl rfl (Nat.le_of_ble_eq_true rfl) (Nat.le_of_ble_eq_true rfl) (k_copyOf117 (d := d) hS15 hF23 hI168 hR24 (y1) (by omega)) (fun v180 sv181 p182 => ?_)
            obtain ⟨r183, rfl, n198, sl199, SH200, FI184, FL185, FR186, rfl, ex201, hS202, hI187, f188, f189, f190, hF191, hR192, t193, t194, u195, ht196, nn197, hfr203⟩ := p182
            have ex204 := ex_tr ex14 ex201
            have ex205 := ex_tr ex14 ex201
            obtain ⟨r206, rfl⟩ : ∃ q, r183 = some q := Option.ne_none_iff_exists'.mp nn197
            have fq207 := hfr203 r206 rfl
            have dq208 : 176 ≤ r206 := Nat.le_trans hS15.1 fq207
            obtain ⟨lt210, ow211, sh212⟩ := ht196 r206 rfl
            show hw sk base _ _ _ _ _ [.ref (base + r206)] _ _
            refine xw_aret (v := h_rf base (some (r206))) (aX4_readBlock 52 rfl) rfl (by first | exact Or.inl ⟨_, rfl⟩ | exact Or.inr ⟨_, rfl⟩) ?_
            exact ⟨some (r206), rfl, n198, sl199, SH200, FI184, FL185, FR186, rfl, ex205, hS202, hI187, (gf_tr (ex_shd ex14) (gf_tr (ex_shd ex14) fr19 f169 rfl rfl rfl) f188 rfl rfl rfl), (gf_tr (ex_shd ex14) fr20 f189 rfl rfl rfl), (gf_tr (ex_shd ex14) fr21 f190 rfl rfl rfl), hF191, hR192, (by have := congrArg Int32.toInt (show FI184 110 7 = x36 from (gf_at f188 (c110 hS15) (shd_f (by decide) (s110 hS15)) rfl ((gf_at f169 (c110 hS15) (shd_f (by decide) (s110 hS15)) rfl (h37))))); omega), (by have := congrArg Int32.toInt (show FI184 110 5 = x176 from (gf_at f188 (c110 hS15) (shd_f (by decide) (s110 hS15)) rfl (h177))); have := congrArg Int32.toInt (show FI184 110 8 = x178 from (gf_at f188 (c110 hS15) (shd_f (by decide) (s110 hS15)) rfl (h179))); omega), (by have := congrArg Int32.toInt (show FI184 110 7 = x36 from (gf_at f188 (c110 hS15) (shd_f (by decide) (s110 hS15)) rfl ((gf_at f169 (c110 hS15) (shd_f (by decide) (s110 hS15)) rfl (h37))))); have := congrArg Int32.toInt (show FI184 110 8 = x178 from (gf_at f188 (c110 hS15) (shd_f (by decide) (s110 hS15)) rfl (h179))); omega), (by have := congrArg Int32.toInt (show FI184 110 7 = x36 from (gf_at f188 (c110 hS15) (shd_f (by decide) (s110 hS15)) rfl ((gf_at f169 (c110 hS15) (shd_f (by decide) (s110 hS15)) rfl (h37))))); omega), (by have := congrArg Int32.toInt (show FI184 110 5 = x176 from (gf_at f188 (c110 hS15) (shd_f (by decide) (s110 hS15)) rfl (h177))); omega), (by omega), (by have := congrArg Int32.toInt (show FI184 110 7 = x36 from (gf_at f188 (c110 hS15) (shd_f (by decide) (s110 hS15)) rfl ((gf_at f169 (c110 hS15) (shd_f (by decide) (s110 hS15)) rfl (h37))))); omega), (by intro q e; cases e; rw [u195 _ rfl]; show (y1).toInt.toNat ≤ 64; omega), ((fun r e => by cases e; exact ⟨lt210, ow211, by rw [sh212]⟩)), (by simp), (fun q e => by cases e; exact (Nat.le_trans (ex14).1 fq207))⟩
        · refine hw_aloadn (aX4_readBlock 13 rfl) rfl ?_
          obtain ⟨x213, h214⟩ : ∃ y, FLv17 110 9 = y := ⟨_, rfl⟩
          have h214l := congrArg Int64.toInt h214
          have := l_rng x213
          refine hw_get (v := .long (x213)) (aX4_readBlock 14 rfl) wf_RX4_62 (c110 hS15) (s110 hS15) (by decide) (congrArg Value.long (show FLv17 110 9 = x213 from h214)) ?_
          refine xw_ldc2 (aX4_readBlock 15 rfl) wk_RX4_169 ?_
          refine hw_lcle (tgt := 40) (aX4_readBlock 16 rfl) (aX4_readBlock 17 rfl) (by decide) rfl (by decide : (255 : Int64).toInt = 255) (fun cd215 => ?_) (fun cd215 => ?_)
          · refine xw_iloadn (aX4_readBlock 22 rfl) rfl ?_
            refine hw_aloadn (aX4_readBlock 23 rfl) rfl ?_
            refine hw_get (v := .ref (base + 117)) (aX4_readBlock 24 rfl) wf_RX4_18 (c110 hS15) (s110 hS15) (by decide) (congrArg (fun r => va_rf (h_rf base r)) (r110_1 hF23)) ?_
            refine hw_alen (k := 0) (z := 64) (v := (64 : Int32)) (aX4_readBlock 25 rfl) (c117 hS15) (s117 hS15) (by decide) (by decide) ?_
            refine hw_iclt (tgt := 58) (aX4_readBlock 26 rfl) (by decide) rfl (by decide : (64 : Int32).toInt = 64) (fun cd216 => ?_) (fun cd216 => ?_)
            · refine hw_aloadn (aX4_readBlock 31 rfl) rfl ?_
              refine hw_get (v := .ref (base + 117)) (aX4_readBlock 32 rfl) wf_RX4_18 (c110 hS15) (s110 hS15) (by decide) (congrArg (fun r => va_rf (h_rf base r)) (r110_1 hF23)) ?_
              refine xw_iloadn (aX4_readBlock 33 rfl) rfl ?_
              refine hw_aloadn (aX4_readBlock 34 rfl) rfl ?_
              refine hw_get (v := .long (x213)) (aX4_readBlock 35 rfl) wf_RX4_62 (c110 hS15) (s110 hS15) (by decide) (congrArg Value.long (show FLv17 110 9 = x213 from h214)) ?_
              refine xw_l2i (aX4_readBlock 36 rfl) ?_
              refine hw_ti (fun x217 => ?_)
              have b218 := i_rng x217
              refine hv_iast (k := (y1).toNatClampNeg) (aX4_readBlock 37 rfl) (c117 hS15) (s117 hS15) (h_in rfl (by omega) (by omega)) rfl (fun FI219 u220 => ?_)
              have hI221 : g_I FI219 := gU_F hI22 u220 rfl
              obtain ⟨x222, q224⟩ : ∃ y : Int32, (y1) + Int32.ofInt (1) = y := ⟨_, rfl⟩
              have e223 : (x222).toInt = (y1).toInt + (1) := by rw [← q224]; exact i_add rfl (by decide) (by omega) (by omega)
              refine xw_iinc (L2 := [(1, .int (x222)), (2, .int (y2)), (0, .ref (base + 110))]) (aX4_readBlock 38 rfl) rfl (by decide) (by rw [q224]; rfl) ?_
              refine hw_aloadn (aX4_readBlock 39 rfl) rfl ?_
              refine hw_callV (Bs := []) (rest := []) (aX4_readBlock 40 rfl) wc_RX4_48 (by decide) rfl wi_yX4_take wv_yX4_take (c110 hS15) (s110 hS15) rfl rfl rfl (Nat.le_of_ble_eq_true rfl) (Nat.le_of_ble_eq_true rfl) (k_take2 (d := d + 1) hS15 hF23 hI221 hR24 (by have := congrArg Int32.toInt (show FI219 110 7 = x36 from (up_c u220 (by decide) (h37))); have := congrArg Int32.toInt (show FI219 110 7 = x36 from (up_c u220 (by decide) (h37))); have := congrArg Int32.toInt (show FI219 111 4 = x4 from (up_c u220 (by decide) (kp25))); omega) (by have := congrArg Int32.toInt (show FI219 110 5 = x39 from (up_c u220 (by decide) (h40))); have := congrArg Int32.toInt (show FI219 110 8 = x41 from (up_c u220 (by decide) (h42))); omega) (by have := congrArg Int32.toInt (show FI219 110 7 = x36 from (up_c u220 (by decide) (h37))); have := congrArg Int32.toInt (show FI219 111 4 = x4 from (up_c u220 (by decide) (kp25))); have := congrArg Int32.toInt (show FI219 110 8 = x41 from (up_c u220 (by decide) (h42))); omega) (gK_mx (L := [(110, 5), (110, 6), (110, 7), (110, 8)]) (A := [117]) (T := []) hS gg0 (gf_a fr19 u220 (by decide)) (by decide))) (fun v225 sv226 p227 => ?_)
              have := congrArg Int32.toInt (show FI219 111 4 = x4 from (up_c u220 (by decide) (kp25)))
              have := congrArg Int32.toInt (show FI219 111 4 = x4 from (up_c u220 (by decide) (kp25)))
              have := congrArg Int32.toInt (show FI219 110 7 = x36 from (up_c u220 (by decide) (h37)))
              have := congrArg Int32.toInt (show FI219 110 5 = x39 from (up_c u220 (by decide) (h40)))
              have := congrArg Int32.toInt (show FI219 110 5 = x39 from (up_c u220 (by decide) (h40)))
              have := congrArg Int32.toInt (show FI219 110 5 = x39 from (up_c u220 (by decide) (h40)))
              have := congrArg Int32.toInt (show FI219 110 5 = x39 from (up_c u220 (by decide) (h40)))
              have := congrArg Int32.toInt (show FI219 110 7 = x36 from (up_c u220 (by decide) (h37)))
              have := congrArg Int32.toInt (show FI219 111 4 = x4 from (up_c u220 (by decide) (kp25)))
              have := congrArg Int32.toInt (show FI219 110 7 = x36 from (up_c u220 (by decide) (h37)))
              have := congrArg Int32.toInt (show FI219 110 7 = x36 from (up_c u220 (by decide) (h37)))
              have := congrArg Int32.toInt (show FI219 110 5 = x39 from (up_c u220 (by decide) (h40)))
              have := congrArg Int32.toInt (show FI219 110 8 = x41 from (up_c u220 (by decide) (h42)))
              obtain ⟨rfl, FI229, FL230, rfl, hI231, f232, f233, t236, t237, t238, t239, t240, t241, t242, t243, t244⟩ := p227
              replace t242 := (t242.resolve_left (by omega)).resolve_left (by omega)
              clear t244
              obtain ⟨x247, h248⟩ : ∃ y, FI229 110 7 = y := ⟨_, rfl⟩
              have h248l := congrArg Int32.toInt h248
              have b249 := gI_110_7 hI231; rw [h248] at b249
              obtain ⟨x250, h251⟩ : ∃ y, FI229 110 8 = y := ⟨_, rfl⟩
              have h251l := congrArg Int32.toInt h251
              have := i_rng x250
              show hw sk base _ _ _ _ _ [] _ _
              obtain ⟨x252, q254⟩ : ∃ y : Int32, (y2) + Int32.ofInt (1) = y := ⟨_, rfl⟩
              have e253 : (x252).toInt = (y2).toInt + (1) := by rw [← q254]; exact i_add rfl (by decide) (by omega) (by omega)
              refine xw_iinc (L2 := [(2, .int (x252)), (1, .int (x222)), (0, .ref (base + 110))]) (aX4_readBlock 41 rfl) rfl (by decide) (by rw [q254]; rfl) ?_
              refine xw_goto (tgt := 4) (aX4_readBlock 42 rfl) (by decide) ?_
              exact hw_L (ih (x252) (x222) FI229 FL230 FRv18 n11 sl12 SH13 ex14 hS15 (gf_tr (ex_shd ex14) (gf_a fr19 u220 (by decide)) f232 rfl rfl rfl) (gf_tr (ex_shd ex14) fr20 f233 rfl rfl rfl) fr21 hI231 hF23 hR24 (show FI229 111 4 = x4 from (gf_at f232 (c111 hS15) (shd_f (by decide) (s111 hS15)) rfl ((up_c u220 (by decide) (kp25))))) (by have := (e253 : (x252).toInt = (y2).toInt + (1)); have := (e223 : (x222).toInt = (y1).toInt + (1)); omega) (by have := (e253 : (x252).toInt = (y2).toInt + (1)); have := (e223 : (x222).toInt = (y1).toInt + (1)); omega) (by have := (e253 : (x252).toInt = (y2).toInt + (1)); have := (e223 : (x222).toInt = (y1).toInt + (1)); have := congrArg Int32.toInt (show FI229 110 7 = x247 from h248); omega) (by have := (e253 : (x252).toInt = (y2).toInt + (1)); have := (e223 : (x222).toInt = (y1).toInt + (1)); have := congrArg Int32.toInt (show FI229 110 5 = x39 from (gf_at f232 (c110 hS15) (shd_f (by decide) (s110 hS15)) rfl ((up_c u220 (by decide) (h40))))); have := congrArg Int32.toInt (show FI229 110 8 = x250 from h251); omega) (by have := (e253 : (x252).toInt = (y2).toInt + (1)); have := (e223 : (x222).toInt = (y1).toInt + (1)); have := congrArg Int32.toInt (show FI229 110 7 = x247 from h248); have := congrArg Int32.toInt (show FI229 110 8 = x250 from h251); omega) (by have := (e253 : (x252).toInt = (y2).toInt + (1)); have := (e223 : (x222).toInt = (y1).toInt + (1)); have := congrArg Int32.toInt (show FI229 110 7 = x247 from h248); omega) (by have := (e253 : (x252).toInt = (y2).toInt + (1)); have := (e223 : (x222).toInt = (y1).toInt + (1)); have := congrArg Int32.toInt (show FI229 110 5 = x39 from (gf_at f232 (c110 hS15) (shd_f (by decide) (s110 hS15)) rfl ((up_c u220 (by decide) (h40))))); omega) (by have := (e253 : (x252).toInt = (y2).toInt + (1)); have := (e223 : (x222).toInt = (y1).toInt + (1)); omega) (by have := (e253 : (x252).toInt = (y2).toInt + (1)); have := (e223 : (x222).toInt = (y1).toInt + (1)); omega) (by have := (e253 : (x252).toInt = (y2).toInt + (1)); have := (e223 : (x222).toInt = (y1).toInt + (1)); omega)) ⟨rfl, rfl, rfl, trivial⟩
            · refine hw_aloadn (aX4_readBlock 27 rfl) rfl ?_
              refine hw_bp (v := (6 : Int32)) (aX4_readBlock 28 rfl) (by decide) ?_
              refine hw_callV (Bs := [.int ((6 : Int32))]) (rest := []) (aX4_readBlock 29 rfl) wc_RX4_69 (by decide) rfl wi_yX4_refuse wv_yX4_refuse (c110 hS15) (s110 hS15) rfl rfl rfl (Nat.le_of_ble_eq_true rfl) (Nat.le_of_ble_eq_true rfl) (k_refuse2 (d := d + 1) hS15 hF23 hI22 hR24 ((6 : Int32)) (by have := congrArg Int32.toInt (show FIv16 110 7 = x36 from h37); have := congrArg Int32.toInt (show FIv16 110 7 = x36 from h37); have := congrArg Int32.toInt (show FIv16 111 4 = x4 from kp25); omega) (by have := congrArg Int32.toInt (show FIv16 110 5 = x39 from h40); have := congrArg Int32.toInt (show FIv16 110 8 = x41 from h42); omega) (by have := congrArg Int32.toInt (show FIv16 110 7 = x36 from h37); have := congrArg Int32.toInt (show FIv16 111 4 = x4 from kp25); have := congrArg Int32.toInt (show FIv16 110 8 = x41 from h42); omega) (by have := ((by decide : (6 : Int32).toInt = 6) : ((6 : Int32)).toInt = 6); have := ((by decide : (6 : Int32).toInt = 6) : ((6 : Int32)).toInt = 6); omega)) (fun v255 sv256 p257 => ?_)
              have := congrArg Int32.toInt (show FIv16 110 5 = x39 from h40)
              have := congrArg Int32.toInt (show FIv16 110 5 = x39 from h40)
              obtain ⟨rfl, FI259, rfl, hI260, f261, t264, t265⟩ := p257
              obtain ⟨x268, h269⟩ : ∃ y, FI259 110 5 = y := ⟨_, rfl⟩
              have h269l := congrArg Int32.toInt h269
              have := i_rng x268
              obtain ⟨x270, h271⟩ : ∃ y, FI259 110 8 = y := ⟨_, rfl⟩
              have h271l := congrArg Int32.toInt h271
              have := i_rng x270
              show hw sk base _ _ _ _ _ [] _ _
              refine xw_goto (tgt := 76) (aX4_readBlock 30 rfl) (by decide) ?_
              obtain ⟨x272, q274⟩ : ∃ y : Int32, (y2) + Int32.ofInt (1) = y := ⟨_, rfl⟩
              have e273 : (x272).toInt = (y2).toInt + (1) := by rw [← q274]; exact i_add rfl (by decide) (by omega) (by omega)
              refine xw_iinc (L2 := [(2, .int (x272)), (1, .int (y1)), (0, .ref (base + 110))]) (aX4_readBlock 41 rfl) rfl (by decide) (by rw [q274]; rfl) ?_
              refine xw_goto (tgt := 4) (aX4_readBlock 42 rfl) (by decide) ?_
              exact hw_L (ih (x272) (y1) FI259 FLv17 FRv18 n11 sl12 SH13 ex14 hS15 (gf_tr (ex_shd ex14) fr19 f261 rfl rfl rfl) fr20 fr21 hI260 hF23 hR24 (show FI259 111 4 = x4 from (gf_at f261 (c111 hS15) (shd_f (by decide) (s111 hS15)) rfl (kp25))) (by have := (e273 : (x272).toInt = (y2).toInt + (1)); omega) (by have := (e273 : (x272).toInt = (y2).toInt + (1)); omega) (by have := (e273 : (x272).toInt = (y2).toInt + (1)); have := congrArg Int32.toInt (show FI259 110 7 = x36 from (gf_at f261 (c110 hS15) (shd_f (by decide) (s110 hS15)) rfl (h37))); omega) (by have := (e273 : (x272).toInt = (y2).toInt + (1)); have := congrArg Int32.toInt (show FI259 110 5 = x268 from h269); have := congrArg Int32.toInt (show FI259 110 8 = x270 from h271); omega) (by have := (e273 : (x272).toInt = (y2).toInt + (1)); have := congrArg Int32.toInt (show FI259 110 7 = x36 from (gf_at f261 (c110 hS15) (shd_f (by decide) (s110 hS15)) rfl (h37))); have := congrArg Int32.toInt (show FI259 110 8 = x270 from h271); omega) (by have := (e273 : (x272).toInt = (y2).toInt + (1)); have := congrArg Int32.toInt (show FI259 110 7 = x36 from (gf_at f261 (c110 hS15) (shd_f (by decide) (s110 hS15)) rfl (h37))); omega) (by have := (e273 : (x272).toInt = (y2).toInt + (1)); have := congrArg Int32.toInt (show FI259 110 5 = x268 from h269); omega) (by have := (e273 : (x272).toInt = (y2).toInt + (1)); omega) (by have := (e273 : (x272).toInt = (y2).toInt + (1)); omega) (by have := (e273 : (x272).toInt = (y2).toInt + (1)); omega)) ⟨rfl, rfl, rfl, trivial⟩
          · refine hw_aloadn (aX4_readBlock 18 rfl) rfl ?_
            refine hw_ic (v := (3 : Int32)) (aX4_readBlock 19 rfl) (by decide) ?_
            refine hw_callV (Bs := [.int ((3 : Int32))]) (rest := []) (aX4_readBlock 20 rfl) wc_RX4_69 (by decide) rfl wi_yX4_refuse wv_yX4_refuse (c110 hS15) (s110 hS15) rfl rfl rfl (Nat.le_of_ble_eq_true rfl) (Nat.le_of_ble_eq_true rfl) (k_refuse2 (d := d + 1) hS15 hF23 hI22 hR24 ((3 : Int32)) (by have := congrArg Int32.toInt (show FIv16 110 7 = x36 from h37); have := congrArg Int32.toInt (show FIv16 110 7 = x36 from h37); have := congrArg Int32.toInt (show FIv16 111 4 = x4 from kp25); omega) (by have := congrArg Int32.toInt (show FIv16 110 5 = x39 from h40); have := congrArg Int32.toInt (show FIv16 110 8 = x41 from h42); omega) (by have := congrArg Int32.toInt (show FIv16 110 7 = x36 from h37); have := congrArg Int32.toInt (show FIv16 111 4 = x4 from kp25); have := congrArg Int32.toInt (show FIv16 110 8 = x41 from h42); omega) (by have := ((by decide : (3 : Int32).toInt = 3) : ((3 : Int32)).toInt = 3); have := ((by decide : (3 : Int32).toInt = 3) : ((3 : Int32)).toInt = 3); omega)) (fun v275 sv276 p277 => ?_)
            have := congrArg Int32.toInt (show FIv16 110 5 = x39 from h40)
            have := congrArg Int32.toInt (show FIv16 110 5 = x39 from h40)
            obtain ⟨rfl, FI279, rfl, hI280, f281, t284, t285⟩ := p277
            obtain ⟨x288, h289⟩ : ∃ y, FI279 110 5 = y := ⟨_, rfl⟩
            have h289l := congrArg Int32.toInt h289
            have := i_rng x288
            obtain ⟨x290, h291⟩ : ∃ y, FI279 110 8 = y := ⟨_, rfl⟩
            have h291l := congrArg Int32.toInt h291
            have := i_rng x290
            show hw sk base _ _ _ _ _ [] _ _
            refine xw_goto (tgt := 76) (aX4_readBlock 21 rfl) (by decide) ?_
            obtain ⟨x292, q294⟩ : ∃ y : Int32, (y2) + Int32.ofInt (1) = y := ⟨_, rfl⟩
            have e293 : (x292).toInt = (y2).toInt + (1) := by rw [← q294]; exact i_add rfl (by decide) (by omega) (by omega)
            refine xw_iinc (L2 := [(2, .int (x292)), (1, .int (y1)), (0, .ref (base + 110))]) (aX4_readBlock 41 rfl) rfl (by decide) (by rw [q294]; rfl) ?_
            refine xw_goto (tgt := 4) (aX4_readBlock 42 rfl) (by decide) ?_
            exact hw_L (ih (x292) (y1) FI279 FLv17 FRv18 n11 sl12 SH13 ex14 hS15 (gf_tr (ex_shd ex14) fr19 f281 rfl rfl rfl) fr20 fr21 hI280 hF23 hR24 (show FI279 111 4 = x4 from (gf_at f281 (c111 hS15) (shd_f (by decide) (s111 hS15)) rfl (kp25))) (by have := (e293 : (x292).toInt = (y2).toInt + (1)); omega) (by have := (e293 : (x292).toInt = (y2).toInt + (1)); omega) (by have := (e293 : (x292).toInt = (y2).toInt + (1)); have := congrArg Int32.toInt (show FI279 110 7 = x36 from (gf_at f281 (c110 hS15) (shd_f (by decide) (s110 hS15)) rfl (h37))); omega) (by have := (e293 : (x292).toInt = (y2).toInt + (1)); have := congrArg Int32.toInt (show FI279 110 5 = x288 from h289); have := congrArg Int32.toInt (show FI279 110 8 = x290 from h291); omega) (by have := (e293 : (x292).toInt = (y2).toInt + (1)); have := congrArg Int32.toInt (show FI279 110 7 = x36 from (gf_at f281 (c110 hS15) (shd_f (by decide) (s110 hS15)) rfl (h37))); have := congrArg Int32.toInt (show FI279 110 8 = x290 from h291); omega) (by have := (e293 : (x292).toInt = (y2).toInt + (1)); have := congrArg Int32.toInt (show FI279 110 7 = x36 from (gf_at f281 (c110 hS15) (shd_f (by decide) (s110 hS15)) rfl (h37))); omega) (by have := (e293 : (x292).toInt = (y2).toInt + (1)); have := congrArg Int32.toInt (show FI279 110 5 = x288 from h289); omega) (by have := (e293 : (x292).toInt = (y2).toInt + (1)); omega) (by have := (e293 : (x292).toInt = (y2).toInt + (1)); omega) (by have := (e293 : (x292).toInt = (y2).toInt + (1)); omega)) ⟨rfl, rfl, rfl, trivial⟩
  exact hw_L (lp35 ((65 - 0 : Int).toNat + 1) ((0 : Int32)) ((0 : Int32)) FI FL FR n sl SH ex_rf hS gf_rf gf_rf gf_rf hI hF hR (show FI 111 4 = x4 from h5) (by have := ((by decide : (0 : Int32).toInt = 0) : ((0 : Int32)).toInt = 0); have := ((by decide : (0 : Int32).toInt = 0) : ((0 : Int32)).toInt = 0); omega) (by have := ((by decide : (0 : Int32).toInt = 0) : ((0 : Int32)).toInt = 0); have := ((by decide : (0 : Int32).toInt = 0) : ((0 : Int32)).toInt = 0); omega) (by have := ((by decide : (0 : Int32).toInt = 0) : ((0 : Int32)).toInt = 0); have := ((by decide : (0 : Int32).toInt = 0) : ((0 : Int32)).toInt = 0); have := congrArg Int32.toInt (show FI 110 7 = x1 from h2); omega) (by have := ((by decide : (0 : Int32).toInt = 0) : ((0 : Int32)).toInt = 0); have := ((by decide : (0 : Int32).toInt = 0) : ((0 : Int32)).toInt = 0); have := congrArg Int32.toInt (show FI 110 5 = x7 from h8); have := congrArg Int32.toInt (show FI 110 8 = x9 from h10); omega) (by have := ((by decide : (0 : Int32).toInt = 0) : ((0 : Int32)).toInt = 0); have := ((by decide : (0 : Int32).toInt = 0) : ((0 : Int32)).toInt = 0); have := congrArg Int32.toInt (show FI 110 7 = x1 from h2); have := congrArg Int32.toInt (show FI 110 8 = x9 from h10); omega) (by have := ((by decide : (0 : Int32).toInt = 0) : ((0 : Int32)).toInt = 0); have := ((by decide : (0 : Int32).toInt = 0) : ((0 : Int32)).toInt = 0); have := congrArg Int32.toInt (show FI 110 7 = x1 from h2); omega) (by have := ((by decide : (0 : Int32).toInt = 0) : ((0 : Int32)).toInt = 0); have := ((by decide : (0 : Int32).toInt = 0) : ((0 : Int32)).toInt = 0); have := congrArg Int32.toInt (show FI 110 5 = x7 from h8); omega) (by have := ((by decide : (0 : Int32).toInt = 0) : ((0 : Int32)).toInt = 0); have := ((by decide : (0 : Int32).toInt = 0) : ((0 : Int32)).toInt = 0); omega) (by have := ((by decide : (0 : Int32).toInt = 0) : ((0 : Int32)).toInt = 0); have := ((by decide : (0 : Int32).toInt = 0) : ((0 : Int32)).toInt = 0); omega) (by have := ((by decide : (0 : Int32).toInt = 0) : ((0 : Int32)).toInt = 0); have := ((by decide : (0 : Int32).toInt = 0) : ((0 : Int32)).toInt = 0); omega)) ⟨rfl, rfl, rfl, trivial⟩
