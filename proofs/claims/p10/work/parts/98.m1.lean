set_option maxHeartbeats 4000000 in
set_option maxRecDepth 100000 in
theorem k_goesOn2 {sk : xK} {base d n sl : Nat} {SH : Nat → Nat × Nat} {FI : Nat → Nat → Int32} {FL : Nat → Nat → Int64} {FR : Nat → Nat → Option Nat} (hS : h_S n SH) (hF : h_FR FR) (hI : g_I FI) (hR : g_R n SH FR) : hw sk base d none 37 0 [(0, .ref (base + 110))] [] (n, sl, SH, FI, FL, FR) (h_I (fun r s => s = (n, sl, SH, FI, FL, FR) ∧ (r.toInt = 1 → (FI 110 5).toInt = 0) ∧ (0 ≤ r.toInt ∧ r.toInt ≤ 1))) := by
  obtain ⟨x1, h2⟩ : ∃ y, FI 110 5 = y := ⟨_, rfl⟩
  have h2l := congrArg Int32.toInt h2
  have := i_rng x1
  refine hw_aloadn (aX4_goesOn 0 rfl) rfl ?_
  refine hw_get (v := .int (x1)) (aX4_goesOn 1 rfl) wf_RX4_39 (c110 hS) (s110 hS) (by decide) (congrArg Value.int (show FI 110 5 = x1 from h2)) ?_
  refine hw_ifne (tgt := 19) (aX4_goesOn 2 rfl) (by decide) rfl (fun cd3 => ?_) (fun cd3 => ?_)
  · refine hw_ic (v := (0 : Int32)) (aX4_goesOn 9 rfl) (by decide) ?_
    refine xw_iret (aX4_goesOn 10 rfl) rfl (by decide) ?_
    have e4 : ((0 : Int32)).toInt = 0 := (by decide : (0 : Int32).toInt = 0)
    exact ⟨(0 : Int32), rfl, rfl, (by have : ((0 : Int32)).toInt = 0 := (by decide); omega), (by have : ((0 : Int32)).toInt = 0 := (by decide); omega)⟩
  · refine hw_aloadn (aX4_goesOn 3 rfl) rfl ?_
    obtain ⟨x5, h6⟩ : ∃ y, FI 110 8 = y := ⟨_, rfl⟩
    have h6l := congrArg Int32.toInt h6
    have := i_rng x5
    refine hw_get (v := .int (x5)) (aX4_goesOn 4 rfl) wf_RX4_51 (c110 hS) (s110 hS) (by decide) (congrArg Value.int (show FI 110 8 = x5 from h6)) ?_
    refine hw_ic (v := (2 : Int32)) (aX4_goesOn 5 rfl) (by decide) ?_
    refine hw_iceq (tgt := 19) (aX4_goesOn 6 rfl) (by decide) rfl (by decide : (2 : Int32).toInt = 2) (fun cd7 => ?_) (fun cd7 => ?_)
    · refine hw_ic (v := (0 : Int32)) (aX4_goesOn 9 rfl) (by decide) ?_
      refine xw_iret (aX4_goesOn 10 rfl) rfl (by decide) ?_
      have e8 : ((0 : Int32)).toInt = 0 := (by decide : (0 : Int32).toInt = 0)
      exact ⟨(0 : Int32), rfl, rfl, (by have : ((0 : Int32)).toInt = 0 := (by decide); omega), (by have : ((0 : Int32)).toInt = 0 := (by decide); omega)⟩
    · refine hw_ic (v := (1 : Int32)) (aX4_goesOn 7 rfl) (by decide) ?_
      refine xw_goto (tgt := 20) (aX4_goesOn 8 rfl) (by decide) ?_
      refine xw_iret (aX4_goesOn 10 rfl) rfl (by decide) ?_
      have e9 : ((1 : Int32)).toInt = 1 := (by decide : (1 : Int32).toInt = 1)
      exact ⟨(1 : Int32), rfl, rfl, (by have : ((1 : Int32)).toInt = 1 := (by decide); omega), (by have : ((1 : Int32)).toInt = 1 := (by decide); omega)⟩
def nX11_compile : Nat := 0xacfd00b42afd00b5f300b43a00b42a2a1c00b5f500b43a00b42a2aac020500991c9f00b603031d1c2ac2ffa70104843efc00b405193d07100c00c7fa00b40519fa00b5f600b605194100b42a0519053a320415f500b43a00b42a34009a1c3800a2f300b43a00b42a04150436033ef200b43a00b42a3def00b43a00b42ae7ffa7010284ec00b63a00b42a100099e800b63a00b42a1a00a31b1c3d03e500b61b1000b42a3a00b42a4500b5032a3c4500b42a
theorem bX11_compile : cX11_compile.data.toList.map UInt8.toNat = x_un nX11_compile 177 := by decide +kernel
def iX11_compile : List (Nat × Jvm.ClassFile.Instr × Nat) := [(0, .aload_n 0, 1), (1, .getfield 69, 3), (4, .istore_n 1, 1), (5, .aload_n 0, 1), (6, .iconst 0, 1), (7, .putfield 69, 3), (10, .aload_n 0, 1), (11, .getfield 58, 3), (14, .aload_n 0, 1), (15, .getfield 16, 3), (18, .iload_n 1, 1), (19, .invokevirtual 229, 3), (22, .iconst 0, 1), (23, .istore_n 2, 1), (24, .iload_n 2, 1), (25, .iload_n 1, 1), (26, .if_icmp .gt 26, 3), (29, .aload_n 0, 1), (30, .getfield 58, 3), (33, .invokevirtual 232, 3), (36, .ifCond .eq 16, 3), (39, .aload_n 0, 1), (40, .getfield 58, 3), (43, .invokevirtual 236, 3), (46, .iinc 2 1, 3), (49, .goto (-25), 3), (52, .aload_n 0, 1), (53, .getfield 58, 3), (56, .getfield 239, 3), (59, .istore_n 2, 1), (60, .aload_n 0, 1), (61, .getfield 58, 3), (64, .getfield 242, 3), (67, .istore_n 3, 1), (68, .iconst 0, 1), (69, .istore 4, 2), (71, .iload 4, 2), (73, .aload_n 0, 1), (74, .getfield 58, 3), (77, .getfield 243, 3), (80, .if_icmp .ge 56, 3), (83, .iload_n 2, 1), (84, .ifCond .ne 52, 3), (87, .aload_n 0, 1), (88, .getfield 58, 3), (91, .getfield 245, 3), (94, .iload 4, 2), (96, .aaload, 1), (97, .astore 5, 2), (99, .aload 5, 2), (101, .aload_n 0, 1), (102, .getfield 65, 3), (105, .aload 5, 2), (107, .invokevirtual 246, 3), (110, .putfield 250, 3), (113, .aload 5, 2), (115, .getfield 250, 3), (118, .ifnonnull 12, 3), (121, .bipush 7, 2), (123, .istore_n 2, 1), (124, .aload 5, 2), (126, .getfield 252, 3), (129, .istore_n 3, 1), (130, .iinc 4 1, 3), (133, .goto (-62), 3), (136, .aload_n 0, 1), (137, .iload_n 2, 1), (138, .iload_n 3, 1), (139, .iconst 0, 1), (140, .iconst 0, 1), (141, .invokevirtual 159, 3), (144, .iload_n 2, 1), (145, .ifCond .eq 5, 3), (148, .iconst (-1), 1), (149, .ireturn, 1), (150, .aload_n 0, 1), (151, .aload_n 0, 1), (152, .getfield 58, 3), (155, .getfield 245, 3), (158, .putfield 28, 3), (161, .aload_n 0, 1), (162, .aload_n 0, 1), (163, .getfield 58, 3), (166, .getfield 243, 3), (169, .putfield 253, 3), (172, .aload_n 0, 1), (173, .getfield 253, 3), (176, .ireturn, 1)]
theorem dX11_compile : x_il nX11_compile 177 iX11_compile = true := by decide +kernel
theorem aX11_compile (k : Nat) {pc : Nat} {i : Jvm.ClassFile.Instr} {len : Nat} (hk : iX11_compile[k]? = some (pc, i, len)) : x_at xMM 146 pc i len yX11_compile 6 (some .int) := ⟨cX11_compile, rfl, x_il_ok bX11_compile dX11_compile k hk⟩
set_option maxHeartbeats 4000000 in
set_option maxRecDepth 100000 in
theorem k_X11_compile {sk : xK} {base d n sl : Nat} {SH : Nat → Nat × Nat} {FI : Nat → Nat → Int32} {FL : Nat → Nat → Int64} {FR : Nat → Nat → Option Nat} (hS : h_S n SH) (hF : h_FR FR) (hI : g_I FI) (hR : g_R n SH FR) (gp : Nat → Nat) (gw : Nat → Nat) (gs : Nat → Nat) (gg0 : g_T n SH FI FR gp gw gs) (gg1 : g_V SH FI FR) : hw sk base (d + 252) none 146 0 [(0, .ref (base + 0))] [] (n, sl, SH, FI, FL, FR) (h_I (fun r s => ∃ n' sl' SH' FI' FL' FR', s = (n', sl', SH', FI', FL', FR') ∧ g_ex n SH n' SH' ∧ h_S n' SH' ∧ g_I FI' ∧ g_fr n (shd SH) [(0, 9), (0, 12), (110, 3), (110, 4), (110, 5), (110, 6), (110, 7), (110, 8), (111, 4), (111, 6), (111, 7), (111, 8), (111, 9), (119, 1)] [21, 112, 114, 115, 117, 120] [1006, 1010] FI FI' ∧ g_fr n (shd SH) [(110, 9), (111, 10)] [113] [1101] FL FL' ∧ g_fr n (shd SH) [(0, 11), (110, 2), (111, 5)] [] [1104, 1105] FR FR' ∧ h_FR FR' ∧ g_R n' SH' FR' ∧ ((n' : Int) ≤ n + 32 * (FI 0 9).toInt + 80) ∧ ((sl' : Int) ≤ sl + 300 * (FI 0 9).toInt + 8000) ∧ ((n : Int) ≤ n') ∧ ((FI' 0 9).toInt = 0) ∧ (∃ gp2 gw2 gs2, g_T n' SH' FI' FR' gp2 gw2 gs2 ∧ (∀ c, c < n → gp2 c = gp c ∧ gw2 c = gw c ∧ gs2 c = gs c) ∧ True) ∧ (g_V SH' FI' FR'))) := by
  have hk0 : ∀ c, c < n → gp c = gp c ∧ gw c = gw c ∧ gs c = gs c := fun _ _ => ⟨rfl, rfl, rfl⟩
  obtain ⟨x1, h2⟩ : ∃ y, FI 0 9 = y := ⟨_, rfl⟩
  have h2l := congrArg Int32.toInt h2
  have b3 := gI_0_9 hI; rw [h2] at b3
  obtain ⟨x4, h5⟩ : ∃ y, FI 0 12 = y := ⟨_, rfl⟩
  have h5l := congrArg Int32.toInt h5
  have b6 := gI_0_12 hI; rw [h5] at b6
  obtain ⟨o7, h8⟩ : ∃ y, FR 0 11 = y := ⟨_, rfl⟩
  have ht9 : ∀ r, o7 = some r → r < n ∧ own r ∧ SH r = (104, (SH r).2) := fun r e => gR_get hR (c0 hS) (Or.inl (by decide)) (s0 hS) (h8.trans e)
  refine hw_aloadn (aX11_compile 0 rfl) rfl ?_
  refine hw_get (v := .int (x1)) (aX11_compile 1 rfl) wf_RX11_69 (c0 hS) (s0 hS) (by decide) (congrArg Value.int (show FI 0 9 = x1 from h2)) ?_
  refine xw_istoren (L2 := [(1, .int (x1)), (0, .ref (base + 0))]) (aX11_compile 2 rfl) (by decide) rfl ?_
  refine hw_aloadn (aX11_compile 3 rfl) rfl ?_
  refine hw_ic (v := (0 : Int32)) (aX11_compile 4 rfl) (by decide) ?_
  refine hv_puti (aX11_compile 5 rfl) wf_RX11_69 (c0 hS) (s0 hS) (by decide) rfl rfl (fun FI10 u11 => ?_)
  have hT12 : g_T n SH FI10 FR gp gw gs := gT_wi gg0 (fun h => absurd h (by rw [(s0 hS)]; decide)) u11
  have hI13 : g_I FI10 := gU_0_9 hI u11 (by have := ((by decide : (0 : Int32).toInt = 0) : ((0 : Int32)).toInt = 0); omega) (by have := ((by decide : (0 : Int32).toInt = 0) : ((0 : Int32)).toInt = 0); omega)
  refine hw_aloadn (aX11_compile 6 rfl) rfl ?_
  refine hw_get (v := .ref (base + 110)) (aX11_compile 7 rfl) wf_RX11_58 (c0 hS) (s0 hS) (by decide) (congrArg (fun r => va_rf (h_rf base r)) (r0_3 hF)) ?_
  refine hw_aloadn (aX11_compile 8 rfl) rfl ?_
  refine hw_get (v := .ref (base + 19)) (aX11_compile 9 rfl) wf_RX11_16 (c0 hS) (s0 hS) (by decide) (congrArg (fun r => va_rf (h_rf base r)) (r0_6 hF)) ?_
  refine xw_iloadn (aX11_compile 10 rfl) rfl ?_
  refine hw_callV (Bs := [.ref (base + 19), .int (x1)]) (rest := []) (aX11_compile 11 rfl) wc_RX11_229 (by decide) rfl wi_yX4_begin wv_yX4_begin (c110 hS) (s110 hS) rfl rfl rfl (Nat.le_of_ble_eq_true rfl) (Nat.le_of_ble_eq_true rfl) (k_X4_begin (d := d + 247) hS hF hI13 hR (x1) (gp) (gw) (gs) (by omega) (hT12)) (fun v14 sv15 p16 => ?_)
  obtain ⟨rfl, n40, sl41, SH42, FI18, FL19, FR20, rfl, ex43, hS44, hI21, f22, f23, f24, hF25, hR26, t27, t28, t29, t30, t31, t32, t33, t34, u35, u36, u37⟩ := p16
  obtain ⟨gp45, gw46, gs47, hT48, hkp49, hq50⟩ := u35
  have hk51 : ∀ c, c < n → gp45 c = gp c ∧ gw46 c = gw c ∧ gs47 c = gs c := fun c hc => by obtain ⟨k1, k2, k3⟩ := hk0 c hc; obtain ⟨m1, m2, m3⟩ := hkp49 c (Nat.lt_of_lt_of_le hc (Nat.le_refl _)); exact ⟨m1.trans k1, m2.trans k2, m3.trans k3⟩
  have ht52 := ex_ty ex43 ht9
  obtain ⟨x53, h54⟩ : ∃ y, FI18 110 5 = y := ⟨_, rfl⟩
  have h54l := congrArg Int32.toInt h54
  have := i_rng x53
  obtain ⟨x55, h56⟩ : ∃ y, FI18 110 4 = y := ⟨_, rfl⟩
  have h56l := congrArg Int32.toInt h56
  have := i_rng x55
  obtain ⟨x57, h58⟩ : ∃ y, FI18 110 7 = y := ⟨_, rfl⟩
  have h58l := congrArg Int32.toInt h58
  have b59 := gI_110_7 hI21; rw [h58] at b59
  obtain ⟨x60, h61⟩ : ∃ y, FI18 111 4 = y := ⟨_, rfl⟩
  have h61l := congrArg Int32.toInt h61
  have b62 := gI_111_4 hI21; rw [h61] at b62
  obtain ⟨x63, h64⟩ : ∃ y, FI18 110 8 = y := ⟨_, rfl⟩
  have h64l := congrArg Int32.toInt h64
  have := i_rng x63
  show hw sk base _ _ _ _ _ [] _ _
  have ol65 : ∀ c9 k9, c9 < n → (SH c9).1 = 104 → 176 ≤ c9 → FR20 c9 k9 = FR c9 k9 := fun c9 k9 h1 h2 h3 => g_low_at (L := [(110, 2), (111, 5)]) (A := []) (T := []) (ts := [1104]) (t := 1104) f24 (by decide) h1 h3 (by rw [h2]) (by decide)
  refine hw_ic (v := (0 : Int32)) (aX11_compile 12 rfl) (by decide) ?_
  refine xw_istoren (L2 := [(2, .int ((0 : Int32))), (1, .int (x1)), (0, .ref (base + 0))]) (aX11_compile 13 rfl) (by decide) rfl ?_
  have lp99 : ∀ (m : Nat) (y2 : Int32) (FIv71 : Nat → Nat → Int32) (FLv72 : Nat → Nat → Int64) (FRv73 : Nat → Nat → Option Nat) (n66 sl67 : Nat) (SH68 : Nat → Nat × Nat) (gp74 gw75 gs76 : Nat → Nat), (g_ex n40 SH42 n66 SH68) → (h_S n66 SH68) → (g_T n66 SH68 FIv71 FRv73 gp74 gw75 gs76) → (∀ c, c < n → gp74 c = gp c ∧ gw75 c = gw c ∧ gs76 c = gs c) → (g_fr n (shd SH) [(0, 9), (0, 12), (110, 3), (110, 4), (110, 5), (110, 6), (110, 7), (110, 8), (111, 4), (111, 6), (111, 7), (111, 8), (111, 9), (119, 1)] [21, 112, 114, 115, 117, 120] [1006, 1010] FI FIv71) → (g_fr n (shd SH) [(110, 9), (111, 10)] [113] [1101] FL FLv72) → (g_fr n (shd SH) [(0, 11), (110, 2), (111, 5)] [] [1104, 1105] FR FRv73) → (g_I FIv71) → (h_FR FRv73) → (g_R n66 SH68 FRv73) → (FIv71 0 12 = x4) → (FRv73 0 11 = o7) → (FIv71 0 9 = (0 : Int32)) → (FIv71 111 4 = x60) → (0 ≤ (y2).toInt ∧ (y2).toInt ≤ 1001) → (0 ≤ (FIv71 110 7).toInt ∧ (FIv71 110 7).toInt < (x60).toInt) → ((FIv71 110 5).toInt = 0 ∨ (FIv71 110 8).toInt = 1) → ((FIv71 110 7).toInt + 1 < (x60).toInt ∨ (FIv71 110 8).toInt ≤ 3) → ((FIv71 110 5).toInt ≠ 0 ∨ (FIv71 110 4).toInt = 0) → ((x60).toInt ≤ (FI 0 9).toInt + 2) → ((n66 : Int) ≤ n + 1 + 17 * (FIv71 110 7).toInt + 15 * (y2).toInt) → ((sl67 : Int) ≤ sl + 12 + 7 * ((n66 : Int) - n) + (FIv71 110 7).toInt + 60 * (y2).toInt) → ((n : Int) ≤ n66) → ((y2).toInt ≤ (FI 0 9).toInt + 1) → (g_K FIv71) → (g_PV n SH68 FRv73 (FIv71 110 3).toInt) → (∀ c9 k9, c9 < n → (SH c9).1 = 104 → 176 ≤ c9 → FRv73 c9 k9 = FR c9 k9) → 1002 - (y2).toInt < m → hw sk base (d + 252) none 146 24 [(2, .int (y2)), (1, .int (x1)), (0, .ref (base + 0))] [] (n66, sl67, SH68, FIv71, FLv72, FRv73) (h_I (fun r s => ∃ n' sl' SH' FI' FL' FR', s = (n', sl', SH', FI', FL', FR') ∧ g_ex n SH n' SH' ∧ h_S n' SH' ∧ g_I FI' ∧ g_fr n (shd SH) [(0, 9), (0, 12), (110, 3), (110, 4), (110, 5), (110, 6), (110, 7), (110, 8), (111, 4), (111, 6), (111, 7), (111, 8), (111, 9), (119, 1)] [21, 112, 114, 115, 117, 120] [1006, 1010] FI FI' ∧ g_fr n (shd SH) [(110, 9), (111, 10)] [113] [1101] FL FL' ∧ g_fr n (shd SH) [(0, 11), (110, 2), (111, 5)] [] [1104, 1105] FR FR' ∧ h_FR FR' ∧ g_R n' SH' FR' ∧ ((n' : Int) ≤ n + 32 * (FI 0 9).toInt + 80) ∧ ((sl' : Int) ≤ sl + 300 * (FI 0 9).toInt + 8000) ∧ ((n : Int) ≤ n') ∧ ((FI' 0 9).toInt = 0) ∧ (∃ gp2 gw2 gs2, g_T n' SH' FI' FR' gp2 gw2 gs2 ∧ (∀ c, c < n → gp2 c = gp c ∧ gw2 c = gw c ∧ gs2 c = gs c) ∧ True) ∧ (g_V SH' FI' FR'))) := by
    intro m
    induction m with
    | zero => intro y2 FIv71 FLv72 FRv73 n66 sl67 SH68 gp74 gw75 gs76 ex69 hS70 hT77 hk78 fr79 fr80 fr81 hI82 hF83 hR84 kp85 kp86 kp87 kp88 iv89 iv90 iv91 iv92 iv93 iv94 iv95 iv96 iv97 iv98 xi24_0 xi24_1 xi24_2 hm; omega
    | succ m ih =>
      intro y2 FIv71 FLv72 FRv73 n66 sl67 SH68 gp74 gw75 gs76 ex69 hS70 hT77 hk78 fr79 fr80 fr81 hI82 hF83 hR84 kp85 kp86 kp87 kp88 iv89 iv90 iv91 iv92 iv93 iv94 iv95 iv96 iv97 iv98 xi24_0 xi24_1 xi24_2 hm
      have rg_y2 := i_rng y2
      have := congrArg Int32.toInt kp85
      have := congrArg Int32.toInt kp87
      have := congrArg Int32.toInt kp88
      have ht100 := ex_ty ex69 ht52
      have ex101 := ex_tr ex43 ex69
      obtain ⟨x102, h103⟩ : ∃ y, FIv71 110 7 = y := ⟨_, rfl⟩
      have h103l := congrArg Int32.toInt h103
      have b104 := gI_110_7 hI82; rw [h103] at b104
      obtain ⟨x105, h106⟩ : ∃ y, FIv71 110 5 = y := ⟨_, rfl⟩
      have h106l := congrArg Int32.toInt h106
      have := i_rng x105
      obtain ⟨x107, h108⟩ : ∃ y, FIv71 110 8 = y := ⟨_, rfl⟩
      have h108l := congrArg Int32.toInt h108
      have := i_rng x107
      obtain ⟨x109, h110⟩ : ∃ y, FIv71 110 4 = y := ⟨_, rfl⟩
      have h110l := congrArg Int32.toInt h110
      have := i_rng x109
      refine xw_iloadn (aX11_compile 14 rfl) rfl ?_
      refine xw_iloadn (aX11_compile 15 rfl) rfl ?_
      refine hw_icgt (tgt := 52) (aX11_compile 16 rfl) (by decide) rfl rfl (fun cd111 => ?_) (fun cd111 => ?_)
      · refine hw_aloadn (aX11_compile 26 rfl) rfl ?_
        refine hw_get (v := .ref (base + 110)) (aX11_compile 27 rfl) wf_RX11_58 (c0 hS70) (s0 hS70) (by decide) (congrArg (fun r => va_rf (h_rf base r)) (r0_3 hF83)) ?_
        refine hw_get (v := .int (x105)) (aX11_compile 28 rfl) wf_RX11_239 (c110 hS70) (s110 hS70) (by decide) (congrArg Value.int (show FIv71 110 5 = x105 from h106)) ?_
        refine xw_istoren (L2 := [(2, .int (x105)), (1, .int (x1)), (0, .ref (base + 0))]) (aX11_compile 29 rfl) (by decide) rfl ?_
        refine hw_aloadn (aX11_compile 30 rfl) rfl ?_
        refine hw_get (v := .ref (base + 110)) (aX11_compile 31 rfl) wf_RX11_58 (c0 hS70) (s0 hS70) (by decide) (congrArg (fun r => va_rf (h_rf base r)) (r0_3 hF83)) ?_
        obtain ⟨x112, h113⟩ : ∃ y, FIv71 110 6 = y := ⟨_, rfl⟩
        have h113l := congrArg Int32.toInt h113
        have := i_rng x112
        refine hw_get (v := .int (x112)) (aX11_compile 32 rfl) wf_RX11_242 (c110 hS70) (s110 hS70) (by decide) (congrArg Value.int (show FIv71 110 6 = x112 from h113)) ?_
        refine xw_istoren (L2 := [(3, .int (x112)), (2, .int (x105)), (1, .int (x1)), (0, .ref (base + 0))]) (aX11_compile 33 rfl) (by decide) rfl ?_
        refine hw_ic (v := (0 : Int32)) (aX11_compile 34 rfl) (by decide) ?_
        refine xw_istore (L2 := [(4, .int ((0 : Int32))), (3, .int (x112)), (2, .int (x105)), (1, .int (x1)), (0, .ref (base + 0))]) (aX11_compile 35 rfl) (by decide) rfl ?_
        have lp147 : ∀ (m : Nat) (y4 : Int32) (y3 : Int32) (y2_119 : Int32) (FIv120 : Nat → Nat → Int32) (FLv121 : Nat → Nat → Int64) (FRv122 : Nat → Nat → Option Nat) (n114 sl115 : Nat) (SH116 : Nat → Nat × Nat) (gp123 gw124 gs125 : Nat → Nat), (g_ex n66 SH68 n114 SH116) → (h_S n114 SH116) → (g_T n114 SH116 FIv120 FRv122 gp123 gw124 gs125) → (∀ c, c < n → gp123 c = gp c ∧ gw124 c = gw c ∧ gs125 c = gs c) → (g_fr n (shd SH) [(0, 9), (0, 12), (110, 3), (110, 4), (110, 5), (110, 6), (110, 7), (110, 8), (111, 4), (111, 6), (111, 7), (111, 8), (111, 9), (119, 1)] [21, 112, 114, 115, 117, 120] [1006, 1010] FI FIv120) → (g_fr n (shd SH) [(110, 9), (111, 10)] [113] [1101] FL FLv121) → (g_fr n (shd SH) [(0, 11), (110, 2), (111, 5)] [] [1104, 1105] FR FRv122) → (g_I FIv120) → (h_FR FRv122) → (g_R n114 SH116 FRv122) → (FIv120 0 12 = x4) → (FRv122 0 11 = o7) → (FIv120 0 9 = (0 : Int32)) → (FIv120 111 4 = x60) → (FIv120 110 7 = x102) → (FIv120 110 5 = x105) → (FIv120 110 8 = x107) → (FIv120 110 4 = x109) → (FIv120 110 6 = x112) → (0 ≤ (y4).toInt ∧ (y4).toInt ≤ 12) → ((n114 : Int) ≤ n + 32 * (FI 0 9).toInt + 60 + (y4).toInt) → ((sl115 : Int) ≤ sl + 300 * (FI 0 9).toInt + 700 + 600 * (y4).toInt) → ((n : Int) ≤ n114) → (g_PV n SH116 FRv122 (FIv120 110 3).toInt) → (∀ c9 k9, c9 < n → (SH c9).1 = 104 → 176 ≤ c9 → FRv122 c9 k9 = FR c9 k9) → ((y2_119).toInt = 0 → g_CD FRv122 (y4).toInt) → 13 - (y4).toInt < m → hw sk base (d + 252) none 146 71 [(4, .int (y4)), (3, .int (y3)), (2, .int (y2_119)), (0, .ref (base + 0))] [] (n114, sl115, SH116, FIv120, FLv121, FRv122) (h_I (fun r s => ∃ n' sl' SH' FI' FL' FR', s = (n', sl', SH', FI', FL', FR') ∧ g_ex n SH n' SH' ∧ h_S n' SH' ∧ g_I FI' ∧ g_fr n (shd SH) [(0, 9), (0, 12), (110, 3), (110, 4), (110, 5), (110, 6), (110, 7), (110, 8), (111, 4), (111, 6), (111, 7), (111, 8), (111, 9), (119, 1)] [21, 112, 114, 115, 117, 120] [1006, 1010] FI FI' ∧ g_fr n (shd SH) [(110, 9), (111, 10)] [113] [1101] FL FL' ∧ g_fr n (shd SH) [(0, 11), (110, 2), (111, 5)] [] [1104, 1105] FR FR' ∧ h_FR FR' ∧ g_R n' SH' FR' ∧ ((n' : Int) ≤ n + 32 * (FI 0 9).toInt + 80) ∧ ((sl' : Int) ≤ sl + 300 * (FI 0 9).toInt + 8000) ∧ ((n : Int) ≤ n') ∧ ((FI' 0 9).toInt = 0) ∧ (∃ gp2 gw2 gs2, g_T n' SH' FI' FR' gp2 gw2 gs2 ∧ (∀ c, c < n → gp2 c = gp c ∧ gw2 c = gw c ∧ gs2 c = gs c) ∧ True) ∧ (g_V SH' FI' FR'))) := by
          intro m
          induction m with
          | zero => intro y4 y3 y2_119 FIv120 FLv121 FRv122 n114 sl115 SH116 gp123 gw124 gs125 ex117 hS118 hT126 hk127 fr128 fr129 fr130 hI131 hF132 hR133 kp134 kp135 kp136 kp137 kp138 kp139 kp140 kp141 kp142 iv143 iv144 iv145 iv146 xi71_0 xi71_1 xi71_2 hm; omega
          | succ m ih71 =>
            intro y4 y3 y2_119 FIv120 FLv121 FRv122 n114 sl115 SH116 gp123 gw124 gs125 ex117 hS118 hT126 hk127 fr128 fr129 fr130 hI131 hF132 hR133 kp134 kp135 kp136 kp137 kp138 kp139 kp140 kp141 kp142 iv143 iv144 iv145 iv146 xi71_0 xi71_1 xi71_2 hm
            have rg_y4 := i_rng y4
            have rg_y3 := i_rng y3
            have rg_y2_119 := i_rng y2_119
            have := congrArg Int32.toInt kp134
            have := congrArg Int32.toInt kp136
            have := congrArg Int32.toInt kp137
            have := congrArg Int32.toInt kp138
            have := congrArg Int32.toInt kp139
            have := congrArg Int32.toInt kp140
            have := congrArg Int32.toInt kp141
            have := congrArg Int32.toInt kp142
            have ht148 := ex_ty ex117 ht100
            have ex149 := ex_tr ex69 ex117
            have ex150 := ex_tr ex101 ex117
            refine xw_iload (aX11_compile 36 rfl) rfl ?_
            refine hw_aloadn (aX11_compile 37 rfl) rfl ?_
            refine hw_get (v := .ref (base + 110)) (aX11_compile 38 rfl) wf_RX11_58 (c0 hS118) (s0 hS118) (by decide) (congrArg (fun r => va_rf (h_rf base r)) (r0_3 hF132)) ?_
            obtain ⟨x151, h152⟩ : ∃ y, FIv120 110 3 = y := ⟨_, rfl⟩
            have h152l := congrArg Int32.toInt h152
            have b153 := gI_110_3 hI131; rw [h152] at b153
            refine hw_get (v := .int (x151)) (aX11_compile 39 rfl) wf_RX11_243 (c110 hS118) (s110 hS118) (by decide) (congrArg Value.int (show FIv120 110 3 = x151 from h152)) ?_
            refine hw_icge (tgt := 136) (aX11_compile 40 rfl) (by decide) rfl rfl (fun cd154 => ?_) (fun cd154 => ?_)
            · refine hw_aloadn (aX11_compile 65 rfl) rfl ?_
              refine xw_iloadn (aX11_compile 66 rfl) rfl ?_
              refine xw_iloadn (aX11_compile 67 rfl) rfl ?_
              refine hw_ic (v := (0 : Int32)) (aX11_compile 68 rfl) (by decide) ?_
              refine hw_ic (v := (0 : Int32)) (aX11_compile 69 rfl) (by decide) ?_
              refine hw_callV (Bs := [.int (y2_119), .int (y3), .int ((0 : Int32)), .int ((0 : Int32))]) (rest := []) (aX11_compile 70 rfl) wc_RX11_159 (by decide) rfl wi_yX11_tell wv_yX11_tell (c0 hS118) (s0 hS118) rfl rfl rfl (Nat.le_of_ble_eq_true rfl) (Nat.le_of_ble_eq_true rfl) (k_X11_tell (d := d + 251) hS118 hF132 hI131 hR133 (y2_119) (y3) ((0 : Int32)) ((0 : Int32)) ) (fun v155 sv156 p157 => ?_)
              obtain ⟨rfl, FI159, rfl, hI160, f161⟩ := p157
              have hT166 : g_T n114 SH116 FI159 FRv122 gp123 gw124 gs125 := gT_mw (L := []) (A := [21]) (T := []) (L2 := []) (A2 := []) (T2 := []) hS118 hT126 f161 gf_rf (by decide) (by decide)
              show hw sk base _ _ _ _ _ [] _ _
              refine xw_iloadn (aX11_compile 71 rfl) rfl ?_
              refine hw_ifeq (tgt := 150) (aX11_compile 72 rfl) (by decide) rfl (fun cd167 => ?_) (fun cd167 => ?_)
              · refine hw_aloadn (aX11_compile 75 rfl) rfl ?_
                refine hw_aloadn (aX11_compile 76 rfl) rfl ?_
                refine hw_get (v := .ref (base + 110)) (aX11_compile 77 rfl) wf_RX11_58 (c0 hS118) (s0 hS118) (by decide) (congrArg (fun r => va_rf (h_rf base r)) (r0_3 hF132)) ?_
                obtain ⟨o168, h169⟩ : ∃ y, FRv122 110 2 = y := ⟨_, rfl⟩
                have ht170 : ∀ r, o168 = some r → r < n114 ∧ own r ∧ SH116 r = (104, (SH116 r).2) := fun r e => gR_get hR133 (c110 hS118) (Or.inl (by decide)) (s110 hS118) (h169.trans e)
                obtain ⟨r171, rfl⟩ := gR_nn hR133 (by unfold g_nn; omega) h169
                obtain ⟨lt172, ow173, sh174⟩ := ht170 r171 rfl
                refine hw_get (v := .ref (base + r171)) (aX11_compile 78 rfl) wf_RX11_245 (c110 hS118) (s110 hS118) (by decide) (congrArg (fun r => va_rf (h_rf base r)) (show FRv122 110 2 = some r171 from h169)) ?_
                refine hv_putr (r := some (r171)) (aX11_compile 79 rfl) wf_RX11_28 (c0 hS118) (s0 hS118) (by decide) (by first | exact Or.inl ⟨_, rfl⟩ | exact Or.inr ⟨_, rfl⟩) (Or.inl rfl) (fun FR175 u176 => ?_)
                have hT177 : g_T n114 SH116 FI159 FR175 gp123 gw124 gs125 := gT_wo hT166 (by rw [(s0 hS118)]; decide) (by rw [(s0 hS118)]; decide) u176
                have hF178 : h_FR FR175 := hF_up hS118 hF132 u176 (s0 hS118) (by decide +kernel)
                have hR179 : g_R n114 SH116 FR175 := gR_up hR133 u176 (s0 hS118) (fun r e => by cases e; exact ⟨lt172, ow173, by rw [sh174]; rfl⟩) (fun h => absurd h (by have := (by decide : 0 < 176); omega)) (fun _ => by simp) (fun h => absurd h.1 (by decide))
                refine hw_aloadn (aX11_compile 80 rfl) rfl ?_
                refine hw_aloadn (aX11_compile 81 rfl) rfl ?_
                refine hw_get (v := .ref (base + 110)) (aX11_compile 82 rfl) wf_RX11_58 (c0 hS118) (s0 hS118) (by decide) (congrArg (fun r => va_rf (h_rf base r)) (r0_3 hF178)) ?_
                refine hw_get (v := .int (x151)) (aX11_compile 83 rfl) wf_RX11_243 (c110 hS118) (s110 hS118) (by decide) (congrArg Value.int (show FI159 110 3 = x151 from (gf_at f161 (c110 hS118) (shd_f (by decide) (s110 hS118)) rfl (h152)))) ?_
                refine hv_puti (aX11_compile 84 rfl) wf_RX11_253 (c0 hS118) (s0 hS118) (by decide) rfl rfl (fun FI180 u181 => ?_)
                have hT182 : g_T n114 SH116 FI180 FR175 gp123 gw124 gs125 := gT_wi hT177 (fun h => absurd h (by rw [(s0 hS118)]; decide)) u181
                have hI183 : g_I FI180 := gU_0_12 hI160 u181 (by omega) (by omega)
                refine hw_aloadn (aX11_compile 85 rfl) rfl ?_
                refine hw_get (v := .int (x151)) (aX11_compile 86 rfl) wf_RX11_253 (c0 hS118) (s0 hS118) (by decide) (congrArg Value.int (show FI180 0 12 = x151 from up_eq u181)) ?_
                refine xw_iret (aX11_compile 87 rfl) rfl rfl ?_
                exact ⟨x151, rfl, n114, sl115, SH116, FI180, FLv121, FR175, rfl, ex150, hS118, hI183, (gf_f (gf_tr (ex_shd ex150) fr128 f161 rfl rfl rfl) u181 (by decide)), fr129, (gf_f fr130 u176 (by decide)), hF178, hR179, (by omega), (by omega), (by omega), (by have := congrArg Int32.toInt (show FI180 0 9 = (0 : Int32) from (up_k u181 (by decide) ((gf_at f161 (c0 hS118) (shd_f (by decide) (s0 hS118)) rfl (kp136))))); have := ((by decide : (0 : Int32).toInt = 0) : ((0 : Int32)).toInt = 0); omega), (by exact ⟨gp123, gw124, gs125, hT182, hk127, trivial⟩), (by have hq3 := congrArg Int32.toInt (show FI180 0 12 = x151 from up_eq u181); exact gV_new (FR := FRv122) (cn := (FIv120 110 3).toInt) hR133 hS118 xi71_0 (fun i hi => xi71_2 (by omega) i (by omega)) ((up_eq u176).trans (show FRv122 110 2 = some (r171) from h169).symm) (fun c k hc => up_c u176 (by omega) rfl) (by omega))⟩
              · refine hw_ic (v := ((-1) : Int32)) (aX11_compile 73 rfl) (by decide) ?_
                refine xw_iret (aX11_compile 74 rfl) rfl rfl ?_
                have e184 : (((-1) : Int32)).toInt = (-1) := (by decide : ((-1) : Int32).toInt = (-1))
                exact ⟨((-1) : Int32), rfl, n114, sl115, SH116, FI159, FLv121, FRv122, rfl, ex150, hS118, hI160, (gf_tr (ex_shd ex150) fr128 f161 rfl rfl rfl), fr129, fr130, hF132, hR133, (by have : (((-1) : Int32)).toInt = (-1) := (by decide); omega), (by have : (((-1) : Int32)).toInt = (-1) := (by decide); omega), (by have : (((-1) : Int32)).toInt = (-1) := (by decide); omega), (by have : (((-1) : Int32)).toInt = (-1) := (by decide); have := congrArg Int32.toInt (show FI159 0 9 = (0 : Int32) from (gf_at f161 (c0 hS118) (shd_f (by decide) (s0 hS118)) rfl (kp136))); have := ((by decide : (0 : Int32).toInt = 0) : ((0 : Int32)).toInt = 0); omega), (by exact ⟨gp123, gw124, gs125, hT166, hk127, trivial⟩), (by exact gV_old (L := [(0, 11), (110, 2), (111, 5)]) (A := []) (T := [1104, 1105]) hS hR ex150 gg1 ((show FI159 0 12 = x4 from (gf_at f161 (c0 hS118) (shd_f (by decide) (s0 hS118)) rfl (kp134))).trans (h5).symm) ((show FRv122 0 11 = o7 from kp135).trans (h8).symm) xi71_1 fr130 (by decide))⟩
            · have hPVd := xi71_0
              obtain ⟨pv, h185, h186, h187, h188, h189⟩ := hPVd
              obtain ⟨lt191, ow192, sh193⟩ := gR_get hR133 (c110 hS118) (Or.inl (by decide)) (s110 hS118) h185
              refine xw_iloadn (aX11_compile 41 rfl) rfl ?_
              refine hw_ifne (tgt := 136) (aX11_compile 42 rfl) (by decide) rfl (fun cd194 => ?_) (fun cd194 => ?_)
              · refine hw_aloadn (aX11_compile 65 rfl) rfl ?_
                refine xw_iloadn (aX11_compile 66 rfl) rfl ?_
                refine xw_iloadn (aX11_compile 67 rfl) rfl ?_
                refine hw_ic (v := (0 : Int32)) (aX11_compile 68 rfl) (by decide) ?_
                refine hw_ic (v := (0 : Int32)) (aX11_compile 69 rfl) (by decide) ?_
                refine hw_callV (Bs := [.int (y2_119), .int (y3), .int ((0 : Int32)), .int ((0 : Int32))]) (rest := []) (aX11_compile 70 rfl) wc_RX11_159 (by decide) rfl wi_yX11_tell wv_yX11_tell (c0 hS118) (s0 hS118) rfl rfl rfl (Nat.le_of_ble_eq_true rfl) (Nat.le_of_ble_eq_true rfl) (k_X11_tell (d := d + 251) hS118 hF132 hI131 hR133 (y2_119) (y3) ((0 : Int32)) ((0 : Int32)) ) (fun v195 sv196 p197 => ?_)
                obtain ⟨rfl, FI199, rfl, hI200, f201⟩ := p197
                have hT206 : g_T n114 SH116 FI199 FRv122 gp123 gw124 gs125 := gT_mw (L := []) (A := [21]) (T := []) (L2 := []) (A2 := []) (T2 := []) hS118 hT126 f201 gf_rf (by decide) (by decide)
                show hw sk base _ _ _ _ _ [] _ _
                refine xw_iloadn (aX11_compile 71 rfl) rfl ?_
                refine hw_ifeq (tgt := 150) (aX11_compile 72 rfl) (by decide) rfl (fun cd207 => ?_) (fun cd207 => ?_)
                · refine hw_aloadn (aX11_compile 75 rfl) rfl ?_
                  refine hw_aloadn (aX11_compile 76 rfl) rfl ?_
                  refine hw_get (v := .ref (base + 110)) (aX11_compile 77 rfl) wf_RX11_58 (c0 hS118) (s0 hS118) (by decide) (congrArg (fun r => va_rf (h_rf base r)) (r0_3 hF132)) ?_
                  refine hw_get (v := .ref (base + pv)) (aX11_compile 78 rfl) wf_RX11_245 (c110 hS118) (s110 hS118) (by decide) (congrArg (fun r => va_rf (h_rf base r)) (show FRv122 110 2 = some pv from h185)) ?_
                  refine hv_putr (r := some (pv)) (aX11_compile 79 rfl) wf_RX11_28 (c0 hS118) (s0 hS118) (by decide) (by first | exact Or.inl ⟨_, rfl⟩ | exact Or.inr ⟨_, rfl⟩) (Or.inl rfl) (fun FR208 u209 => ?_)
                  have hT210 : g_T n114 SH116 FI199 FR208 gp123 gw124 gs125 := gT_wo hT206 (by rw [(s0 hS118)]; decide) (by rw [(s0 hS118)]; decide) u209
                  have hF211 : h_FR FR208 := hF_up hS118 hF132 u209 (s0 hS118) (by decide +kernel)
                  have hR212 : g_R n114 SH116 FR208 := gR_up hR133 u209 (s0 hS118) (fun r e => by cases e; exact ⟨lt191, ow192, by rw [h186]; rfl⟩) (fun h => absurd h (by have := (by decide : 0 < 176); omega)) (fun _ => by simp) (fun h => absurd h.1 (by decide))
                  refine hw_aloadn (aX11_compile 80 rfl) rfl ?_
                  refine hw_aloadn (aX11_compile 81 rfl) rfl ?_
                  refine hw_get (v := .ref (base + 110)) (aX11_compile 82 rfl) wf_RX11_58 (c0 hS118) (s0 hS118) (by decide) (congrArg (fun r => va_rf (h_rf base r)) (r0_3 hF211)) ?_
                  refine hw_get (v := .int (x151)) (aX11_compile 83 rfl) wf_RX11_243 (c110 hS118) (s110 hS118) (by decide) (congrArg Value.int (show FI199 110 3 = x151 from (gf_at f201 (c110 hS118) (shd_f (by decide) (s110 hS118)) rfl (h152)))) ?_
                  refine hv_puti (aX11_compile 84 rfl) wf_RX11_253 (c0 hS118) (s0 hS118) (by decide) rfl rfl (fun FI213 u214 => ?_)
                  have hT215 : g_T n114 SH116 FI213 FR208 gp123 gw124 gs125 := gT_wi hT210 (fun h => absurd h (by rw [(s0 hS118)]; decide)) u214
                  have hI216 : g_I FI213 := gU_0_12 hI200 u214 (by omega) (by omega)
                  refine hw_aloadn (aX11_compile 85 rfl) rfl ?_
                  refine hw_get (v := .int (x151)) (aX11_compile 86 rfl) wf_RX11_253 (c0 hS118) (s0 hS118) (by decide) (congrArg Value.int (show FI213 0 12 = x151 from up_eq u214)) ?_
                  refine xw_iret (aX11_compile 87 rfl) rfl rfl ?_
                  exact ⟨x151, rfl, n114, sl115, SH116, FI213, FLv121, FR208, rfl, ex150, hS118, hI216, (gf_f (gf_tr (ex_shd ex150) fr128 f201 rfl rfl rfl) u214 (by decide)), fr129, (gf_f fr130 u209 (by decide)), hF211, hR212, (by omega), (by omega), (by omega), (by have := congrArg Int32.toInt (show FI213 0 9 = (0 : Int32) from (up_k u214 (by decide) ((gf_at f201 (c0 hS118) (shd_f (by decide) (s0 hS118)) rfl (kp136))))); have := ((by decide : (0 : Int32).toInt = 0) : ((0 : Int32)).toInt = 0); omega), (by exact ⟨gp123, gw124, gs125, hT215, hk127, trivial⟩), (by have hq3 := congrArg Int32.toInt (show FI213 0 12 = x151 from up_eq u214); exact gV_new (FR := FRv122) (cn := (FIv120 110 3).toInt) hR133 hS118 xi71_0 (fun i hi => xi71_2 (by omega) i (by omega)) ((up_eq u209).trans (show FRv122 110 2 = some (pv) from h185).symm) (fun c k hc => up_c u209 (by omega) rfl) (by omega))⟩
                · refine hw_ic (v := ((-1) : Int32)) (aX11_compile 73 rfl) (by decide) ?_
                  refine xw_iret (aX11_compile 74 rfl) rfl rfl ?_
                  have e217 : (((-1) : Int32)).toInt = (-1) := (by decide : ((-1) : Int32).toInt = (-1))
                  exact ⟨((-1) : Int32), rfl, n114, sl115, SH116, FI199, FLv121, FRv122, rfl, ex150, hS118, hI200, (gf_tr (ex_shd ex150) fr128 f201 rfl rfl rfl), fr129, fr130, hF132, hR133, (by have : (((-1) : Int32)).toInt = (-1) := (by decide); omega), (by have : (((-1) : Int32)).toInt = (-1) := (by decide); omega), (by have : (((-1) : Int32)).toInt = (-1) := (by decide); omega), (by have : (((-1) : Int32)).toInt = (-1) := (by decide); have := congrArg Int32.toInt (show FI199 0 9 = (0 : Int32) from (gf_at f201 (c0 hS118) (shd_f (by decide) (s0 hS118)) rfl (kp136))); have := ((by decide : (0 : Int32).toInt = 0) : ((0 : Int32)).toInt = 0); omega), (by exact ⟨gp123, gw124, gs125, hT206, hk127, trivial⟩), (by exact gV_old (L := [(0, 11), (110, 2), (111, 5)]) (A := []) (T := [1104, 1105]) hS hR ex150 gg1 ((show FI199 0 12 = x4 from (gf_at f201 (c0 hS118) (shd_f (by decide) (s0 hS118)) rfl (kp134))).trans (h5).symm) ((show FRv122 0 11 = o7 from kp135).trans (h8).symm) xi71_1 fr130 (by decide))⟩
              · refine hw_aloadn (aX11_compile 43 rfl) rfl ?_
                refine hw_get (v := .ref (base + 110)) (aX11_compile 44 rfl) wf_RX11_58 (c0 hS118) (s0 hS118) (by decide) (congrArg (fun r => va_rf (h_rf base r)) (r0_3 hF132)) ?_
                refine hw_get (v := .ref (base + pv)) (aX11_compile 45 rfl) wf_RX11_245 (c110 hS118) (s110 hS118) (by decide) (congrArg (fun r => va_rf (h_rf base r)) (show FRv122 110 2 = some pv from h185)) ?_
                refine xw_iload (aX11_compile 46 rfl) rfl ?_
                obtain ⟨r218, h219, h220, h221, h222⟩ := h189 (y4).toNatClampNeg (by have := i_cn (x := y4) (by omega); have := congrArg Int32.toInt (show FIv120 110 3 = x151 from h152); omega)
                obtain ⟨lt223, ow224, sh225⟩ := gR_get hR133 lt191 ow192 h186 h219
                have sh226 : SH116 r218 = (10, (SH116 r218).2) := sh225
                refine hw_aald (k := 4) (v := some (r218)) (aX11_compile 47 rfl) lt191 h186 (by decide) (by decide) (h_in rfl (by omega) (by omega)) (show FRv122 pv (y4).toNatClampNeg = some (r218) from h219) ?_
                refine hw_astore (L2 := [(5, .ref (base + r218)), (4, .int (y4)), (3, .int (y3)), (2, .int (y2_119)), (0, .ref (base + 0))]) (aX11_compile 48 rfl) (by decide) rfl ?_
                obtain ⟨⟨r227, h231, hz235⟩, ⟨r228, h232, hz236⟩, ⟨r229, h233, hz237⟩, ⟨r230, h234⟩⟩ := h222
                obtain ⟨lt239, ow240, sh241⟩ := gR_get hR133 lt223 ow224 sh226 h231
                obtain ⟨lt242, ow243, sh244⟩ := gR_get hR133 lt223 ow224 sh226 h232
                obtain ⟨lt245, ow246, sh247⟩ := gR_get hR133 lt223 ow224 sh226 h233
                obtain ⟨lt248, ow249, sh250⟩ := gR_get hR133 lt223 ow224 sh226 h234
                refine hw_aload (aX11_compile 49 rfl) rfl ?_
                refine hw_aloadn (aX11_compile 50 rfl) rfl ?_
                refine hw_get (v := .ref (base + 119)) (aX11_compile 51 rfl) wf_RX11_65 (c0 hS118) (s0 hS118) (by decide) (congrArg (fun r => va_rf (h_rf base r)) (r0_4 hF132)) ?_
                refine hw_aload (aX11_compile 52 rfl) rfl ?_
                refine hw_callV (Bs := [.ref (base + r218)]) (rest := [.ref (base + r218)]) (aX11_compile 53 rfl) wc_RX11_246 (by decide) rfl wi_yX0_code wv_yX0_code (c119 hS118) (s119 hS118) rfl rfl rfl (Nat.le_of_ble_eq_true rfl) (Nat.le_of_ble_eq_true rfl) (k_X0_code (d := d) hS118 hF132 hI131 hR133 (r218) lt223 sh226 ow224 (gp123) (gw124) (gs125) (hT126) ((show g_Vv SH116 FRv122 r218 from ⟨⟨_, h231, hz235⟩, ⟨_, h232, hz236⟩, ⟨_, h233, hz237⟩, ⟨_, h234⟩⟩))) (fun v251 sv252 p253 => ?_)
                obtain ⟨r254, rfl, n270, sl271, SH272, FI255, FL256, FR257, rfl, ex273, hS274, hI258, f259, f260, f261, hF262, hR263, t264, t265, t266, u267, ht268, hfr275⟩ := p253
                obtain ⟨gp276, gw277, gs278, hT279, hkp280, hq281⟩ := u267
                have hk282 : ∀ c, c < n → gp276 c = gp c ∧ gw277 c = gw c ∧ gs278 c = gs c := fun c hc => by obtain ⟨k1, k2, k3⟩ := hk127 c hc; obtain ⟨m1, m2, m3⟩ := hkp280 c (Nat.lt_of_lt_of_le hc (ex150).1); exact ⟨m1.trans k1, m2.trans k2, m3.trans k3⟩
                have lt283 := ex_lt ex273 lt191
                have sh284 := ex_sh ex273 lt191 h186
                have lt285 := ex_lt ex273 lt223
                have sh286 := ex_sh ex273 lt223 sh226
                have lt287 := ex_lt ex273 lt239
                have sh288 := ex_sh ex273 lt239 hz235
                have lt289 := ex_lt ex273 lt242
                have sh290 := ex_sh ex273 lt242 hz236
                have lt291 := ex_lt ex273 lt245
                have sh292 := ex_sh ex273 lt245 hz237
                have lt293 := ex_lt ex273 lt248
                have sh294 := ex_sh ex273 lt248 sh250
                have ht295 := ex_ty ex273 ht148
                have ex296 := ex_tr ex149 ex273
                have ex297 := ex_tr ex117 ex273
                have ex298 := ex_tr ex150 ex273
                show hw sk base _ _ _ _ _ [va_rf (h_rf base (r254)), .ref (base + r218)] _ _
                have pw299 : g_PV n SH272 FR257 (FI255 110 3).toInt := by rw [show FI255 110 3 = x151 from (gf_at f259 (c110 hS118) (shd_f (by decide) (s110 hS118)) rfl (h152)), ← (show FIv120 110 3 = x151 from h152)]; exact gPV_gr hS118 hR133 ex273 f261 xi71_0
                have ol300 : ∀ c9 k9, c9 < n → (SH c9).1 = 104 → 176 ≤ c9 → FR257 c9 k9 = FR c9 k9 := fun c9 k9 h1 h2 h3 => (f261 c9 k9 (ex_lt ex150 h1) (by simp) (by simp) (by simp)).trans (xi71_1 c9 k9 h1 h2 h3)
                have cdd301 := fun h => gCD_gr hS118 hR133 f261 (xi71_2 h)
                refine hv_putr (r := r254) (aX11_compile 54 rfl) wf_RX11_250 lt285 sh286 (by decide) (by first | exact Or.inl ⟨_, rfl⟩ | exact Or.inr ⟨_, rfl⟩) (Or.inl rfl) (fun FR302 u303 => ?_)
                have hT304 : g_T n270 SH272 FI255 FR302 gp276 gw277 gs278 := gT_wo hT279 (tag_ne sh286 (by decide)) (tag_ne sh286 (by decide)) u303
                have hF305 : h_FR FR302 := hF_up hS274 hF262 u303 sh286 (by decide +kernel)
                have hR306 : g_R n270 SH272 FR302 := gR_up hR263 u303 sh286 (fun r e => by obtain ⟨a, b, c⟩ := ht268 r e; exact ⟨a, b, by rw [c]; rfl⟩) (fun _ r e => (fun r e => Nat.le_trans hS118.1 (hfr275 r e)) r e) (fun h => absurd h (by unfold g_nn; have z : ∀ q, q = 0 ∨ q = 110 ∨ q = 111 ∨ q = 26 ∨ q = 43 → (SH272 q).1 ≠ 10 := (fun q hq => by rcases hq with rfl | rfl | rfl | rfl | rfl; { rw [s0 hS274]; decide }; { rw [s110 hS274]; decide }; { rw [s111 hS274]; decide }; { rw [s26 hS274]; decide }; { rw [s43 hS274]; decide }); have z2 := z r218; rw [sh286] at z2; omega)) (fun h => absurd h.1 (ne_tag sh286 (s49 hS274) (by decide)))
                have pw307 := gPV_cd hS274 (show (SH272 r218).1 = 10 from congrArg Prod.fst sh286) u303 pw299
                have ol308 : ∀ c9 k9, c9 < n → (SH c9).1 = 104 → 176 ≤ c9 → FR302 c9 k9 = FR c9 k9 := fun c9 k9 h1 h2 h3 => up_c u303 (Nat.ne_of_lt (Nat.lt_of_lt_of_le h1 h220)) (ol300 c9 k9 h1 h2 h3)
                refine hw_aload (aX11_compile 55 rfl) rfl ?_
                refine hw_get (v := va_rf (h_rf base (r254))) (aX11_compile 56 rfl) wf_RX11_250 lt285 sh286 (by decide) (congrArg (fun r => va_rf (h_rf base r)) (show FR302 r218 6 = r254 from up_eq u303)) ?_
                refine xw_ifnonnull (v := h_rf base r254) (tgt := 130) (aX11_compile 57 rfl) (by decide) (fun hn309 => ?_) (fun hn309 => ?_)
                · obtain ⟨r310, rfl⟩ := h_rf_s hn309
                  obtain ⟨lt311, ow312, sh313⟩ := ht268 r310 rfl
                  show hw sk base _ _ _ _ [(5, .ref (base + r218)), (4, .int (y4)), (3, .int (y3)), (2, .int (y2_119)), (0, .ref (base + 0))] [] _ _
                  obtain ⟨x314, q316⟩ : ∃ y : Int32, (y4) + Int32.ofInt (1) = y := ⟨_, rfl⟩
                  have e315 : (x314).toInt = (y4).toInt + (1) := by rw [← q316]; exact i_add rfl (by decide) (by omega) (by omega)
                  refine xw_iinc (L2 := [(4, .int (x314)), (5, .ref (base + r218)), (3, .int (y3)), (2, .int (y2_119)), (0, .ref (base + 0))]) (aX11_compile 63 rfl) rfl (by decide) (by rw [q316]; rfl) ?_
                  refine xw_goto (tgt := 71) (aX11_compile 64 rfl) (by decide) ?_
                  exact hw_L (ih71 (x314) (y3) (y2_119) FI255 FL256 FR302 n270 sl271 SH272 gp276 gw277 gs278 ex297 hS274 hT304 hk282 (gf_tr (ex_shd ex150) fr128 f259 rfl rfl rfl) (gf_tr (ex_shd ex150) fr129 f260 rfl rfl rfl) (gf_n (gf_tr (ex_shd ex150) fr130 f261 rfl rfl rfl) u303 h220) hI258 hF305 hR306 (show FI255 0 12 = x4 from (gf_at f259 (c0 hS118) (shd_f (by decide) (s0 hS118)) rfl (kp134))) (show FR302 0 11 = o7 from (up_c u303 (ne_tag (s0 hS274) sh286 (by decide)) ((gf_at f261 (c0 hS118) (shd_f (by decide) (s0 hS118)) rfl (kp135))))) (show FI255 0 9 = (0 : Int32) from (gf_at f259 (c0 hS118) (shd_f (by decide) (s0 hS118)) rfl (kp136))) (show FI255 111 4 = x60 from (gf_at f259 (c111 hS118) (shd_f (by decide) (s111 hS118)) rfl (kp137))) (show FI255 110 7 = x102 from (gf_at f259 (c110 hS118) (shd_f (by decide) (s110 hS118)) rfl (kp138))) (show FI255 110 5 = x105 from (gf_at f259 (c110 hS118) (shd_f (by decide) (s110 hS118)) rfl (kp139))) (show FI255 110 8 = x107 from (gf_at f259 (c110 hS118) (shd_f (by decide) (s110 hS118)) rfl (kp140))) (show FI255 110 4 = x109 from (gf_at f259 (c110 hS118) (shd_f (by decide) (s110 hS118)) rfl (kp141))) (show FI255 110 6 = x112 from (gf_at f259 (c110 hS118) (shd_f (by decide) (s110 hS118)) rfl (kp142))) (by have := (e315 : (x314).toInt = (y4).toInt + (1)); omega) (by have := (e315 : (x314).toInt = (y4).toInt + (1)); omega) (by have := (e315 : (x314).toInt = (y4).toInt + (1)); omega) (by have := (e315 : (x314).toInt = (y4).toInt + (1)); omega) (show g_PV n SH272 FR302 (FI255 110 3).toInt from (by have := (e315 : (x314).toInt = (y4).toInt + (1)); exact pw307)) (show ∀ c9 k9, c9 < n → (SH c9).1 = 104 → 176 ≤ c9 → FR302 c9 k9 = FR c9 k9 from (by have := (e315 : (x314).toInt = (y4).toInt + (1)); exact ol308)) (show (y2_119).toInt = 0 → g_CD FR302 (x314).toInt from (by have := (e315 : (x314).toInt = (y4).toInt + (1)); exact (fun h => by have hq := gCD_cd hS274 (show (SH272 r218).1 = 10 from congrArg Prod.fst sh286) (show (SH272 pv).1 = 104 from congrArg Prod.fst sh284) (show _ = some pv from (gf_at f261 (c110 hS118) (shd_f (by decide) (s110 hS118)) rfl (h185))) (show _ = some r218 from (gf_at f261 lt191 (shd_d h187 h186) rfl (h219))) (i_cn (x := y4) (by omega)) u303 (cdd301 h); intro i9 hi9; exact hq i9 (by omega)))) (by have := (e315 : (x314).toInt = (y4).toInt + (1)); omega)) ⟨rfl, rfl, rfl, rfl, trivial⟩
                · obtain rfl := h_rf_n hn309
                  show hw sk base _ _ _ _ [(5, .ref (base + r218)), (4, .int (y4)), (3, .int (y3)), (2, .int (y2_119)), (0, .ref (base + 0))] [] _ _
                  refine hw_bp (v := (7 : Int32)) (aX11_compile 58 rfl) (by decide) ?_
                  refine xw_istoren (L2 := [(2, .int ((7 : Int32))), (5, .ref (base + r218)), (4, .int (y4)), (3, .int (y3)), (0, .ref (base + 0))]) (aX11_compile 59 rfl) (by decide) rfl ?_
                  refine hw_aload (aX11_compile 60 rfl) rfl ?_
                  obtain ⟨x317, h318⟩ : ∃ y, FI255 r218 1 = y := ⟨_, rfl⟩
                  have h318l := congrArg Int32.toInt h318
                  have := i_rng x317
                  refine hw_get (v := .int (x317)) (aX11_compile 61 rfl) wf_RX11_252 lt285 sh286 (by decide) (congrArg Value.int (show FI255 r218 1 = x317 from h318)) ?_
                  refine xw_istoren (L2 := [(3, .int (x317)), (2, .int ((7 : Int32))), (5, .ref (base + r218)), (4, .int (y4)), (0, .ref (base + 0))]) (aX11_compile 62 rfl) (by decide) rfl ?_
                  obtain ⟨x319, q321⟩ : ∃ y : Int32, (y4) + Int32.ofInt (1) = y := ⟨_, rfl⟩
                  have e320 : (x319).toInt = (y4).toInt + (1) := by rw [← q321]; exact i_add rfl (by decide) (by omega) (by omega)
                  refine xw_iinc (L2 := [(4, .int (x319)), (3, .int (x317)), (2, .int ((7 : Int32))), (5, .ref (base + r218)), (0, .ref (base + 0))]) (aX11_compile 63 rfl) rfl (by decide) (by rw [q321]; rfl) ?_
                  refine xw_goto (tgt := 71) (aX11_compile 64 rfl) (by decide) ?_
                  exact hw_L (ih71 (x319) (x317) ((7 : Int32)) FI255 FL256 FR302 n270 sl271 SH272 gp276 gw277 gs278 ex297 hS274 hT304 hk282 (gf_tr (ex_shd ex150) fr128 f259 rfl rfl rfl) (gf_tr (ex_shd ex150) fr129 f260 rfl rfl rfl) (gf_n (gf_tr (ex_shd ex150) fr130 f261 rfl rfl rfl) u303 h220) hI258 hF305 hR306 (show FI255 0 12 = x4 from (gf_at f259 (c0 hS118) (shd_f (by decide) (s0 hS118)) rfl (kp134))) (show FR302 0 11 = o7 from (up_c u303 (ne_tag (s0 hS274) sh286 (by decide)) ((gf_at f261 (c0 hS118) (shd_f (by decide) (s0 hS118)) rfl (kp135))))) (show FI255 0 9 = (0 : Int32) from (gf_at f259 (c0 hS118) (shd_f (by decide) (s0 hS118)) rfl (kp136))) (show FI255 111 4 = x60 from (gf_at f259 (c111 hS118) (shd_f (by decide) (s111 hS118)) rfl (kp137))) (show FI255 110 7 = x102 from (gf_at f259 (c110 hS118) (shd_f (by decide) (s110 hS118)) rfl (kp138))) (show FI255 110 5 = x105 from (gf_at f259 (c110 hS118) (shd_f (by decide) (s110 hS118)) rfl (kp139))) (show FI255 110 8 = x107 from (gf_at f259 (c110 hS118) (shd_f (by decide) (s110 hS118)) rfl (kp140))) (show FI255 110 4 = x109 from (gf_at f259 (c110 hS118) (shd_f (by decide) (s110 hS118)) rfl (kp141))) (show FI255 110 6 = x112 from (gf_at f259 (c110 hS118) (shd_f (by decide) (s110 hS118)) rfl (kp142))) (by have := (e320 : (x319).toInt = (y4).toInt + (1)); have := ((by decide : (7 : Int32).toInt = 7) : ((7 : Int32)).toInt = 7); omega) (by have := (e320 : (x319).toInt = (y4).toInt + (1)); have := ((by decide : (7 : Int32).toInt = 7) : ((7 : Int32)).toInt = 7); omega) (by have := (e320 : (x319).toInt = (y4).toInt + (1)); have := ((by decide : (7 : Int32).toInt = 7) : ((7 : Int32)).toInt = 7); omega) (by have := (e320 : (x319).toInt = (y4).toInt + (1)); have := ((by decide : (7 : Int32).toInt = 7) : ((7 : Int32)).toInt = 7); omega) (show g_PV n SH272 FR302 (FI255 110 3).toInt from (by have := (e320 : (x319).toInt = (y4).toInt + (1)); have := ((by decide : (7 : Int32).toInt = 7) : ((7 : Int32)).toInt = 7); exact pw307)) (show ∀ c9 k9, c9 < n → (SH c9).1 = 104 → 176 ≤ c9 → FR302 c9 k9 = FR c9 k9 from (by have := (e320 : (x319).toInt = (y4).toInt + (1)); have := ((by decide : (7 : Int32).toInt = 7) : ((7 : Int32)).toInt = 7); exact ol308)) (show 7 = 0 → g_CD FR302 (x319).toInt from (by have := (e320 : (x319).toInt = (y4).toInt + (1)); have := ((by decide : (7 : Int32).toInt = 7) : ((7 : Int32)).toInt = 7); exact (fun h => absurd h (by decide)))) (by have := (e320 : (x319).toInt = (y4).toInt + (1)); have := ((by decide : (7 : Int32).toInt = 7) : ((7 : Int32)).toInt = 7); omega)) ⟨rfl, rfl, rfl, rfl, trivial⟩
        exact hw_L (lp147 ((13 - 0 : Int).toNat + 1) ((0 : Int32)) (x112) (x105) FIv71 FLv72 FRv73 n66 sl67 SH68 gp74 gw75 gs76 ex_rf hS70 hT77 hk78 fr79 fr80 fr81 hI82 hF83 hR84 (show FIv71 0 12 = x4 from kp85) (show FRv73 0 11 = o7 from kp86) (show FIv71 0 9 = (0 : Int32) from kp87) (show FIv71 111 4 = x60 from kp88) (show FIv71 110 7 = x102 from h103) (show FIv71 110 5 = x105 from h106) (show FIv71 110 8 = x107 from h108) (show FIv71 110 4 = x109 from h110) (show FIv71 110 6 = x112 from h113) (by have := ((by decide : (0 : Int32).toInt = 0) : ((0 : Int32)).toInt = 0); omega) (by have := ((by decide : (0 : Int32).toInt = 0) : ((0 : Int32)).toInt = 0); omega) (by have := ((by decide : (0 : Int32).toInt = 0) : ((0 : Int32)).toInt = 0); omega) (by have := ((by decide : (0 : Int32).toInt = 0) : ((0 : Int32)).toInt = 0); omega) (show g_PV n SH68 FRv73 (FIv71 110 3).toInt from (by have := ((by decide : (0 : Int32).toInt = 0) : ((0 : Int32)).toInt = 0); exact xi24_1)) (show ∀ c9 k9, c9 < n → (SH c9).1 = 104 → 176 ≤ c9 → FRv73 c9 k9 = FR c9 k9 from (by have := ((by decide : (0 : Int32).toInt = 0) : ((0 : Int32)).toInt = 0); exact xi24_2)) (show (x105).toInt = 0 → g_CD FRv73 0 from (by have := ((by decide : (0 : Int32).toInt = 0) : ((0 : Int32)).toInt = 0); exact (fun h i hi => absurd hi (by have : ((0 : Int32)).toInt = 0 := (by decide); omega)))) (by have := ((by decide : (0 : Int32).toInt = 0) : ((0 : Int32)).toInt = 0); omega)) ⟨rfl, rfl, rfl, rfl, trivial⟩
      · refine hw_aloadn (aX11_compile 17 rfl) rfl ?_
        refine hw_get (v := .ref (base + 110)) (aX11_compile 18 rfl) wf_RX11_58 (c0 hS70) (s0 hS70) (by decide) (congrArg (fun r => va_rf (h_rf base r)) (r0_3 hF83)) ?_
        refine hw_callV (Bs := []) (rest := []) (aX11_compile 19 rfl) wc_RX11_232 (by decide) rfl wi_yX4_goesOn wv_yX4_goesOn (c110 hS70) (s110 hS70) rfl rfl rfl (Nat.le_of_ble_eq_true rfl) (Nat.le_of_ble_eq_true rfl) (k_goesOn2 (d := d + 251) hS70 hF83 hI82 hR84 ) (fun v322 sv323 p324 => ?_)
        have := congrArg Int32.toInt (show FIv71 110 5 = x105 from h106)
        obtain ⟨r325, rfl, rfl, t329, t330⟩ := p324
        show hw sk base _ _ _ _ _ [.int (r325)] _ _
        refine hw_ifeq (tgt := 52) (aX11_compile 20 rfl) (by decide) rfl (fun cd333 => ?_) (fun cd333 => ?_)
        · clear t329
          refine hw_aloadn (aX11_compile 26 rfl) rfl ?_
          refine hw_get (v := .ref (base + 110)) (aX11_compile 27 rfl) wf_RX11_58 (c0 hS70) (s0 hS70) (by decide) (congrArg (fun r => va_rf (h_rf base r)) (r0_3 hF83)) ?_
          refine hw_get (v := .int (x105)) (aX11_compile 28 rfl) wf_RX11_239 (c110 hS70) (s110 hS70) (by decide) (congrArg Value.int (show FIv71 110 5 = x105 from h106)) ?_
          refine xw_istoren (L2 := [(2, .int (x105)), (1, .int (x1)), (0, .ref (base + 0))]) (aX11_compile 29 rfl) (by decide) rfl ?_
          refine hw_aloadn (aX11_compile 30 rfl) rfl ?_
          refine hw_get (v := .ref (base + 110)) (aX11_compile 31 rfl) wf_RX11_58 (c0 hS70) (s0 hS70) (by decide) (congrArg (fun r => va_rf (h_rf base r)) (r0_3 hF83)) ?_
          obtain ⟨x334, h335⟩ : ∃ y, FIv71 110 6 = y := ⟨_, rfl⟩
          have h335l := congrArg Int32.toInt h335
          have := i_rng x334
          refine hw_get (v := .int (x334)) (aX11_compile 32 rfl) wf_RX11_242 (c110 hS70) (s110 hS70) (by decide) (congrArg Value.int (show FIv71 110 6 = x334 from h335)) ?_
          refine xw_istoren (L2 := [(3, .int (x334)), (2, .int (x105)), (1, .int (x1)), (0, .ref (base + 0))]) (aX11_compile 33 rfl) (by decide) rfl ?_
          refine hw_ic (v := (0 : Int32)) (aX11_compile 34 rfl) (by decide) ?_
          refine xw_istore (L2 := [(4, .int ((0 : Int32))), (3, .int (x334)), (2, .int (x105)), (1, .int (x1)), (0, .ref (base + 0))]) (aX11_compile 35 rfl) (by decide) rfl ?_
          have lp369 : ∀ (m : Nat) (y4 : Int32) (y3 : Int32) (y2_341 : Int32) (FIv342 : Nat → Nat → Int32) (FLv343 : Nat → Nat → Int64) (FRv344 : Nat → Nat → Option Nat) (n336 sl337 : Nat) (SH338 : Nat → Nat × Nat) (gp345 gw346 gs347 : Nat → Nat), (g_ex n66 SH68 n336 SH338) → (h_S n336 SH338) → (g_T n336 SH338 FIv342 FRv344 gp345 gw346 gs347) → (∀ c, c < n → gp345 c = gp c ∧ gw346 c = gw c ∧ gs347 c = gs c) → (g_fr n (shd SH) [(0, 9), (0, 12), (110, 3), (110, 4), (110, 5), (110, 6), (110, 7), (110, 8), (111, 4), (111, 6), (111, 7), (111, 8), (111, 9), (119, 1)] [21, 112, 114, 115, 117, 120] [1006, 1010] FI FIv342) → (g_fr n (shd SH) [(110, 9), (111, 10)] [113] [1101] FL FLv343) → (g_fr n (shd SH) [(0, 11), (110, 2), (111, 5)] [] [1104, 1105] FR FRv344) → (g_I FIv342) → (h_FR FRv344) → (g_R n336 SH338 FRv344) → (FIv342 0 12 = x4) → (FRv344 0 11 = o7) → (FIv342 0 9 = (0 : Int32)) → (FIv342 111 4 = x60) → (FIv342 110 7 = x102) → (FIv342 110 5 = x105) → (FIv342 110 8 = x107) → (FIv342 110 4 = x109) → (FIv342 110 6 = x334) → (0 ≤ (y4).toInt ∧ (y4).toInt ≤ 12) → ((n336 : Int) ≤ n + 32 * (FI 0 9).toInt + 60 + (y4).toInt) → ((sl337 : Int) ≤ sl + 300 * (FI 0 9).toInt + 700 + 600 * (y4).toInt) → ((n : Int) ≤ n336) → (g_PV n SH338 FRv344 (FIv342 110 3).toInt) → (∀ c9 k9, c9 < n → (SH c9).1 = 104 → 176 ≤ c9 → FRv344 c9 k9 = FR c9 k9) → ((y2_341).toInt = 0 → g_CD FRv344 (y4).toInt) → 13 - (y4).toInt < m → hw sk base (d + 252) none 146 71 [(4, .int (y4)), (3, .int (y3)), (2, .int (y2_341)), (0, .ref (base + 0))] [] (n336, sl337, SH338, FIv342, FLv343, FRv344) (h_I (fun r s => ∃ n' sl' SH' FI' FL' FR', s = (n', sl', SH', FI', FL', FR') ∧ g_ex n SH n' SH' ∧ h_S n' SH' ∧ g_I FI' ∧ g_fr n (shd SH) [(0, 9), (0, 12), (110, 3), (110, 4), (110, 5), (110, 6), (110, 7), (110, 8), (111, 4), (111, 6), (111, 7), (111, 8), (111, 9), (119, 1)] [21, 112, 114, 115, 117, 120] [1006, 1010] FI FI' ∧ g_fr n (shd SH) [(110, 9), (111, 10)] [113] [1101] FL FL' ∧ g_fr n (shd SH) [(0, 11), (110, 2), (111, 5)] [] [1104, 1105] FR FR' ∧ h_FR FR' ∧ g_R n' SH' FR' ∧ ((n' : Int) ≤ n + 32 * (FI 0 9).toInt + 80) ∧ ((sl' : Int) ≤ sl + 300 * (FI 0 9).toInt + 8000) ∧ ((n : Int) ≤ n') ∧ ((FI' 0 9).toInt = 0) ∧ (∃ gp2 gw2 gs2, g_T n' SH' FI' FR' gp2 gw2 gs2 ∧ (∀ c, c < n → gp2 c = gp c ∧ gw2 c = gw c ∧ gs2 c = gs c) ∧ True) ∧ (g_V SH' FI' FR'))) := by
            intro m
            induction m with
            | zero => intro y4 y3 y2_341 FIv342 FLv343 FRv344 n336 sl337 SH338 gp345 gw346 gs347 ex339 hS340 hT348 hk349 fr350 fr351 fr352 hI353 hF354 hR355 kp356 kp357 kp358 kp359 kp360 kp361 kp362 kp363 kp364 iv365 iv366 iv367 iv368 xi71_0 xi71_1 xi71_2 hm; omega
            | succ m ih71 =>
              intro y4 y3 y2_341 FIv342 FLv343 FRv344 n336 sl337 SH338 gp345 gw346 gs347 ex339 hS340 hT348 hk349 fr350 fr351 fr352 hI353 hF354 hR355 kp356 kp357 kp358 kp359 kp360 kp361 kp362 kp363 kp364 iv365 iv366 iv367 iv368 xi71_0 xi71_1 xi71_2 hm
              have rg_y4 := i_rng y4
              have rg_y3 := i_rng y3
              have rg_y2_341 := i_rng y2_341
              have := congrArg Int32.toInt kp356
              have := congrArg Int32.toInt kp358
              have := congrArg Int32.toInt kp359
              have := congrArg Int32.toInt kp360
              have := congrArg Int32.toInt kp361
              have := congrArg Int32.toInt kp362
              have := congrArg Int32.toInt kp363
              have := congrArg Int32.toInt kp364
              have ht370 := ex_ty ex339 ht100
              have ex371 := ex_tr ex69 ex339
              have ex372 := ex_tr ex101 ex339
              refine xw_iload (aX11_compile 36 rfl) rfl ?_
              refine hw_aloadn (aX11_compile 37 rfl) rfl ?_
              refine hw_get (v := .ref (base + 110)) (aX11_compile 38 rfl) wf_RX11_58 (c0 hS340) (s0 hS340) (by decide) (congrArg (fun r => va_rf (h_rf base r)) (r0_3 hF354)) ?_
              obtain ⟨x373, h374⟩ : ∃ y, FIv342 110 3 = y := ⟨_, rfl⟩
              have h374l := congrArg Int32.toInt h374
              have b375 := gI_110_3 hI353; rw [h374] at b375
              refine hw_get (v := .int (x373)) (aX11_compile 39 rfl) wf_RX11_243 (c110 hS340) (s110 hS340) (by decide) (congrArg Value.int (show FIv342 110 3 = x373 from h374)) ?_
              refine hw_icge (tgt := 136) (aX11_compile 40 rfl) (by decide) rfl rfl (fun cd376 => ?_) (fun cd376 => ?_)
              · refine hw_aloadn (aX11_compile 65 rfl) rfl ?_
                refine xw_iloadn (aX11_compile 66 rfl) rfl ?_
                refine xw_iloadn (aX11_compile 67 rfl) rfl ?_
                refine hw_ic (v := (0 : Int32)) (aX11_compile 68 rfl) (by decide) ?_
                refine hw_ic (v := (0 : Int32)) (aX11_compile 69 rfl) (by decide) ?_
                refine hw_callV (Bs := [.int (y2_341), .int (y3), .int ((0 : Int32)), .int ((0 : Int32))]) (rest := []) (aX11_compile 70 rfl) wc_RX11_159 (by decide) rfl wi_yX11_tell wv_yX11_tell (c0 hS340) (s0 hS340) rfl rfl rfl (Nat.le_of_ble_eq_true rfl) (Nat.le_of_ble_eq_true rfl) (k_X11_tell (d := d + 251) hS340 hF354 hI353 hR355 (y2_341) (y3) ((0 : Int32)) ((0 : Int32)) ) (fun v377 sv378 p379 => ?_)
                obtain ⟨rfl, FI381, rfl, hI382, f383⟩ := p379
                have hT388 : g_T n336 SH338 FI381 FRv344 gp345 gw346 gs347 := gT_mw (L := []) (A := [21]) (T := []) (L2 := []) (A2 := []) (T2 := []) hS340 hT348 f383 gf_rf (by decide) (by decide)
                show hw sk base _ _ _ _ _ [] _ _
                refine xw_iloadn (aX11_compile 71 rfl) rfl ?_
                refine hw_ifeq (tgt := 150) (aX11_compile 72 rfl) (by decide) rfl (fun cd389 => ?_) (fun cd389 => ?_)
                · refine hw_aloadn (aX11_compile 75 rfl) rfl ?_
                  refine hw_aloadn (aX11_compile 76 rfl) rfl ?_
                  refine hw_get (v := .ref (base + 110)) (aX11_compile 77 rfl) wf_RX11_58 (c0 hS340) (s0 hS340) (by decide) (congrArg (fun r => va_rf (h_rf base r)) (r0_3 hF354)) ?_
                  obtain ⟨o390, h391⟩ : ∃ y, FRv344 110 2 = y := ⟨_, rfl⟩
                  have ht392 : ∀ r, o390 = some r → r < n336 ∧ own r ∧ SH338 r = (104, (SH338 r).2) := fun r e => gR_get hR355 (c110 hS340) (Or.inl (by decide)) (s110 hS340) (h391.trans e)
                  obtain ⟨r393, rfl⟩ := gR_nn hR355 (by unfold g_nn; omega) h391
                  obtain ⟨lt394, ow395, sh396⟩ := ht392 r393 rfl
                  refine hw_get (v := .ref (base + r393)) (aX11_compile 78 rfl) wf_RX11_245 (c110 hS340) (s110 hS340) (by decide) (congrArg (fun r => va_rf (h_rf base r)) (show FRv344 110 2 = some r393 from h391)) ?_
                  refine hv_putr (r := some (r393)) (aX11_compile 79 rfl) wf_RX11_28 (c0 hS340) (s0 hS340) (by decide) (by first | exact Or.inl ⟨_, rfl⟩ | exact Or.inr ⟨_, rfl⟩) (Or.inl rfl) (fun FR397 u398 => ?_)
                  have hT399 : g_T n336 SH338 FI381 FR397 gp345 gw346 gs347 := gT_wo hT388 (by rw [(s0 hS340)]; decide) (by rw [(s0 hS340)]; decide) u398
                  have hF400 : h_FR FR397 := hF_up hS340 hF354 u398 (s0 hS340) (by decide +kernel)
                  have hR401 : g_R n336 SH338 FR397 := gR_up hR355 u398 (s0 hS340) (fun r e => by cases e; exact ⟨lt394, ow395, by rw [sh396]; rfl⟩) (fun h => absurd h (by have := (by decide : 0 < 176); omega)) (fun _ => by simp) (fun h => absurd h.1 (by decide))
                  refine hw_aloadn (aX11_compile 80 rfl) rfl ?_
                  refine hw_aloadn (aX11_compile 81 rfl) rfl ?_
                  refine hw_get (v := .ref (base + 110)) (aX11_compile 82 rfl) wf_RX11_58 (c0 hS340) (s0 hS340) (by decide) (congrArg (fun r => va_rf (h_rf base r)) (r0_3 hF400)) ?_
                  refine hw_get (v := .int (x373)) (aX11_compile 83 rfl) wf_RX11_243 (c110 hS340) (s110 hS340) (by decide) (congrArg Value.int (show FI381 110 3 = x373 from (gf_at f383 (c110 hS340) (shd_f (by decide) (s110 hS340)) rfl (h374)))) ?_
                  refine hv_puti (aX11_compile 84 rfl) wf_RX11_253 (c0 hS340) (s0 hS340) (by decide) rfl rfl (fun FI402 u403 => ?_)
                  have hT404 : g_T n336 SH338 FI402 FR397 gp345 gw346 gs347 := gT_wi hT399 (fun h => absurd h (by rw [(s0 hS340)]; decide)) u403
                  have hI405 : g_I FI402 := gU_0_12 hI382 u403 (by omega) (by omega)
                  refine hw_aloadn (aX11_compile 85 rfl) rfl ?_
                  refine hw_get (v := .int (x373)) (aX11_compile 86 rfl) wf_RX11_253 (c0 hS340) (s0 hS340) (by decide) (congrArg Value.int (show FI402 0 12 = x373 from up_eq u403)) ?_
                  refine xw_iret (aX11_compile 87 rfl) rfl rfl ?_
                  exact ⟨x373, rfl, n336, sl337, SH338, FI402, FLv343, FR397, rfl, ex372, hS340, hI405, (gf_f (gf_tr (ex_shd ex372) fr350 f383 rfl rfl rfl) u403 (by decide)), fr351, (gf_f fr352 u398 (by decide)), hF400, hR401, (by omega), (by omega), (by omega), (by have := congrArg Int32.toInt (show FI402 0 9 = (0 : Int32) from (up_k u403 (by decide) ((gf_at f383 (c0 hS340) (shd_f (by decide) (s0 hS340)) rfl (kp358))))); have := ((by decide : (0 : Int32).toInt = 0) : ((0 : Int32)).toInt = 0); omega), (by exact ⟨gp345, gw346, gs347, hT404, hk349, trivial⟩), (by have hq3 := congrArg Int32.toInt (show FI402 0 12 = x373 from up_eq u403); exact gV_new (FR := FRv344) (cn := (FIv342 110 3).toInt) hR355 hS340 xi71_0 (fun i hi => xi71_2 (by omega) i (by omega)) ((up_eq u398).trans (show FRv344 110 2 = some (r393) from h391).symm) (fun c k hc => up_c u398 (by omega) rfl) (by omega))⟩
                · refine hw_ic (v := ((-1) : Int32)) (aX11_compile 73 rfl) (by decide) ?_
                  refine xw_iret (aX11_compile 74 rfl) rfl rfl ?_
                  have e406 : (((-1) : Int32)).toInt = (-1) := (by decide : ((-1) : Int32).toInt = (-1))
                  exact ⟨((-1) : Int32), rfl, n336, sl337, SH338, FI381, FLv343, FRv344, rfl, ex372, hS340, hI382, (gf_tr (ex_shd ex372) fr350 f383 rfl rfl rfl), fr351, fr352, hF354, hR355, (by have : (((-1) : Int32)).toInt = (-1) := (by decide); omega), (by have : (((-1) : Int32)).toInt = (-1) := (by decide); omega), (by have : (((-1) : Int32)).toInt = (-1) := (by decide); omega), (by have : (((-1) : Int32)).toInt = (-1) := (by decide); have := congrArg Int32.toInt (show FI381 0 9 = (0 : Int32) from (gf_at f383 (c0 hS340) (shd_f (by decide) (s0 hS340)) rfl (kp358))); have := ((by decide : (0 : Int32).toInt = 0) : ((0 : Int32)).toInt = 0); omega), (by exact ⟨gp345, gw346, gs347, hT388, hk349, trivial⟩), (by exact gV_old (L := [(0, 11), (110, 2), (111, 5)]) (A := []) (T := [1104, 1105]) hS hR ex372 gg1 ((show FI381 0 12 = x4 from (gf_at f383 (c0 hS340) (shd_f (by decide) (s0 hS340)) rfl (kp356))).trans (h5).symm) ((show FRv344 0 11 = o7 from kp357).trans (h8).symm) xi71_1 fr352 (by decide))⟩
              · have hPVd := xi71_0
                obtain ⟨pv, h407, h408, h409, h410, h411⟩ := hPVd
                obtain ⟨lt413, ow414, sh415⟩ := gR_get hR355 (c110 hS340) (Or.inl (by decide)) (s110 hS340) h407
                refine xw_iloadn (aX11_compile 41 rfl) rfl ?_
                refine hw_ifne (tgt := 136) (aX11_compile 42 rfl) (by decide) rfl (fun cd416 => ?_) (fun cd416 => ?_)
                · refine hw_aloadn (aX11_compile 65 rfl) rfl ?_
                  refine xw_iloadn (aX11_compile 66 rfl) rfl ?_
                  refine xw_iloadn (aX11_compile 67 rfl) rfl ?_
                  refine hw_ic (v := (0 : Int32)) (aX11_compile 68 rfl) (by decide) ?_
                  refine hw_ic (v := (0 : Int32)) (aX11_compile 69 rfl) (by decide) ?_
                  refine hw_callV (Bs := [.int (y2_341), .int (y3), .int ((0 : Int32)), .int ((0 : Int32))]) (rest := []) (aX11_compile 70 rfl) wc_RX11_159 (by decide) rfl wi_yX11_tell wv_yX11_tell (c0 hS340) (s0 hS340) rfl rfl rfl (Nat.le_of_ble_eq_true rfl) (Nat.le_of_ble_eq_true rfl) (k_X11_tell (d := d + 251) hS340 hF354 hI353 hR355 (y2_341) (y3) ((0 : Int32)) ((0 : Int32)) ) (fun v417 sv418 p419 => ?_)
                  obtain ⟨rfl, FI421, rfl, hI422, f423⟩ := p419
                  have hT428 : g_T n336 SH338 FI421 FRv344 gp345 gw346 gs347 := gT_mw (L := []) (A := [21]) (T := []) (L2 := []) (A2 := []) (T2 := []) hS340 hT348 f423 gf_rf (by decide) (by decide)
                  show hw sk base _ _ _ _ _ [] _ _
                  refine xw_iloadn (aX11_compile 71 rfl) rfl ?_
                  refine hw_ifeq (tgt := 150) (aX11_compile 72 rfl) (by decide) rfl (fun cd429 => ?_) (fun cd429 => ?_)
                  · refine hw_aloadn (aX11_compile 75 rfl) rfl ?_
                    refine hw_aloadn (aX11_compile 76 rfl) rfl ?_
                    refine hw_get (v := .ref (base + 110)) (aX11_compile 77 rfl) wf_RX11_58 (c0 hS340) (s0 hS340) (by decide) (congrArg (fun r => va_rf (h_rf base r)) (r0_3 hF354)) ?_
                    refine hw_get (v := .ref (base + pv)) (aX11_compile 78 rfl) wf_RX11_245 (c110 hS340) (s110 hS340) (by decide) (congrArg (fun r => va_rf (h_rf base r)) (show FRv344 110 2 = some pv from h407)) ?_
                    refine hv_putr (r := some (pv)) (aX11_compile 79 rfl) wf_RX11_28 (c0 hS340) (s0 hS340) (by decide) (by first | exact Or.inl ⟨_, rfl⟩ | exact Or.inr ⟨_, rfl⟩) (Or.inl rfl) (fun FR430 u431 => ?_)
                    have hT432 : g_T n336 SH338 FI421 FR430 gp345 gw346 gs347 := gT_wo hT428 (by rw [(s0 hS340)]; decide) (by rw [(s0 hS340)]; decide) u431
                    have hF433 : h_FR FR430 := hF_up hS340 hF354 u431 (s0 hS340) (by decide +kernel)
                    have hR434 : g_R n336 SH338 FR430 := gR_up hR355 u431 (s0 hS340) (fun r e => by cases e; exact ⟨lt413, ow414, by rw [h408]; rfl⟩) (fun h => absurd h (by have := (by decide : 0 < 176); omega)) (fun _ => by simp) (fun h => absurd h.1 (by decide))
                    refine hw_aloadn (aX11_compile 80 rfl) rfl ?_
                    refine hw_aloadn (aX11_compile 81 rfl) rfl ?_
                    refine hw_get (v := .ref (base + 110)) (aX11_compile 82 rfl) wf_RX11_58 (c0 hS340) (s0 hS340) (by decide) (congrArg (fun r => va_rf (h_rf base r)) (r0_3 hF433)) ?_
                    refine hw_get (v := .int (x373)) (aX11_compile 83 rfl) wf_RX11_243 (c110 hS340) (s110 hS340) (by decide) (congrArg Value.int (show FI421 110 3 = x373 from (gf_at f423 (c110 hS340) (shd_f (by decide) (s110 hS340)) rfl (h374)))) ?_
                    refine hv_puti (aX11_compile 84 rfl) wf_RX11_253 (c0 hS340) (s0 hS340) (by decide) rfl rfl (fun FI435 u436 => ?_)
                    have hT437 : g_T n336 SH338 FI435 FR430 gp345 gw346 gs347 := gT_wi hT432 (fun h => absurd h (by rw [(s0 hS340)]; decide)) u436
                    have hI438 : g_I FI435 := gU_0_12 hI422 u436 (by omega) (by omega)
                    refine hw_aloadn (aX11_compile 85 rfl) rfl ?_
                    refine hw_get (v := .int (x373)) (aX11_compile 86 rfl) wf_RX11_253 (c0 hS340) (s0 hS340) (by decide) (congrArg Value.int (show FI435 0 12 = x373 from up_eq u436)) ?_
                    refine xw_iret (aX11_compile 87 rfl) rfl rfl ?_
                    exact ⟨x373, rfl, n336, sl337, SH338, FI435, FLv343, FR430, rfl, ex372, hS340, hI438, (gf_f (gf_tr (ex_shd ex372) fr350 f423 rfl rfl rfl) u436 (by decide)), fr351, (gf_f fr352 u431 (by decide)), hF433, hR434, (by omega), (by omega), (by omega), (by have := congrArg Int32.toInt (show FI435 0 9 = (0 : Int32) from (up_k u436 (by decide) ((gf_at f423 (c0 hS340) (shd_f (by decide) (s0 hS340)) rfl (kp358))))); have := ((by decide : (0 : Int32).toInt = 0) : ((0 : Int32)).toInt = 0); omega), (by exact ⟨gp345, gw346, gs347, hT437, hk349, trivial⟩), (by have hq3 := congrArg Int32.toInt (show FI435 0 12 = x373 from up_eq u436); exact gV_new (FR := FRv344) (cn := (FIv342 110 3).toInt) hR355 hS340 xi71_0 (fun i hi => xi71_2 (by omega) i (by omega)) ((up_eq u431).trans (show FRv344 110 2 = some (pv) from h407).symm) (fun c k hc => up_c u431 (by omega) rfl) (by omega))⟩
                  · refine hw_ic (v := ((-1) : Int32)) (aX11_compile 73 rfl) (by decide) ?_
                    refine xw_iret (aX11_compile 74 rfl) rfl rfl ?_
                    have e439 : (((-1) : Int32)).toInt = (-1) := (by decide : ((-1) : Int32).toInt = (-1))
                    exact ⟨((-1) : Int32), rfl, n336, sl337, SH338, FI421, FLv343, FRv344, rfl, ex372, hS340, hI422, (gf_tr (ex_shd ex372) fr350 f423 rfl rfl rfl), fr351, fr352, hF354, hR355, (by have : (((-1) : Int32)).toInt = (-1) := (by decide); omega), (by have : (((-1) : Int32)).toInt = (-1) := (by decide); omega), (by have : (((-1) : Int32)).toInt = (-1) := (by decide); omega), (by have : (((-1) : Int32)).toInt = (-1) := (by decide); have := congrArg Int32.toInt (show FI421 0 9 = (0 : Int32) from (gf_at f423 (c0 hS340) (shd_f (by decide) (s0 hS340)) rfl (kp358))); have := ((by decide : (0 : Int32).toInt = 0) : ((0 : Int32)).toInt = 0); omega), (by exact ⟨gp345, gw346, gs347, hT428, hk349, trivial⟩), (by exact gV_old (L := [(0, 11), (110, 2), (111, 5)]) (A := []) (T := [1104, 1105]) hS hR ex372 gg1 ((show FI421 0 12 = x4 from (gf_at f423 (c0 hS340) (shd_f (by decide) (s0 hS340)) rfl (kp356))).trans (h5).symm) ((show FRv344 0 11 = o7 from kp357).trans (h8).symm) xi71_1 fr352 (by decide))⟩
                · refine hw_aloadn (aX11_compile 43 rfl) rfl ?_
                  refine hw_get (v := .ref (base + 110)) (aX11_compile 44 rfl) wf_RX11_58 (c0 hS340) (s0 hS340) (by decide) (congrArg (fun r => va_rf (h_rf base r)) (r0_3 hF354)) ?_
                  refine hw_get (v := .ref (base + pv)) (aX11_compile 45 rfl) wf_RX11_245 (c110 hS340) (s110 hS340) (by decide) (congrArg (fun r => va_rf (h_rf base r)) (show FRv344 110 2 = some pv from h407)) ?_
                  refine xw_iload (aX11_compile 46 rfl) rfl ?_
                  obtain ⟨r440, h441, h442, h443, h444⟩ := h411 (y4).toNatClampNeg (by have := i_cn (x := y4) (by omega); have := congrArg Int32.toInt (show FIv342 110 3 = x373 from h374); omega)
                  obtain ⟨lt445, ow446, sh447⟩ := gR_get hR355 lt413 ow414 h408 h441
                  have sh448 : SH338 r440 = (10, (SH338 r440).2) := sh447
                  refine hw_aald (k := 4) (v := some (r440)) (aX11_compile 47 rfl) lt413 h408 (by decide) (by decide) (h_in rfl (by omega) (by omega)) (show FRv344 pv (y4).toNatClampNeg = some (r440) from h441) ?_
                  refine hw_astore (L2 := [(5, .ref (base + r440)), (4, .int (y4)), (3, .int (y3)), (2, .int (y2_341)), (0, .ref (base + 0))]) (aX11_compile 48 rfl) (by decide) rfl ?_
                  obtain ⟨⟨r449, h453, hz457⟩, ⟨r450, h454, hz458⟩, ⟨r451, h455, hz459⟩, ⟨r452, h456⟩⟩ := h444
                  obtain ⟨lt461, ow462, sh463⟩ := gR_get hR355 lt445 ow446 sh448 h453
                  obtain ⟨lt464, ow465, sh466⟩ := gR_get hR355 lt445 ow446 sh448 h454
                  obtain ⟨lt467, ow468, sh469⟩ := gR_get hR355 lt445 ow446 sh448 h455
                  obtain ⟨lt470, ow471, sh472⟩ := gR_get hR355 lt445 ow446 sh448 h456
                  refine hw_aload (aX11_compile 49 rfl) rfl ?_
                  refine hw_aloadn (aX11_compile 50 rfl) rfl ?_
                  refine hw_get (v := .ref (base + 119)) (aX11_compile 51 rfl) wf_RX11_65 (c0 hS340) (s0 hS340) (by decide) (congrArg (fun r => va_rf (h_rf base r)) (r0_4 hF354)) ?_
                  refine hw_aload (aX11_compile 52 rfl) rfl ?_
                  refine hw_callV (Bs := [.ref (base + r440)]) (rest := [.ref (base + r440)]) (aX11_compile 53 rfl) wc_RX11_246 (by decide) rfl wi_yX0_code wv_yX0_code (c119 hS340) (s119 hS340) rfl rfl rfl (Nat.le_of_ble_eq_true rfl) (Nat.le_of_ble_eq_true rfl) (k_X0_code (d := d) hS340 hF354 hI353 hR355 (r440) lt445 sh448 ow446 (gp345) (gw346) (gs347) (hT348) ((show g_Vv SH338 FRv344 r440 from ⟨⟨_, h453, hz457⟩, ⟨_, h454, hz458⟩, ⟨_, h455, hz459⟩, ⟨_, h456⟩⟩))) (fun v473 sv474 p475 => ?_)
                  obtain ⟨r476, rfl, n492, sl493, SH494, FI477, FL478, FR479, rfl, ex495, hS496, hI480, f481, f482, f483, hF484, hR485, t486, t487, t488, u489, ht490, hfr497⟩ := p475
                  obtain ⟨gp498, gw499, gs500, hT501, hkp502, hq503⟩ := u489
                  have hk504 : ∀ c, c < n → gp498 c = gp c ∧ gw499 c = gw c ∧ gs500 c = gs c := fun c hc => by obtain ⟨k1, k2, k3⟩ := hk349 c hc; obtain ⟨m1, m2, m3⟩ := hkp502 c (Nat.lt_of_lt_of_le hc (ex372).1); exact ⟨m1.trans k1, m2.trans k2, m3.trans k3⟩
                  have lt505 := ex_lt ex495 lt413
                  have sh506 := ex_sh ex495 lt413 h408
                  have lt507 := ex_lt ex495 lt445
                  have sh508 := ex_sh ex495 lt445 sh448
                  have lt509 := ex_lt ex495 lt461
                  have sh510 := ex_sh ex495 lt461 hz457
                  have lt511 := ex_lt ex495 lt464
                  have sh512 := ex_sh ex495 lt464 hz458
                  have lt513 := ex_lt ex495 lt467
                  have sh514 := ex_sh ex495 lt467 hz459
                  have lt515 := ex_lt ex495 lt470
                  have sh516 := ex_sh ex495 lt470 sh472
                  have ht517 := ex_ty ex495 ht370
                  have ex518 := ex_tr ex371 ex495
                  have ex519 := ex_tr ex339 ex495
                  have ex520 := ex_tr ex372 ex495
                  show hw sk base _ _ _ _ _ [va_rf (h_rf base (r476)), .ref (base + r440)] _ _
                  have pw521 : g_PV n SH494 FR479 (FI477 110 3).toInt := by rw [show FI477 110 3 = x373 from (gf_at f481 (c110 hS340) (shd_f (by decide) (s110 hS340)) rfl (h374)), ← (show FIv342 110 3 = x373 from h374)]; exact gPV_gr hS340 hR355 ex495 f483 xi71_0
                  have ol522 : ∀ c9 k9, c9 < n → (SH c9).1 = 104 → 176 ≤ c9 → FR479 c9 k9 = FR c9 k9 := fun c9 k9 h1 h2 h3 => (f483 c9 k9 (ex_lt ex372 h1) (by simp) (by simp) (by simp)).trans (xi71_1 c9 k9 h1 h2 h3)
                  have cdd523 := fun h => gCD_gr hS340 hR355 f483 (xi71_2 h)
                  refine hv_putr (r := r476) (aX11_compile 54 rfl) wf_RX11_250 lt507 sh508 (by decide) (by first | exact Or.inl ⟨_, rfl⟩ | exact Or.inr ⟨_, rfl⟩) (Or.inl rfl) (fun FR524 u525 => ?_)
                  have hT526 : g_T n492 SH494 FI477 FR524 gp498 gw499 gs500 := gT_wo hT501 (tag_ne sh508 (by decide)) (tag_ne sh508 (by decide)) u525
                  have hF527 : h_FR FR524 := hF_up hS496 hF484 u525 sh508 (by decide +kernel)
                  have hR528 : g_R n492 SH494 FR524 := gR_up hR485 u525 sh508 (fun r e => by obtain ⟨a, b, c⟩ := ht490 r e; exact ⟨a, b, by rw [c]; rfl⟩) (fun _ r e => (fun r e => Nat.le_trans hS340.1 (hfr497 r e)) r e) (fun h => absurd h (by unfold g_nn; have z : ∀ q, q = 0 ∨ q = 110 ∨ q = 111 ∨ q = 26 ∨ q = 43 → (SH494 q).1 ≠ 10 := (fun q hq => by rcases hq with rfl | rfl | rfl | rfl | rfl; { rw [s0 hS496]; decide }; { rw [s110 hS496]; decide }; { rw [s111 hS496]; decide }; { rw [s26 hS496]; decide }; { rw [s43 hS496]; decide }); have z2 := z r440; rw [sh508] at z2; omega)) (fun h => absurd h.1 (ne_tag sh508 (s49 hS496) (by decide)))
                  have pw529 := gPV_cd hS496 (show (SH494 r440).1 = 10 from congrArg Prod.fst sh508) u525 pw521
                  have ol530 : ∀ c9 k9, c9 < n → (SH c9).1 = 104 → 176 ≤ c9 → FR524 c9 k9 = FR c9 k9 := fun c9 k9 h1 h2 h3 => up_c u525 (Nat.ne_of_lt (Nat.lt_of_lt_of_le h1 h442)) (ol522 c9 k9 h1 h2 h3)
                  refine hw_aload (aX11_compile 55 rfl) rfl ?_
                  refine hw_get (v := va_rf (h_rf base (r476))) (aX11_compile 56 rfl) wf_RX11_250 lt507 sh508 (by decide) (congrArg (fun r => va_rf (h_rf base r)) (show FR524 r440 6 = r476 from up_eq u525)) ?_
                  refine xw_ifnonnull (v := h_rf base r476) (tgt := 130) (aX11_compile 57 rfl) (by decide) (fun hn531 => ?_) (fun hn531 => ?_)
                  · obtain ⟨r532, rfl⟩ := h_rf_s hn531
                    obtain ⟨lt533, ow534, sh535⟩ := ht490 r532 rfl
                    show hw sk base _ _ _ _ [(5, .ref (base + r440)), (4, .int (y4)), (3, .int (y3)), (2, .int (y2_341)), (0, .ref (base + 0))] [] _ _
                    obtain ⟨x536, q538⟩ : ∃ y : Int32, (y4) + Int32.ofInt (1) = y := ⟨_, rfl⟩
                    have e537 : (x536).toInt = (y4).toInt + (1) := by rw [← q538]; exact i_add rfl (by decide) (by omega) (by omega)
                    refine xw_iinc (L2 := [(4, .int (x536)), (5, .ref (base + r440)), (3, .int (y3)), (2, .int (y2_341)), (0, .ref (base + 0))]) (aX11_compile 63 rfl) rfl (by decide) (by rw [q538]; rfl) ?_
                    refine xw_goto (tgt := 71) (aX11_compile 64 rfl) (by decide) ?_
                    exact hw_L (ih71 (x536) (y3) (y2_341) FI477 FL478 FR524 n492 sl493 SH494 gp498 gw499 gs500 ex519 hS496 hT526 hk504 (gf_tr (ex_shd ex372) fr350 f481 rfl rfl rfl) (gf_tr (ex_shd ex372) fr351 f482 rfl rfl rfl) (gf_n (gf_tr (ex_shd ex372) fr352 f483 rfl rfl rfl) u525 h442) hI480 hF527 hR528 (show FI477 0 12 = x4 from (gf_at f481 (c0 hS340) (shd_f (by decide) (s0 hS340)) rfl (kp356))) (show FR524 0 11 = o7 from (up_c u525 (ne_tag (s0 hS496) sh508 (by decide)) ((gf_at f483 (c0 hS340) (shd_f (by decide) (s0 hS340)) rfl (kp357))))) (show FI477 0 9 = (0 : Int32) from (gf_at f481 (c0 hS340) (shd_f (by decide) (s0 hS340)) rfl (kp358))) (show FI477 111 4 = x60 from (gf_at f481 (c111 hS340) (shd_f (by decide) (s111 hS340)) rfl (kp359))) (show FI477 110 7 = x102 from (gf_at f481 (c110 hS340) (shd_f (by decide) (s110 hS340)) rfl (kp360))) (show FI477 110 5 = x105 from (gf_at f481 (c110 hS340) (shd_f (by decide) (s110 hS340)) rfl (kp361))) (show FI477 110 8 = x107 from (gf_at f481 (c110 hS340) (shd_f (by decide) (s110 hS340)) rfl (kp362))) (show FI477 110 4 = x109 from (gf_at f481 (c110 hS340) (shd_f (by decide) (s110 hS340)) rfl (kp363))) (show FI477 110 6 = x334 from (gf_at f481 (c110 hS340) (shd_f (by decide) (s110 hS340)) rfl (kp364))) (by have := (e537 : (x536).toInt = (y4).toInt + (1)); omega) (by have := (e537 : (x536).toInt = (y4).toInt + (1)); omega) (by have := (e537 : (x536).toInt = (y4).toInt + (1)); omega) (by have := (e537 : (x536).toInt = (y4).toInt + (1)); omega) (show g_PV n SH494 FR524 (FI477 110 3).toInt from (by have := (e537 : (x536).toInt = (y4).toInt + (1)); exact pw529)) (show ∀ c9 k9, c9 < n → (SH c9).1 = 104 → 176 ≤ c9 → FR524 c9 k9 = FR c9 k9 from (by have := (e537 : (x536).toInt = (y4).toInt + (1)); exact ol530)) (show (y2_341).toInt = 0 → g_CD FR524 (x536).toInt from (by have := (e537 : (x536).toInt = (y4).toInt + (1)); exact (fun h => by have hq := gCD_cd hS496 (show (SH494 r440).1 = 10 from congrArg Prod.fst sh508) (show (SH494 pv).1 = 104 from congrArg Prod.fst sh506) (show _ = some pv from (gf_at f483 (c110 hS340) (shd_f (by decide) (s110 hS340)) rfl (h407))) (show _ = some r440 from (gf_at f483 lt413 (shd_d h409 h408) rfl (h441))) (i_cn (x := y4) (by omega)) u525 (cdd523 h); intro i9 hi9; exact hq i9 (by omega)))) (by have := (e537 : (x536).toInt = (y4).toInt + (1)); omega)) ⟨rfl, rfl, rfl, rfl, trivial⟩
                  · obtain rfl := h_rf_n hn531
                    show hw sk base _ _ _ _ [(5, .ref (base + r440)), (4, .int (y4)), (3, .int (y3)), (2, .int (y2_341)), (0, .ref (base + 0))] [] _ _
                    refine hw_bp (v := (7 : Int32)) (aX11_compile 58 rfl) (by decide) ?_
                    refine xw_istoren (L2 := [(2, .int ((7 : Int32))), (5, .ref (base + r440)), (4, .int (y4)), (3, .int (y3)), (0, .ref (base + 0))]) (aX11_compile 59 rfl) (by decide) rfl ?_
                    refine hw_aload (aX11_compile 60 rfl) rfl ?_
                    obtain ⟨x539, h540⟩ : ∃ y, FI477 r440 1 = y := ⟨_, rfl⟩
                    have h540l := congrArg Int32.toInt h540
                    have := i_rng x539
                    refine hw_get (v := .int (x539)) (aX11_compile 61 rfl) wf_RX11_252 lt507 sh508 (by decide) (congrArg Value.int (show FI477 r440 1 = x539 from h540)) ?_
                    refine xw_istoren (L2 := [(3, .int (x539)), (2, .int ((7 : Int32))), (5, .ref (base + r440)), (4, .int (y4)), (0, .ref (base + 0))]) (aX11_compile 62 rfl) (by decide) rfl ?_
                    obtain ⟨x541, q543⟩ : ∃ y : Int32, (y4) + Int32.ofInt (1) = y := ⟨_, rfl⟩
                    have e542 : (x541).toInt = (y4).toInt + (1) := by rw [← q543]; exact i_add rfl (by decide) (by omega) (by omega)
                    refine xw_iinc (L2 := [(4, .int (x541)), (3, .int (x539)), (2, .int ((7 : Int32))), (5, .ref (base + r440)), (0, .ref (base + 0))]) (aX11_compile 63 rfl) rfl (by decide) (by rw [q543]; rfl) ?_
                    refine xw_goto (tgt := 71) (aX11_compile 64 rfl) (by decide) ?_
                    exact hw_L (ih71 (x541) (x539) ((7 : Int32)) FI477 FL478 FR524 n492 sl493 SH494 gp498 gw499 gs500 ex519 hS496 hT526 hk504 (gf_tr (ex_shd ex372) fr350 f481 rfl rfl rfl) (gf_tr (ex_shd ex372) fr351 f482 rfl rfl rfl) (gf_n (gf_tr (ex_shd ex372) fr352 f483 rfl rfl rfl) u525 h442) hI480 hF527 hR528 (show FI477 0 12 = x4 from (gf_at f481 (c0 hS340) (shd_f (by decide) (s0 hS340)) rfl (kp356))) (show FR524 0 11 = o7 from (up_c u525 (ne_tag (s0 hS496) sh508 (by decide)) ((gf_at f483 (c0 hS340) (shd_f (by decide) (s0 hS340)) rfl (kp357))))) (show FI477 0 9 = (0 : Int32) from (gf_at f481 (c0 hS340) (shd_f (by decide) (s0 hS340)) rfl (kp358))) (show FI477 111 4 = x60 from (gf_at f481 (c111 hS340) (shd_f (by decide) (s111 hS340)) rfl (kp359))) (show FI477 110 7 = x102 from (gf_at f481 (c110 hS340) (shd_f (by decide) (s110 hS340)) rfl (kp360))) (show FI477 110 5 = x105 from (gf_at f481 (c110 hS340) (shd_f (by decide) (s110 hS340)) rfl (kp361))) (show FI477 110 8 = x107 from (gf_at f481 (c110 hS340) (shd_f (by decide) (s110 hS340)) rfl (kp362))) (show FI477 110 4 = x109 from (gf_at f481 (c110 hS340) (shd_f (by decide) (s110 hS340)) rfl (kp363))) (show FI477 110 6 = x334 from (gf_at f481 (c110 hS340) (shd_f (by decide) (s110 hS340)) rfl (kp364))) (by have := (e542 : (x541).toInt = (y4).toInt + (1)); have := ((by decide : (7 : Int32).toInt = 7) : ((7 : Int32)).toInt = 7); omega) (by have := (e542 : (x541).toInt = (y4).toInt + (1)); have := ((by decide : (7 : Int32).toInt = 7) : ((7 : Int32)).toInt = 7); omega) (by have := (e542 : (x541).toInt = (y4).toInt + (1)); have := ((by decide : (7 : Int32).toInt = 7) : ((7 : Int32)).toInt = 7); omega) (by have := (e542 : (x541).toInt = (y4).toInt + (1)); have := ((by decide : (7 : Int32).toInt = 7) : ((7 : Int32)).toInt = 7); omega) (show g_PV n SH494 FR524 (FI477 110 3).toInt from (by have := (e542 : (x541).toInt = (y4).toInt + (1)); have := ((by decide : (7 : Int32).toInt = 7) : ((7 : Int32)).toInt = 7); exact pw529)) (show ∀ c9 k9, c9 < n → (SH c9).1 = 104 → 176 ≤ c9 → FR524 c9 k9 = FR c9 k9 from (by have := (e542 : (x541).toInt = (y4).toInt + (1)); have := ((by decide : (7 : Int32).toInt = 7) : ((7 : Int32)).toInt = 7); exact ol530)) (show 7 = 0 → g_CD FR524 (x541).toInt from (by have := (e542 : (x541).toInt = (y4).toInt + (1)); have := ((by decide : (7 : Int32).toInt = 7) : ((7 : Int32)).toInt = 7); exact (fun h => absurd h (by decide)))) (by have := (e542 : (x541).toInt = (y4).toInt + (1)); have := ((by decide : (7 : Int32).toInt = 7) : ((7 : Int32)).toInt = 7); omega)) ⟨rfl, rfl, rfl, rfl, trivial⟩
          exact hw_L (lp369 ((13 - 0 : Int).toNat + 1) ((0 : Int32)) (x334) (x105) FIv71 FLv72 FRv73 n66 sl67 SH68 gp74 gw75 gs76 ex_rf hS70 hT77 hk78 fr79 fr80 fr81 hI82 hF83 hR84 (show FIv71 0 12 = x4 from kp85) (show FRv73 0 11 = o7 from kp86) (show FIv71 0 9 = (0 : Int32) from kp87) (show FIv71 111 4 = x60 from kp88) (show FIv71 110 7 = x102 from h103) (show FIv71 110 5 = x105 from h106) (show FIv71 110 8 = x107 from h108) (show FIv71 110 4 = x109 from h110) (show FIv71 110 6 = x334 from h335) (by have := ((by decide : (0 : Int32).toInt = 0) : ((0 : Int32)).toInt = 0); omega) (by have := ((by decide : (0 : Int32).toInt = 0) : ((0 : Int32)).toInt = 0); omega) (by have := ((by decide : (0 : Int32).toInt = 0) : ((0 : Int32)).toInt = 0); omega) (by have := ((by decide : (0 : Int32).toInt = 0) : ((0 : Int32)).toInt = 0); omega) (show g_PV n SH68 FRv73 (FIv71 110 3).toInt from (by have := ((by decide : (0 : Int32).toInt = 0) : ((0 : Int32)).toInt = 0); exact xi24_1)) (show ∀ c9 k9, c9 < n → (SH c9).1 = 104 → 176 ≤ c9 → FRv73 c9 k9 = FR c9 k9 from (by have := ((by decide : (0 : Int32).toInt = 0) : ((0 : Int32)).toInt = 0); exact xi24_2)) (show (x105).toInt = 0 → g_CD FRv73 0 from (by have := ((by decide : (0 : Int32).toInt = 0) : ((0 : Int32)).toInt = 0); exact (fun h i hi => absurd hi (by have : ((0 : Int32)).toInt = 0 := (by decide); omega)))) (by have := ((by decide : (0 : Int32).toInt = 0) : ((0 : Int32)).toInt = 0); omega)) ⟨rfl, rfl, rfl, rfl, trivial⟩
        · replace t329 := t329 (by omega)
          refine hw_aloadn (aX11_compile 21 rfl) rfl ?_
          refine hw_get (v := .ref (base + 110)) (aX11_compile 22 rfl) wf_RX11_58 (c0 hS70) (s0 hS70) (by decide) (congrArg (fun r => va_rf (h_rf base r)) (r0_3 hF83)) ?_
          refine hw_callV (Bs := []) (rest := []) (aX11_compile 23 rfl) wc_RX11_236 (by decide) rfl wi_yX4_readDeclaration wv_yX4_readDeclaration (c110 hS70) (s110 hS70) rfl rfl rfl (Nat.le_of_ble_eq_true rfl) (Nat.le_of_ble_eq_true rfl) (k_readDecl (d := d + 106) hS70 hF83 hI82 hR84 (gp74) (gw75) (gs76) (n) (by have := congrArg Int32.toInt (show FIv71 110 7 = x102 from h103); have := congrArg Int32.toInt (show FIv71 110 7 = x102 from h103); have := congrArg Int32.toInt (show FIv71 111 4 = x60 from kp88); omega) (by have := congrArg Int32.toInt (show FIv71 110 5 = x105 from h106); have := congrArg Int32.toInt (show FIv71 110 8 = x107 from h108); omega) (by have := congrArg Int32.toInt (show FIv71 110 7 = x102 from h103); have := congrArg Int32.toInt (show FIv71 111 4 = x60 from kp88); have := congrArg Int32.toInt (show FIv71 110 8 = x107 from h108); omega) (by have := congrArg Int32.toInt (show FIv71 110 5 = x105 from h106); omega) (by have := congrArg Int32.toInt (show FIv71 110 4 = x109 from h110); omega) (hT77) (xi24_0) (xi24_1) (by omega)) (fun v544 sv545 p546 => ?_)
          have := congrArg Int32.toInt (show FIv71 111 4 = x60 from kp88)
          have := congrArg Int32.toInt (show FIv71 111 4 = x60 from kp88)
          have := congrArg Int32.toInt (show FIv71 110 7 = x102 from h103)
          have := congrArg Int32.toInt (show FIv71 110 5 = x105 from h106)
          have := congrArg Int32.toInt (show FIv71 110 5 = x105 from h106)
          have := congrArg Int32.toInt (show FIv71 110 4 = x109 from h110)
          have := congrArg Int32.toInt (show FIv71 110 7 = x102 from h103)
          have := congrArg Int32.toInt (show FIv71 110 7 = x102 from h103)
          obtain ⟨rfl, n571, sl572, SH573, FI548, FL549, FR550, rfl, ex574, hS575, hI551, f552, f553, f554, hF555, hR556, t557, t558, t559, t560, t561, t562, t563, t564, t565, u566, u567, u568⟩ := p546
          have hK576 := gK_mx (L := [(110, 3), (110, 4), (110, 5), (110, 6), (110, 7), (110, 8)]) (A := [117]) (T := [1006, 1010]) hS70 xi24_0 f552 (by decide)
          obtain ⟨gp577, gw578, gs579, hT580, hkp581, hq582⟩ := u566
          have hk583 : ∀ c, c < n → gp577 c = gp c ∧ gw578 c = gw c ∧ gs579 c = gs c := fun c hc => by obtain ⟨k1, k2, k3⟩ := hk78 c hc; obtain ⟨m1, m2, m3⟩ := hkp581 c (Nat.lt_of_lt_of_le hc (ex101).1); exact ⟨m1.trans k1, m2.trans k2, m3.trans k3⟩
          have ht584 := ex_ty ex574 ht100
          have ex585 := ex_tr ex69 ex574
          have ex586 := ex_tr ex101 ex574
          obtain ⟨x587, h588⟩ : ∃ y, FI548 110 7 = y := ⟨_, rfl⟩
          have h588l := congrArg Int32.toInt h588
          have b589 := gI_110_7 hI551; rw [h588] at b589
          obtain ⟨x590, h591⟩ : ∃ y, FI548 110 5 = y := ⟨_, rfl⟩
          have h591l := congrArg Int32.toInt h591
          have := i_rng x590
          obtain ⟨x592, h593⟩ : ∃ y, FI548 110 8 = y := ⟨_, rfl⟩
          have h593l := congrArg Int32.toInt h593
          have := i_rng x592
          obtain ⟨x594, h595⟩ : ∃ y, FI548 110 4 = y := ⟨_, rfl⟩
          have h595l := congrArg Int32.toInt h595
          have := i_rng x594
          show hw sk base _ _ _ _ _ [] _ _
          have ol596 : ∀ c9 k9, c9 < n → (SH c9).1 = 104 → 176 ≤ c9 → FR550 c9 k9 = FR c9 k9 := fun c9 k9 h1 h2 h3 => (u568 c9 k9 h1 (by rw [ex101.2 c9 h1]; exact h2) h3).trans (xi24_2 c9 k9 h1 h2 h3)
          obtain ⟨x597, q599⟩ : ∃ y : Int32, (y2) + Int32.ofInt (1) = y := ⟨_, rfl⟩
          have e598 : (x597).toInt = (y2).toInt + (1) := by rw [← q599]; exact i_add rfl (by decide) (by omega) (by omega)
          refine xw_iinc (L2 := [(2, .int (x597)), (1, .int (x1)), (0, .ref (base + 0))]) (aX11_compile 24 rfl) rfl (by decide) (by rw [q599]; rfl) ?_
          refine xw_goto (tgt := 24) (aX11_compile 25 rfl) (by decide) ?_
          exact hw_L (ih (x597) FI548 FL549 FR550 n571 sl572 SH573 gp577 gw578 gs579 ex585 hS575 hT580 hk583 (gf_tr (ex_shd ex101) fr79 f552 rfl rfl rfl) (gf_tr (ex_shd ex101) fr80 f553 rfl rfl rfl) (gf_tr (ex_shd ex101) fr81 f554 rfl rfl rfl) hI551 hF555 hR556 (show FI548 0 12 = x4 from (gf_at f552 (c0 hS70) (shd_f (by decide) (s0 hS70)) rfl (kp85))) (show FR550 0 11 = o7 from (gf_at f554 (c0 hS70) (shd_f (by decide) (s0 hS70)) rfl (kp86))) (show FI548 0 9 = (0 : Int32) from (gf_at f552 (c0 hS70) (shd_f (by decide) (s0 hS70)) rfl (kp87))) (show FI548 111 4 = x60 from (gf_at f552 (c111 hS70) (shd_f (by decide) (s111 hS70)) rfl (kp88))) (by have := (e598 : (x597).toInt = (y2).toInt + (1)); omega) (by have := (e598 : (x597).toInt = (y2).toInt + (1)); have := congrArg Int32.toInt (show FI548 110 7 = x587 from h588); have := congrArg Int32.toInt (show FI548 111 4 = x60 from (gf_at f552 (c111 hS70) (shd_f (by decide) (s111 hS70)) rfl (kp88))); omega) (by have := (e598 : (x597).toInt = (y2).toInt + (1)); have := congrArg Int32.toInt (show FI548 110 5 = x590 from h591); have := congrArg Int32.toInt (show FI548 110 8 = x592 from h593); omega) (by have := (e598 : (x597).toInt = (y2).toInt + (1)); have := congrArg Int32.toInt (show FI548 110 7 = x587 from h588); have := congrArg Int32.toInt (show FI548 110 8 = x592 from h593); have := congrArg Int32.toInt (show FI548 111 4 = x60 from (gf_at f552 (c111 hS70) (shd_f (by decide) (s111 hS70)) rfl (kp88))); omega) (by have := (e598 : (x597).toInt = (y2).toInt + (1)); have := congrArg Int32.toInt (show FI548 110 4 = x594 from h595); have := congrArg Int32.toInt (show FI548 110 5 = x590 from h591); omega) (by have := (e598 : (x597).toInt = (y2).toInt + (1)); have := congrArg Int32.toInt (show FI548 111 4 = x60 from (gf_at f552 (c111 hS70) (shd_f (by decide) (s111 hS70)) rfl (kp88))); omega) (by have := (e598 : (x597).toInt = (y2).toInt + (1)); have := congrArg Int32.toInt (show FI548 110 7 = x587 from h588); omega) (by have := (e598 : (x597).toInt = (y2).toInt + (1)); have := congrArg Int32.toInt (show FI548 110 7 = x587 from h588); omega) (by have := (e598 : (x597).toInt = (y2).toInt + (1)); omega) (by have := (e598 : (x597).toInt = (y2).toInt + (1)); omega) (show g_K FI548 from (by have := (e598 : (x597).toInt = (y2).toInt + (1)); exact hK576)) (show g_PV n SH573 FR550 (FI548 110 3).toInt from (by have := (e598 : (x597).toInt = (y2).toInt + (1)); exact u567)) (show ∀ c9 k9, c9 < n → (SH c9).1 = 104 → 176 ≤ c9 → FR550 c9 k9 = FR c9 k9 from (by have := (e598 : (x597).toInt = (y2).toInt + (1)); exact ol596)) (by have := (e598 : (x597).toInt = (y2).toInt + (1)); omega)) ⟨rfl, rfl, rfl, trivial⟩
  exact hw_L (lp99 ((1002 - 0 : Int).toNat + 1) ((0 : Int32)) FI18 FL19 FR20 n40 sl41 SH42 gp45 gw46 gs47 ex_rf hS44 hT48 hk51 (gf_tr ex_rf (gf_f gf_rf u11 (by decide)) f22 rfl rfl rfl) (gf_tr ex_rf gf_rf f23 rfl rfl rfl) (gf_tr ex_rf gf_rf f24 rfl rfl rfl) hI21 hF25 hR26 (show FI18 0 12 = x4 from (gf_at f22 (c0 hS) (shd_f (by decide) (s0 hS)) rfl ((up_k u11 (by decide) (h5))))) (show FR20 0 11 = o7 from (gf_at f24 (c0 hS) (shd_f (by decide) (s0 hS)) rfl (h8))) (show FI18 0 9 = (0 : Int32) from (gf_at f22 (c0 hS) (shd_f (by decide) (s0 hS)) rfl (up_eq u11))) (show FI18 111 4 = x60 from h61) (by have := ((by decide : (0 : Int32).toInt = 0) : ((0 : Int32)).toInt = 0); omega) (by have := ((by decide : (0 : Int32).toInt = 0) : ((0 : Int32)).toInt = 0); have := congrArg Int32.toInt (show FI18 110 7 = x57 from h58); have := congrArg Int32.toInt (show FI18 111 4 = x60 from h61); omega) (by have := ((by decide : (0 : Int32).toInt = 0) : ((0 : Int32)).toInt = 0); have := congrArg Int32.toInt (show FI18 110 5 = x53 from h54); have := congrArg Int32.toInt (show FI18 110 8 = x63 from h64); omega) (by have := ((by decide : (0 : Int32).toInt = 0) : ((0 : Int32)).toInt = 0); have := congrArg Int32.toInt (show FI18 110 7 = x57 from h58); have := congrArg Int32.toInt (show FI18 110 8 = x63 from h64); have := congrArg Int32.toInt (show FI18 111 4 = x60 from h61); omega) (by have := ((by decide : (0 : Int32).toInt = 0) : ((0 : Int32)).toInt = 0); have := congrArg Int32.toInt (show FI18 110 4 = x55 from h56); have := congrArg Int32.toInt (show FI18 110 5 = x53 from h54); omega) (by have := ((by decide : (0 : Int32).toInt = 0) : ((0 : Int32)).toInt = 0); have := congrArg Int32.toInt (show FI18 111 4 = x60 from h61); omega) (by have := ((by decide : (0 : Int32).toInt = 0) : ((0 : Int32)).toInt = 0); have := congrArg Int32.toInt (show FI18 110 7 = x57 from h58); omega) (by have := ((by decide : (0 : Int32).toInt = 0) : ((0 : Int32)).toInt = 0); have := congrArg Int32.toInt (show FI18 110 7 = x57 from h58); omega) (by have := ((by decide : (0 : Int32).toInt = 0) : ((0 : Int32)).toInt = 0); omega) (by have := ((by decide : (0 : Int32).toInt = 0) : ((0 : Int32)).toInt = 0); omega) (show g_K FI18 from (by have := ((by decide : (0 : Int32).toInt = 0) : ((0 : Int32)).toInt = 0); exact u36)) (show g_PV n SH42 FR20 (FI18 110 3).toInt from (by have := ((by decide : (0 : Int32).toInt = 0) : ((0 : Int32)).toInt = 0); exact u37)) (show ∀ c9 k9, c9 < n → (SH c9).1 = 104 → 176 ≤ c9 → FR20 c9 k9 = FR c9 k9 from (by have := ((by decide : (0 : Int32).toInt = 0) : ((0 : Int32)).toInt = 0); exact ol65)) (by have := ((by decide : (0 : Int32).toInt = 0) : ((0 : Int32)).toInt = 0); omega)) ⟨rfl, rfl, rfl, trivial⟩
