section
set_option maxHeartbeats 4000000 in
set_option maxRecDepth 100000 in
theorem k_goesOn2 {sk : xK} {base d n sl : Nat} {SH : Nat → Nat × Nat} {FI : Nat → Nat → Int32} {FL : Nat → Nat → Int64} {FR : Nat → Nat → Option Nat} (hS : h_S n SH) (hF : h_FR FR) (hI : g_I FI) (hR : g_R n SH FR) : hw sk base d none 37 0 [(0, .ref (base + 110))] [] (n, sl, SH, FI, FL, FR) (h_I (fun r s => s = (n, sl, SH, FI, FL, FR) ∧ (r.toInt = 1 → (FI 110 5).toInt = 0) ∧ (0 ≤ r.toInt ∧ r.toInt ≤ 1))) := by
  obtain ⟨x1, h2⟩ : ∃ y, FI 110 5 = y := ⟨_, rfl⟩
  have h2l := congrArg Int32.toInt h2
  have := i_rng x1
  refine hw_aloadn (aX4_goesOn 0 rfl) rfl ?_
  refine hw_get (v := .int (x1)) (aX4_goesOn 1 rfl) wf_RX4_39 (c110 hS) (s110 hS) (by decide) (congrArg Value.int (show FI 110 5 = x1 from h2)) ?_
  refine hw_ifne (tgt := 19) (aX4_goesOn 2 rfl) (by decide) rfl (fun cd3 => ?_) (fun cd3 => ?_)
  · refine hw_ic (v := (0 : Int32)) (aX4_goesOn 9 rfl) (by decide) ?_
    refine xw_iret (aX4_goesOn 10 rfl) rfl (by decide) ?_
    have e4 : ((0 : Int32)).toInt = 0 := (by decide : (0 : Int32).toInt = 0)
    exact ⟨(0 : Int32), rfl, rfl, (by have : ((0 : Int32)).toInt = 0 := (by decide); omega), (by have : ((0 : Int32)).toInt = 0 := (by decide); omega)⟩
  · refine hw_aloadn (aX4_goesOn 3 rfl) rfl ?_
    obtain ⟨x5, h6⟩ : ∃ y, FI 110 8 = y := ⟨_, rfl⟩
    have h6l := congrArg Int32.toInt h6
    have := i_rng x5
    refine hw_get (v := .int (x5)) (aX4_goesOn 4 rfl) wf_RX4_51 (c110 hS) (s110 hS) (by decide) (congrArg Value.int (show FI 110 8 = x5 from h6)) ?_
    refine hw_ic (v := (2 : Int32)) (aX4_goesOn 5 rfl) (by decide) ?_
    refine hw_iceq (tgt := 19) (aX4_goesOn 6 rfl) (by decide) rfl (by decide : (2 : Int32).toInt = 2) (fun cd7 => ?_) (fun cd7 => ?_)
    · refine hw_ic (v := (0 : Int32)) (aX4_goesOn 9 rfl) (by decide) ?_
      refine xw_iret (aX4_goesOn 10 rfl) rfl (by decide) ?_
      have e8 : ((0 : Int32)).toInt = 0 := (by decide : (0 : Int32).toInt = 0)
      exact ⟨(0 : Int32), rfl, rfl, (by have : ((0 : Int32)).toInt = 0 := (by decide); omega), (by have : ((0 : Int32)).toInt = 0 := (by decide); omega)⟩
    · refine hw_ic (v := (1 : Int32)) (aX4_goesOn 7 rfl) (by decide) ?_
      refine xw_goto (tgt := 20) (aX4_goesOn 8 rfl) (by decide) ?_
      refine xw_iret (aX4_goesOn 10 rfl) rfl (by decide) ?_
      have e9 : ((1 : Int32)).toInt = 1 := (by decide : (1 : Int32).toInt = 1)
      exact ⟨(1 : Int32), rfl, rfl, (by have : ((1 : Int32)).toInt = 1 := (by decide); omega), (by have : ((1 : Int32)).toInt = 1 := (by decide); omega)⟩
def nX11_compile : Nat := 0xacfd00b42afd00b5f300b43a00b42a2a1c00b5f500b43a00b42a2aac020500991c9f00b603031d1c2ac2ffa70104843efc00b405193d07100c00c7fa00b40519fa00b5f600b605194100b42a0519053a320415f500b43a00b42a34009a1c3800a2f300b43a00b42a04150436033ef200b43a00b42a3def00b43a00b42ae7ffa7010284ec00b63a00b42a100099e800b63a00b42a1a00a31b1c3d03e500b61b1000b42a3a00b42a4500b5032a3c4500b42a
theorem bX11_compile : cX11_compile.data.toList.map UInt8.toNat = x_un nX11_compile 177 := by decide +kernel
def iX11_compile : List (Nat × Jvm.ClassFile.Instr × Nat) := [(0, .aload_n 0, 1), (1, .getfield 69, 3), (4, .istore_n 1, 1), (5, .aload_n 0, 1), (6, .iconst 0, 1), (7, .putfield 69, 3), (10, .aload_n 0, 1), (11, .getfield 58, 3), (14, .aload_n 0, 1), (15, .getfield 16, 3), (18, .iload_n 1, 1), (19, .invokevirtual 229, 3), (22, .iconst 0, 1), (23, .istore_n 2, 1), (24, .iload_n 2, 1), (25, .iload_n 1, 1), (26, .if_icmp .gt 26, 3), (29, .aload_n 0, 1), (30, .getfield 58, 3), (33, .invokevirtual 232, 3), (36, .ifCond .eq 16, 3), (39, .aload_n 0, 1), (40, .getfield 58, 3), (43, .invokevirtual 236, 3), (46, .iinc 2 1, 3), (49, .goto (-25), 3), (52, .aload_n 0, 1), (53, .getfield 58, 3), (56, .getfield 239, 3), (59, .istore_n 2, 1), (60, .aload_n 0, 1), (61, .getfield 58, 3), (64, .getfield 242, 3), (67, .istore_n 3, 1), (68, .iconst 0, 1), (69, .istore 4, 2), (71, .iload 4, 2), (73, .aload_n 0, 1), (74, .getfield 58, 3), (77, .getfield 243, 3), (80, .if_icmp .ge 56, 3), (83, .iload_n 2, 1), (84, .ifCond .ne 52, 3), (87, .aload_n 0, 1), (88, .getfield 58, 3), (91, .getfield 245, 3), (94, .iload 4, 2), (96, .aaload, 1), (97, .astore 5, 2), (99, .aload 5, 2), (101, .aload_n 0, 1), (102, .getfield 65, 3), (105, .aload 5, 2), (107, .invokevirtual 246, 3), (110, .putfield 250, 3), (113, .aload 5, 2), (115, .getfield 250, 3), (118, .ifnonnull 12, 3), (121, .bipush 7, 2), (123, .istore_n 2, 1), (124, .aload 5, 2), (126, .getfield 252, 3), (129, .istore_n 3, 1), (130, .iinc 4 1, 3), (133, .goto (-62), 3), (136, .aload_n 0, 1), (137, .iload_n 2, 1), (138, .iload_n 3, 1), (139, .iconst 0, 1), (140, .iconst 0, 1), (141, .invokevirtual 159, 3), (144, .iload_n 2, 1), (145, .ifCond .eq 5, 3), (148, .iconst (-1), 1), (149, .ireturn, 1), (150, .aload_n 0, 1), (151, .aload_n 0, 1), (152, .getfield 58, 3), (155, .getfield 245, 3), (158, .putfield 28, 3), (161, .aload_n 0, 1), (162, .aload_n 0, 1), (163, .getfield 58, 3), (166, .getfield 243, 3), (169, .putfield 253, 3), (172, .aload_n 0, 1), (173, .getfield 253, 3), (176, .ireturn, 1)]
theorem dX11_compile : x_il nX11_compile 177 iX11_compile = true := by decide +kernel
theorem aX11_compile (k : Nat) {pc : Nat} {i : Jvm.ClassFile.Instr} {len : Nat} (hk : iX11_compile[k]? = some (pc, i, len)) : x_at xMM 146 pc i len yX11_compile 6 (some .int) := ⟨cX11_compile, rfl, x_il_ok bX11_compile dX11_compile k hk⟩
set_option maxHeartbeats 4000000 in
set_option maxRecDepth 100000 in
theorem k_X11_compile {sk : xK} {base d n sl : Nat} {SH : Nat → Nat × Nat} {FI : Nat → Nat → Int32} {FL : Nat → Nat → Int64} {FR : Nat → Nat → Option Nat} (hS : h_S n SH) (hF : h_FR FR) (hI : g_I FI) (hR : g_R n SH FR) (gp : Nat → Nat) (gw : Nat → Nat) (gs : Nat → Nat) (gg0 : g_T n SH FI FR gp gw gs) (gg1 : g_V SH FI FR) : hw sk base (d + 252) none 146 0 [(0, .ref (base + 0))] [] (n, sl, SH, FI, FL, FR) (h_I (fun r s => ∃ n' sl' SH' FI' FL' FR', s = (n', sl', SH', FI', FL', FR') ∧ g_ex n SH n' SH' ∧ h_S n' SH' ∧ g_I FI' ∧ g_fr n (shd SH) [(0, 9), (0, 12), (110, 3), (110, 4), (110, 5), (110, 6), (110, 7), (110, 8), (111, 4), (111, 6), (111, 7), (111, 8), (111, 9), (119, 1)] [21, 112, 114, 115, 117, 120] [1006, 1010] FI FI' ∧ g_fr n (shd SH) [(110, 9), (111, 10)] [113] [1101] FL FL' ∧ g_fr n (shd SH) [(0, 11), (110, 2), (111, 5)] [] [1104, 1105] FR FR' ∧ h_FR FR' ∧ g_R n' SH' FR' ∧ ((n' : Int) ≤ n + 32 * (FI 0 9).toInt + 80) ∧ ((sl' : Int) ≤ sl + 300 * (FI 0 9).toInt + 8000) ∧ ((n : Int) ≤ n') ∧ ((FI' 0 9).toInt = 0) ∧ (∃ gp2 gw2 gs2, g_T n' SH' FI' FR' gp2 gw2 gs2 ∧ (∀ c, c < n → gp2 c = gp c ∧ gw2 c = gw c ∧ gs2 c = gs c) ∧ True) ∧ (g_V SH' FI' FR'))) := by
  have hk0 : ∀ c, c < n → gp c = gp c ∧ gw c = gw c ∧ gs c = gs c := fun _ _ => ⟨rfl, rfl, rfl⟩
  obtain ⟨x1, h2⟩ : ∃ y, FI 0 9 = y := ⟨_, rfl⟩
  have h2l := congrArg Int32.toInt h2
  have b3 := gI_0_9 hI; rw [h2] at b3
  obtain ⟨x4, h5⟩ : ∃ y, FI 0 12 = y := ⟨_, rfl⟩
  have h5l := congrArg Int32.toInt h5
  have b6 := gI_0_12 hI; rw [h5] at b6
  obtain ⟨o7, h8⟩ : ∃ y, FR 0 11 = y := ⟨_, rfl⟩
  have ht9 : ∀ r, o7 = some r → r < n ∧ own r ∧ SH r = (104, (SH r).2) := fun r e => gR_get hR (c0 hS) (Or.inl (by decide)) (s0 hS) (h8.trans e)
  refine hw_aloadn (aX11_compile 0 rfl) rfl ?_
  refine hw_get (v := .int (x1)) (aX11_compile 1 rfl) wf_RX11_69 (c0 hS) (s0 hS) (by decide) (congrArg Value.int (show FI 0 9 = x1 from h2)) ?_
  refine xw_istoren (L2 := [(1, .int (x1)), (0, .ref (base + 0))]) (aX11_compile 2 rfl) (by decide) rfl ?_
  refine hw_aloadn (aX11_compile 3 rfl) rfl ?_
  refine hw_ic (v := (0 : Int32)) (aX11_compile 4 rfl) (by decide) ?_
  refine hv_puti (aX11_compile 5 rfl) wf_RX11_69 (c0 hS) (s0 hS) (by decide) rfl rfl (fun FI10 u11 => ?_)
  have hT12 : g_T n SH FI10 FR gp gw gs := gT_wi gg0 (fun h => absurd h (by rw [(s0 hS)]; decide)) u11
  have hI13 : g_I FI10 := gU_0_9 hI u11 (by have := ((by decide : (0 : Int32).toInt = 0) : ((0 : Int32)).toInt = 0); omega) (by have := ((by decide : (0 : Int32).toInt = 0) : ((0 : Int32)).toInt = 0); omega)
  refine hw_aloadn (aX11_compile 6 rfl) rfl ?_
  refine hw_get (v := .ref (base + 110)) (aX11_compile 7 rfl) wf_RX11_58 (c0 hS) (s0 hS) (by decide) (congrArg (fun r => va_rf (h_rf base r)) (r0_3 hF)) ?_
  refine hw_aloadn (aX11_compile 8 rfl) rfl ?_
  refine hw_get (v := .ref (base + 19)) (aX11_compile 9 rfl) wf_RX11_16 (c0 hS) (s0 hS) (by decide) (congrArg (fun r => va_rf (h_rf base r)) (r0_6 hF)) ?_
  refine xw_iloadn (aX11_compile 10 rfl) rfl ?_
  refine hw_callV (Bs := [.ref (base + 19), .int (x1)]) (rest := []) (aX11_compile 11 rfl) wc_RX11_229 (by decide) rfl wi_yX4_begin wv_yX4_begin (c110 hS) (s110 hS) rfl rfl rfl (Nat.le_of_ble_eq_true rfl) (Nat.le_of_ble_eq_true rfl) (k_X4_begin (d := d + 242) hS hF hI13 hR (x1) (gp) (gw) (gs) (by omega) (hT12)) (fun v14 sv15 p16 => ?_)
  obtain ⟨rfl, n41, sl42, SH43, FI18, FL19, FR20, rfl, ex44, hS45, hI21, f22, f23, f24, hF25, hR26, t27, t28, t29, t30, t31, t32, t33, t34, u35, u36, u37, u38⟩ := p16
  obtain ⟨gp46, gw47, gs48, hT49, hkp50, hq51⟩ := u35
  have hk52 : ∀ c, c < n → gp46 c = gp c ∧ gw47 c = gw c ∧ gs48 c = gs c := fun c hc => by obtain ⟨k1, k2, k3⟩ := hk0 c hc; obtain ⟨m1, m2, m3⟩ := hkp50 c (Nat.lt_of_lt_of_le hc (Nat.le_refl _)); exact ⟨m1.trans k1, m2.trans k2, m3.trans k3⟩
  have ht53 := ex_ty ex44 ht9
  obtain ⟨x54, h55⟩ : ∃ y, FI18 110 5 = y := ⟨_, rfl⟩
  have h55l := congrArg Int32.toInt h55
  have := i_rng x54
  obtain ⟨x56, h57⟩ : ∃ y, FI18 110 4 = y := ⟨_, rfl⟩
  have h57l := congrArg Int32.toInt h57
  have := i_rng x56
  obtain ⟨x58, h59⟩ : ∃ y, FI18 110 7 = y := ⟨_, rfl⟩
  have h59l := congrArg Int32.toInt h59
  have b60 := gI_110_7 hI21; rw [h59] at b60
  obtain ⟨x61, h62⟩ : ∃ y, FI18 111 4 = y := ⟨_, rfl⟩
  have h62l := congrArg Int32.toInt h62
  have b63 := gI_111_4 hI21; rw [h62] at b63
  obtain ⟨x64, h65⟩ : ∃ y, FI18 110 8 = y := ⟨_, rfl⟩
  have h65l := congrArg Int32.toInt h65
  have := i_rng x64
  show hw sk base _ _ _ _ _ [] _ _
  have ol66 : ∀ c9 k9, c9 < n → (SH c9).1 = 104 → 176 ≤ c9 → FR20 c9 k9 = FR c9 k9 := fun c9 k9 h1 h2 h3 => g_low_at (L := [(110, 2), (111, 5)]) (A := []) (T := []) (ts := [1104]) (t := 1104) f24 (by decide) h1 h3 (by rw [h2]) (by decide)
  refine hw_ic (v := (0 : Int32)) (aX11_compile 12 rfl) (by decide) ?_
  refine xw_istoren (L2 := [(2, .int ((0 : Int32))), (1, .int (x1)), (0, .ref (base + 0))]) (aX11_compile 13 rfl) (by decide) rfl ?_
  have lp101 : ∀ (m : Nat) (y2 : Int32) (FIv72 : Nat → Nat → Int32) (FLv73 : Nat → Nat → Int64) (FRv74 : Nat → Nat → Option Nat) (n67 sl68 : Nat) (SH69 : Nat → Nat × Nat) (gp75 gw76 gs77 : Nat → Nat), (g_ex n41 SH43 n67 SH69) → (h_S n67 SH69) → (g_T n67 SH69 FIv72 FRv74 gp75 gw76 gs77) → (∀ c, c < n → gp75 c = gp c ∧ gw76 c = gw c ∧ gs77 c = gs c) → (g_fr n (shd SH) [(0, 9), (0, 12), (110, 3), (110, 4), (110, 5), (110, 6), (110, 7), (110, 8), (111, 4), (111, 6), (111, 7), (111, 8), (111, 9), (119, 1)] [21, 112, 114, 115, 117, 120] [1006, 1010] FI FIv72) → (g_fr n (shd SH) [(110, 9), (111, 10)] [113] [1101] FL FLv73) → (g_fr n (shd SH) [(0, 11), (110, 2), (111, 5)] [] [1104, 1105] FR FRv74) → (g_I FIv72) → (h_FR FRv74) → (g_R n67 SH69 FRv74) → (FIv72 0 12 = x4) → (FRv74 0 11 = o7) → (FIv72 0 9 = (0 : Int32)) → (FIv72 111 4 = x61) → (FRv74 111 5 = (some 19)) → (0 ≤ (y2).toInt ∧ (y2).toInt ≤ 1001) → (0 ≤ (FIv72 110 7).toInt ∧ (FIv72 110 7).toInt < (x61).toInt) → ((FIv72 110 5).toInt = 0 ∨ (FIv72 110 8).toInt = 1) → ((FIv72 110 7).toInt + 1 < (x61).toInt ∨ (FIv72 110 8).toInt ≤ 3) → ((FIv72 110 5).toInt ≠ 0 ∨ (FIv72 110 4).toInt = 0) → ((x61).toInt ≤ (FI 0 9).toInt + 2) → ((n67 : Int) ≤ n + 1 + 17 * (FIv72 110 7).toInt + 15 * (y2).toInt) → ((sl68 : Int) ≤ sl + 12 + 7 * ((n67 : Int) - n) + (FIv72 110 7).toInt + 60 * (y2).toInt) → ((n : Int) ≤ n67) → ((y2).toInt ≤ (FI 0 9).toInt + 1) → (g_K FIv72) → (g_PV n SH69 FRv74 (FIv72 110 3).toInt) → (∀ c9 k9, c9 < n → (SH c9).1 = 104 → 176 ≤ c9 → FRv74 c9 k9 = FR c9 k9) → 1002 - (y2).toInt < m → hw sk base (d + 252) none 146 24 [(2, .int (y2)), (1, .int (x1)), (0, .ref (base + 0))] [] (n67, sl68, SH69, FIv72, FLv73, FRv74) (h_I (fun r s => ∃ n' sl' SH' FI' FL' FR', s = (n', sl', SH', FI', FL', FR') ∧ g_ex n SH n' SH' ∧ h_S n' SH' ∧ g_I FI' ∧ g_fr n (shd SH) [(0, 9), (0, 12), (110, 3), (110, 4), (110, 5), (110, 6), (110, 7), (110, 8), (111, 4), (111, 6), (111, 7), (111, 8), (111, 9), (119, 1)] [21, 112, 114, 115, 117, 120] [1006, 1010] FI FI' ∧ g_fr n (shd SH) [(110, 9), (111, 10)] [113] [1101] FL FL' ∧ g_fr n (shd SH) [(0, 11), (110, 2), (111, 5)] [] [1104, 1105] FR FR' ∧ h_FR FR' ∧ g_R n' SH' FR' ∧ ((n' : Int) ≤ n + 32 * (FI 0 9).toInt + 80) ∧ ((sl' : Int) ≤ sl + 300 * (FI 0 9).toInt + 8000) ∧ ((n : Int) ≤ n') ∧ ((FI' 0 9).toInt = 0) ∧ (∃ gp2 gw2 gs2, g_T n' SH' FI' FR' gp2 gw2 gs2 ∧ (∀ c, c < n → gp2 c = gp c ∧ gw2 c = gw c ∧ gs2 c = gs c) ∧ True) ∧ (g_V SH' FI' FR'))) := by
    intro m
    induction m with
    | zero => intro y2 FIv72 FLv73 FRv74 n67 sl68 SH69 gp75 gw76 gs77 ex70 hS71 hT78 hk79 fr80 fr81 fr82 hI83 hF84 hR85 kp86 kp87 kp88 kp89 kp90 iv91 iv92 iv93 iv94 iv95 iv96 iv97 iv98 iv99 iv100 xi24_0 xi24_1 xi24_2 hm; omega
    | succ m ih =>
      intro y2 FIv72 FLv73 FRv74 n67 sl68 SH69 gp75 gw76 gs77 ex70 hS71 hT78 hk79 fr80 fr81 fr82 hI83 hF84 hR85 kp86 kp87 kp88 kp89 kp90 iv91 iv92 iv93 iv94 iv95 iv96 iv97 iv98 iv99 iv100 xi24_0 xi24_1 xi24_2 hm
      have rg_y2 := i_rng y2
      have := congrArg Int32.toInt kp86
      have := congrArg Int32.toInt kp88
      have := congrArg Int32.toInt kp89
      have ht102 := ex_ty ex70 ht53
      have ex103 := ex_tr ex44 ex70
      obtain ⟨x104, h105⟩ : ∃ y, FIv72 110 7 = y := ⟨_, rfl⟩
      have h105l := congrArg Int32.toInt h105
      have b106 := gI_110_7 hI83; rw [h105] at b106
      obtain ⟨x107, h108⟩ : ∃ y, FIv72 110 5 = y := ⟨_, rfl⟩
      have h108l := congrArg Int32.toInt h108
      have := i_rng x107
      obtain ⟨x109, h110⟩ : ∃ y, FIv72 110 8 = y := ⟨_, rfl⟩
      have h110l := congrArg Int32.toInt h110
      have := i_rng x109
      obtain ⟨x111, h112⟩ : ∃ y, FIv72 110 4 = y := ⟨_, rfl⟩
      have h112l := congrArg Int32.toInt h112
      have := i_rng x111
      refine xw_iloadn (aX11_compile 14 rfl) rfl ?_
      refine xw_iloadn (aX11_compile 15 rfl) rfl ?_
      refine hw_icgt (tgt := 52) (aX11_compile 16 rfl) (by decide) rfl rfl (fun cd113 => ?_) (fun cd113 => ?_)
      · refine hw_aloadn (aX11_compile 26 rfl) rfl ?_
        refine hw_get (v := .ref (base + 110)) (aX11_compile 27 rfl) wf_RX11_58 (c0 hS71) (s0 hS71) (by decide) (congrArg (fun r => va_rf (h_rf base r)) (r0_3 hF84)) ?_
        refine hw_get (v := .int (x107)) (aX11_compile 28 rfl) wf_RX11_239 (c110 hS71) (s110 hS71) (by decide) (congrArg Value.int (show FIv72 110 5 = x107 from h108)) ?_
        refine xw_istoren (L2 := [(2, .int (x107)), (1, .int (x1)), (0, .ref (base + 0))]) (aX11_compile 29 rfl) (by decide) rfl ?_
        refine hw_aloadn (aX11_compile 30 rfl) rfl ?_
        refine hw_get (v := .ref (base + 110)) (aX11_compile 31 rfl) wf_RX11_58 (c0 hS71) (s0 hS71) (by decide) (congrArg (fun r => va_rf (h_rf base r)) (r0_3 hF84)) ?_
        obtain ⟨x114, h115⟩ : ∃ y, FIv72 110 6 = y := ⟨_, rfl⟩
        have h115l := congrArg Int32.toInt h115
        have := i_rng x114
        refine hw_get (v := .int (x114)) (aX11_compile 32 rfl) wf_RX11_242 (c110 hS71) (s110 hS71) (by decide) (congrArg Value.int (show FIv72 110 6 = x114 from h115)) ?_
        refine xw_istoren (L2 := [(3, .int (x114)), (2, .int (x107)), (1, .int (x1)), (0, .ref (base + 0))]) (aX11_compile 33 rfl) (by decide) rfl ?_
        refine hw_ic (v := (0 : Int32)) (aX11_compile 34 rfl) (by decide) ?_
        refine xw_istore (L2 := [(4, .int ((0 : Int32))), (3, .int (x114)), (2, .int (x107)), (1, .int (x1)), (0, .ref (base + 0))]) (aX11_compile 35 rfl) (by decide) rfl ?_
        have lp149 : ∀ (m : Nat) (y4 : Int32) (y3 : Int32) (y2_121 : Int32) (FIv122 : Nat → Nat → Int32) (FLv123 : Nat → Nat → Int64) (FRv124 : Nat → Nat → Option Nat) (n116 sl117 : Nat) (SH118 : Nat → Nat × Nat) (gp125 gw126 gs127 : Nat → Nat), (g_ex n67 SH69 n116 SH118) → (h_S n116 SH118) → (g_T n116 SH118 FIv122 FRv124 gp125 gw126 gs127) → (∀ c, c < n → gp125 c = gp c ∧ gw126 c = gw c ∧ gs127 c = gs c) → (g_fr n (shd SH) [(0, 9), (0, 12), (110, 3), (110, 4), (110, 5), (110, 6), (110, 7), (110, 8), (111, 4), (111, 6), (111, 7), (111, 8), (111, 9), (119, 1)] [21, 112, 114, 115, 117, 120] [1006, 1010] FI FIv122) → (g_fr n (shd SH) [(110, 9), (111, 10)] [113] [1101] FL FLv123) → (g_fr n (shd SH) [(0, 11), (110, 2), (111, 5)] [] [1104, 1105] FR FRv124) → (g_I FIv122) → (h_FR FRv124) → (g_R n116 SH118 FRv124) → (FIv122 0 12 = x4) → (FRv124 0 11 = o7) → (FIv122 0 9 = (0 : Int32)) → (FIv122 111 4 = x61) → (FIv122 110 7 = x104) → (FIv122 110 5 = x107) → (FIv122 110 8 = x109) → (FIv122 110 4 = x111) → (FIv122 110 6 = x114) → (0 ≤ (y4).toInt ∧ (y4).toInt ≤ 12) → ((n116 : Int) ≤ n + 32 * (FI 0 9).toInt + 60 + (y4).toInt) → ((sl117 : Int) ≤ sl + 300 * (FI 0 9).toInt + 700 + 600 * (y4).toInt) → ((n : Int) ≤ n116) → (g_PV n SH118 FRv124 (FIv122 110 3).toInt) → (∀ c9 k9, c9 < n → (SH c9).1 = 104 → 176 ≤ c9 → FRv124 c9 k9 = FR c9 k9) → ((y2_121).toInt = 0 → g_CD FRv124 (y4).toInt) → 13 - (y4).toInt < m → hw sk base (d + 252) none 146 71 [(4, .int (y4)), (3, .int (y3)), (2, .int (y2_121)), (0, .ref (base + 0))] [] (n116, sl117, SH118, FIv122, FLv123, FRv124) (h_I (fun r s => ∃ n' sl' SH' FI' FL' FR', s = (n', sl', SH', FI', FL', FR') ∧ g_ex n SH n' SH' ∧ h_S n' SH' ∧ g_I FI' ∧ g_fr n (shd SH) [(0, 9), (0, 12), (110, 3), (110, 4), (110, 5), (110, 6), (110, 7), (110, 8), (111, 4), (111, 6), (111, 7), (111, 8), (111, 9), (119, 1)] [21, 112, 114, 115, 117, 120] [1006, 1010] FI FI' ∧ g_fr n (shd SH) [(110, 9), (111, 10)] [113] [1101] FL FL' ∧ g_fr n (shd SH) [(0, 11), (110, 2), (111, 5)] [] [1104, 1105] FR FR' ∧ h_FR FR' ∧ g_R n' SH' FR' ∧ ((n' : Int) ≤ n + 32 * (FI 0 9).toInt + 80) ∧ ((sl' : Int) ≤ sl + 300 * (FI 0 9).toInt + 8000) ∧ ((n : Int) ≤ n') ∧ ((FI' 0 9).toInt = 0) ∧ (∃ gp2 gw2 gs2, g_T n' SH' FI' FR' gp2 gw2 gs2 ∧ (∀ c, c < n → gp2 c = gp c ∧ gw2 c = gw c ∧ gs2 c = gs c) ∧ True) ∧ (g_V SH' FI' FR'))) := by
          intro m
          induction m with
          | zero => intro y4 y3 y2_121 FIv122 FLv123 FRv124 n116 sl117 SH118 gp125 gw126 gs127 ex119 hS120 hT128 hk129 fr130 fr131 fr132 hI133 hF134 hR135 kp136 kp137 kp138 kp139 kp140 kp141 kp142 kp143 kp144 iv145 iv146 iv147 iv148 xi71_0 xi71_1 xi71_2 hm; omega
          | succ m ih71 =>
            intro y4 y3 y2_121 FIv122 FLv123 FRv124 n116 sl117 SH118 gp125 gw126 gs127 ex119 hS120 hT128 hk129 fr130 fr131 fr132 hI133 hF134 hR135 kp136 kp137 kp138 kp139 kp140 kp141 kp142 kp143 kp144 iv145 iv146 iv147 iv148 xi71_0 xi71_1 xi71_2 hm
            have rg_y4 := i_rng y4
            have rg_y3 := i_rng y3
            have rg_y2_121 := i_rng y2_121
            have := congrArg Int32.toInt kp136
            have := congrArg Int32.toInt kp138
            have := congrArg Int32.toInt kp139
            have := congrArg Int32.toInt kp140
            have := congrArg Int32.toInt kp141
            have := congrArg Int32.toInt kp142
            have := congrArg Int32.toInt kp143
            have := congrArg Int32.toInt kp144
            have ht150 := ex_ty ex119 ht102
            have ex151 := ex_tr ex70 ex119
            have ex152 := ex_tr ex103 ex119
            refine xw_iload (aX11_compile 36 rfl) rfl ?_
            refine hw_aloadn (aX11_compile 37 rfl) rfl ?_
            refine hw_get (v := .ref (base + 110)) (aX11_compile 38 rfl) wf_RX11_58 (c0 hS120) (s0 hS120) (by decide) (congrArg (fun r => va_rf (h_rf base r)) (r0_3 hF134)) ?_
            obtain ⟨x153, h154⟩ : ∃ y, FIv122 110 3 = y := ⟨_, rfl⟩
            have h154l := congrArg Int32.toInt h154
            have b155 := gI_110_3 hI133; rw [h154] at b155
            refine hw_get (v := .int (x153)) (aX11_compile 39 rfl) wf_RX11_243 (c110 hS120) (s110 hS120) (by decide) (congrArg Value.int (show FIv122 110 3 = x153 from h154)) ?_
            refine hw_icge (tgt := 136) (aX11_compile 40 rfl) (by decide) rfl rfl (fun cd156 => ?_) (fun cd156 => ?_)
            · refine hw_aloadn (aX11_compile 65 rfl) rfl ?_
              refine xw_iloadn (aX11_compile 66 rfl) rfl ?_
              refine xw_iloadn (aX11_compile 67 rfl) rfl ?_
              refine hw_ic (v := (0 : Int32)) (aX11_compile 68 rfl) (by decide) ?_
              refine hw_ic (v := (0 : Int32)) (aX11_compile 69 rfl) (by decide) ?_
              refine hw_callV (Bs := [.int (y2_121), .int (y3), .int ((0 : Int32)), .int ((0 : Int32))]) (rest := []) (aX11_compile 70 rfl) wc_RX11_159 (by decide) rfl wi_yX11_tell wv_yX11_tell (c0 hS120) (s0 hS120) rfl rfl rfl (Nat.le_of_ble_eq_true rfl) (Nat.le_of_ble_eq_true rfl) (k_X11_tell (d := d + 251) hS120 hF134 hI133 hR135 (y2_121) (y3) ((0 : Int32)) ((0 : Int32)) ) (fun v157 sv158 p159 => ?_)
              obtain ⟨rfl, FI161, rfl, hI162, f163⟩ := p159
              have hT168 : g_T n116 SH118 FI161 FRv124 gp125 gw126 gs127 := gT_mw (L := []) (A := [21]) (T := []) (L2 := []) (A2 := []) (T2 := []) hS120 hT128 f163 gf_rf (by decide) (by decide)
              show hw sk base _ _ _ _ _ [] _ _
              refine xw_iloadn (aX11_compile 71 rfl) rfl ?_
              refine hw_ifeq (tgt := 150) (aX11_compile 72 rfl) (by decide) rfl (fun cd169 => ?_) (fun cd169 => ?_)
              · refine hw_aloadn (aX11_compile 75 rfl) rfl ?_
                refine hw_aloadn (aX11_compile 76 rfl) rfl ?_
                refine hw_get (v := .ref (base + 110)) (aX11_compile 77 rfl) wf_RX11_58 (c0 hS120) (s0 hS120) (by decide) (congrArg (fun r => va_rf (h_rf base r)) (r0_3 hF134)) ?_
                obtain ⟨o170, h171⟩ : ∃ y, FRv124 110 2 = y := ⟨_, rfl⟩
                have ht172 : ∀ r, o170 = some r → r < n116 ∧ own r ∧ SH118 r = (104, (SH118 r).2) := fun r e => gR_get hR135 (c110 hS120) (Or.inl (by decide)) (s110 hS120) (h171.trans e)
                obtain ⟨r173, rfl⟩ := gR_nn hR135 (by unfold g_nn; omega) h171
                obtain ⟨lt174, ow175, sh176⟩ := ht172 r173 rfl
                refine hw_get (v := .ref (base + r173)) (aX11_compile 78 rfl) wf_RX11_245 (c110 hS120) (s110 hS120) (by decide) (congrArg (fun r => va_rf (h_rf base r)) (show FRv124 110 2 = some r173 from h171)) ?_
                refine hv_putr (r := some (r173)) (aX11_compile 79 rfl) wf_RX11_28 (c0 hS120) (s0 hS120) (by decide) (by first | exact Or.inl ⟨_, rfl⟩ | exact Or.inr ⟨_, rfl⟩) (Or.inl rfl) (fun FR177 u178 => ?_)
                have hT179 : g_T n116 SH118 FI161 FR177 gp125 gw126 gs127 := gT_wo hT168 (by rw [(s0 hS120)]; decide) (by rw [(s0 hS120)]; decide) u178
                have hF180 : h_FR FR177 := hF_up hS120 hF134 u178 (s0 hS120) (by decide +kernel)
                have hR181 : g_R n116 SH118 FR177 := gR_up hR135 u178 (s0 hS120) (fun r e => by cases e; exact ⟨lt174, ow175, by rw [sh176]; rfl⟩) (fun h => absurd h (by have := (by decide : 0 < 176); omega)) (fun _ => by simp) (fun h => absurd h.1 (by decide))
                refine hw_aloadn (aX11_compile 80 rfl) rfl ?_
                refine hw_aloadn (aX11_compile 81 rfl) rfl ?_
                refine hw_get (v := .ref (base + 110)) (aX11_compile 82 rfl) wf_RX11_58 (c0 hS120) (s0 hS120) (by decide) (congrArg (fun r => va_rf (h_rf base r)) (r0_3 hF180)) ?_
                refine hw_get (v := .int (x153)) (aX11_compile 83 rfl) wf_RX11_243 (c110 hS120) (s110 hS120) (by decide) (congrArg Value.int (show FI161 110 3 = x153 from (gf_at f163 (c110 hS120) (shd_f (by decide) (s110 hS120)) rfl (h154)))) ?_
                refine hv_puti (aX11_compile 84 rfl) wf_RX11_253 (c0 hS120) (s0 hS120) (by decide) rfl rfl (fun FI182 u183 => ?_)
                have hT184 : g_T n116 SH118 FI182 FR177 gp125 gw126 gs127 := gT_wi hT179 (fun h => absurd h (by rw [(s0 hS120)]; decide)) u183
                have hI185 : g_I FI182 := gU_0_12 hI162 u183 (by omega) (by omega)
                refine hw_aloadn (aX11_compile 85 rfl) rfl ?_
                refine hw_get (v := .int (x153)) (aX11_compile 86 rfl) wf_RX11_253 (c0 hS120) (s0 hS120) (by decide) (congrArg Value.int (show FI182 0 12 = x153 from up_eq u183)) ?_
                refine xw_iret (aX11_compile 87 rfl) rfl rfl ?_
                exact ⟨x153, rfl, n116, sl117, SH118, FI182, FLv123, FR177, rfl, ex152, hS120, hI185, (gf_f (gf_tr (ex_shd ex152) fr130 f163 rfl rfl rfl) u183 (by decide)), fr131, (gf_f fr132 u178 (by decide)), hF180, hR181, (by omega), (by omega), (by omega), (by have := congrArg Int32.toInt (show FI182 0 9 = (0 : Int32) from (up_k u183 (by decide) ((gf_at f163 (c0 hS120) (shd_f (by decide) (s0 hS120)) rfl (kp138))))); have := ((by decide : (0 : Int32).toInt = 0) : ((0 : Int32)).toInt = 0); omega), (by exact ⟨gp125, gw126, gs127, hT184, hk129, trivial⟩), (by have hq3 := congrArg Int32.toInt (show FI182 0 12 = x153 from up_eq u183); exact gV_new (FR := FRv124) (cn := (FIv122 110 3).toInt) hR135 hS120 xi71_0 (fun i hi => xi71_2 (by omega) i (by omega)) ((up_eq u178).trans (show FRv124 110 2 = some (r173) from h171).symm) (fun c k hc => up_c u178 (by omega) rfl) (by omega))⟩
              · refine hw_ic (v := ((-1) : Int32)) (aX11_compile 73 rfl) (by decide) ?_
                refine xw_iret (aX11_compile 74 rfl) rfl rfl ?_
                have e186 : (((-1) : Int32)).toInt = (-1) := (by decide : ((-1) : Int32).toInt = (-1))
                exact ⟨((-1) : Int32), rfl, n116, sl117, SH118, FI161, FLv123, FRv124, rfl, ex152, hS120, hI162, (gf_tr (ex_shd ex152) fr130 f163 rfl rfl rfl), fr131, fr132, hF134, hR135, (by have : (((-1) : Int32)).toInt = (-1) := (by decide); omega), (by have : (((-1) : Int32)).toInt = (-1) := (by decide); omega), (by have : (((-1) : Int32)).toInt = (-1) := (by decide); omega), (by have : (((-1) : Int32)).toInt = (-1) := (by decide); have := congrArg Int32.toInt (show FI161 0 9 = (0 : Int32) from (gf_at f163 (c0 hS120) (shd_f (by decide) (s0 hS120)) rfl (kp138))); have := ((by decide : (0 : Int32).toInt = 0) : ((0 : Int32)).toInt = 0); omega), (by exact ⟨gp125, gw126, gs127, hT168, hk129, trivial⟩), (by exact gV_old (L := [(0, 11), (110, 2), (111, 5)]) (A := []) (T := [1104, 1105]) hS hR ex152 gg1 ((show FI161 0 12 = x4 from (gf_at f163 (c0 hS120) (shd_f (by decide) (s0 hS120)) rfl (kp136))).trans (h5).symm) ((show FRv124 0 11 = o7 from kp137).trans (h8).symm) xi71_1 fr132 (by decide))⟩
            · have hPVd := xi71_0
              obtain ⟨pv, h187, h188, h189, h190, h191⟩ := hPVd
              obtain ⟨lt193, ow194, sh195⟩ := gR_get hR135 (c110 hS120) (Or.inl (by decide)) (s110 hS120) h187
              refine xw_iloadn (aX11_compile 41 rfl) rfl ?_
              refine hw_ifne (tgt := 136) (aX11_compile 42 rfl) (by decide) rfl (fun cd196 => ?_) (fun cd196 => ?_)
              · refine hw_aloadn (aX11_compile 65 rfl) rfl ?_
                refine xw_iloadn (aX11_compile 66 rfl) rfl ?_
                refine xw_iloadn (aX11_compile 67 rfl) rfl ?_
                refine hw_ic (v := (0 : Int32)) (aX11_compile 68 rfl) (by decide) ?_
                refine hw_ic (v := (0 : Int32)) (aX11_compile 69 rfl) (by decide) ?_
                refine hw_callV (Bs := [.int (y2_121), .int (y3), .int ((0 : Int32)), .int ((0 : Int32))]) (rest := []) (aX11_compile 70 rfl) wc_RX11_159 (by decide) rfl wi_yX11_tell wv_yX11_tell (c0 hS120) (s0 hS120) rfl rfl rfl (Nat.le_of_ble_eq_true rfl) (Nat.le_of_ble_eq_true rfl) (k_X11_tell (d := d + 251) hS120 hF134 hI133 hR135 (y2_121) (y3) ((0 : Int32)) ((0 : Int32)) ) (fun v197 sv198 p199 => ?_)
                obtain ⟨rfl, FI201, rfl, hI202, f203⟩ := p199
                have hT208 : g_T n116 SH118 FI201 FRv124 gp125 gw126 gs127 := gT_mw (L := []) (A := [21]) (T := []) (L2 := []) (A2 := []) (T2 := []) hS120 hT128 f203 gf_rf (by decide) (by decide)
                show hw sk base _ _ _ _ _ [] _ _
                refine xw_iloadn (aX11_compile 71 rfl) rfl ?_
                refine hw_ifeq (tgt := 150) (aX11_compile 72 rfl) (by decide) rfl (fun cd209 => ?_) (fun cd209 => ?_)
                · refine hw_aloadn (aX11_compile 75 rfl) rfl ?_
                  refine hw_aloadn (aX11_compile 76 rfl) rfl ?_
                  refine hw_get (v := .ref (base + 110)) (aX11_compile 77 rfl) wf_RX11_58 (c0 hS120) (s0 hS120) (by decide) (congrArg (fun r => va_rf (h_rf base r)) (r0_3 hF134)) ?_
                  refine hw_get (v := .ref (base + pv)) (aX11_compile 78 rfl) wf_RX11_245 (c110 hS120) (s110 hS120) (by decide) (congrArg (fun r => va_rf (h_rf base r)) (show FRv124 110 2 = some pv from h187)) ?_
                  refine hv_putr (r := some (pv)) (aX11_compile 79 rfl) wf_RX11_28 (c0 hS120) (s0 hS120) (by decide) (by first | exact Or.inl ⟨_, rfl⟩ | exact Or.inr ⟨_, rfl⟩) (Or.inl rfl) (fun FR210 u211 => ?_)
                  have hT212 : g_T n116 SH118 FI201 FR210 gp125 gw126 gs127 := gT_wo hT208 (by rw [(s0 hS120)]; decide) (by rw [(s0 hS120)]; decide) u211
                  have hF213 : h_FR FR210 := hF_up hS120 hF134 u211 (s0 hS120) (by decide +kernel)
                  have hR214 : g_R n116 SH118 FR210 := gR_up hR135 u211 (s0 hS120) (fun r e => by cases e; exact ⟨lt193, ow194, by rw [h188]; rfl⟩) (fun h => absurd h (by have := (by decide : 0 < 176); omega)) (fun _ => by simp) (fun h => absurd h.1 (by decide))
                  refine hw_aloadn (aX11_compile 80 rfl) rfl ?_
                  refine hw_aloadn (aX11_compile 81 rfl) rfl ?_
                  refine hw_get (v := .ref (base + 110)) (aX11_compile 82 rfl) wf_RX11_58 (c0 hS120) (s0 hS120) (by decide) (congrArg (fun r => va_rf (h_rf base r)) (r0_3 hF213)) ?_
                  refine hw_get (v := .int (x153)) (aX11_compile 83 rfl) wf_RX11_243 (c110 hS120) (s110 hS120) (by decide) (congrArg Value.int (show FI201 110 3 = x153 from (gf_at f203 (c110 hS120) (shd_f (by decide) (s110 hS120)) rfl (h154)))) ?_
                  refine hv_puti (aX11_compile 84 rfl) wf_RX11_253 (c0 hS120) (s0 hS120) (by decide) rfl rfl (fun FI215 u216 => ?_)
                  have hT217 : g_T n116 SH118 FI215 FR210 gp125 gw126 gs127 := gT_wi hT212 (fun h => absurd h (by rw [(s0 hS120)]; decide)) u216
                  have hI218 : g_I FI215 := gU_0_12 hI202 u216 (by omega) (by omega)
                  refine hw_aloadn (aX11_compile 85 rfl) rfl ?_
                  refine hw_get (v := .int (x153)) (aX11_compile 86 rfl) wf_RX11_253 (c0 hS120) (s0 hS120) (by decide) (congrArg Value.int (show FI215 0 12 = x153 from up_eq u216)) ?_
                  refine xw_iret (aX11_compile 87 rfl) rfl rfl ?_
                  exact ⟨x153, rfl, n116, sl117, SH118, FI215, FLv123, FR210, rfl, ex152, hS120, hI218, (gf_f (gf_tr (ex_shd ex152) fr130 f203 rfl rfl rfl) u216 (by decide)), fr131, (gf_f fr132 u211 (by decide)), hF213, hR214, (by omega), (by omega), (by omega), (by have := congrArg Int32.toInt (show FI215 0 9 = (0 : Int32) from (up_k u216 (by decide) ((gf_at f203 (c0 hS120) (shd_f (by decide) (s0 hS120)) rfl (kp138))))); have := ((by decide : (0 : Int32).toInt = 0) : ((0 : Int32)).toInt = 0); omega), (by exact ⟨gp125, gw126, gs127, hT217, hk129, trivial⟩), (by have hq3 := congrArg Int32.toInt (show FI215 0 12 = x153 from up_eq u216); exact gV_new (FR := FRv124) (cn := (FIv122 110 3).toInt) hR135 hS120 xi71_0 (fun i hi => xi71_2 (by omega) i (by omega)) ((up_eq u211).trans (show FRv124 110 2 = some (pv) from h187).symm) (fun c k hc => up_c u211 (by omega) rfl) (by omega))⟩
                · refine hw_ic (v := ((-1) : Int32)) (aX11_compile 73 rfl) (by decide) ?_
                  refine xw_iret (aX11_compile 74 rfl) rfl rfl ?_
                  have e219 : (((-1) : Int32)).toInt = (-1) := (by decide : ((-1) : Int32).toInt = (-1))
                  exact ⟨((-1) : Int32), rfl, n116, sl117, SH118, FI201, FLv123, FRv124, rfl, ex152, hS120, hI202, (gf_tr (ex_shd ex152) fr130 f203 rfl rfl rfl), fr131, fr132, hF134, hR135, (by have : (((-1) : Int32)).toInt = (-1) := (by decide); omega), (by have : (((-1) : Int32)).toInt = (-1) := (by decide); omega), (by have : (((-1) : Int32)).toInt = (-1) := (by decide); omega), (by have : (((-1) : Int32)).toInt = (-1) := (by decide); have := congrArg Int32.toInt (show FI201 0 9 = (0 : Int32) from (gf_at f203 (c0 hS120) (shd_f (by decide) (s0 hS120)) rfl (kp138))); have := ((by decide : (0 : Int32).toInt = 0) : ((0 : Int32)).toInt = 0); omega), (by exact ⟨gp125, gw126, gs127, hT208, hk129, trivial⟩), (by exact gV_old (L := [(0, 11), (110, 2), (111, 5)]) (A := []) (T := [1104, 1105]) hS hR ex152 gg1 ((show FI201 0 12 = x4 from (gf_at f203 (c0 hS120) (shd_f (by decide) (s0 hS120)) rfl (kp136))).trans (h5).symm) ((show FRv124 0 11 = o7 from kp137).trans (h8).symm) xi71_1 fr132 (by decide))⟩
              · refine hw_aloadn (aX11_compile 43 rfl) rfl ?_
                refine hw_get (v := .ref (base + 110)) (aX11_compile 44 rfl) wf_RX11_58 (c0 hS120) (s0 hS120) (by decide) (congrArg (fun r => va_rf (h_rf base r)) (r0_3 hF134)) ?_
                refine hw_get (v := .ref (base + pv)) (aX11_compile 45 rfl) wf_RX11_245 (c110 hS120) (s110 hS120) (by decide) (congrArg (fun r => va_rf (h_rf base r)) (show FRv124 110 2 = some pv from h187)) ?_
                refine xw_iload (aX11_compile 46 rfl) rfl ?_
                obtain ⟨r220, h221, h222, h223, h224⟩ := h191 (y4).toNatClampNeg (by have := i_cn (x := y4) (by omega); have := congrArg Int32.toInt (show FIv122 110 3 = x153 from h154); omega)
                obtain ⟨lt225, ow226, sh227⟩ := gR_get hR135 lt193 ow194 h188 h221
                have sh228 : SH118 r220 = (10, (SH118 r220).2) := sh227
                refine hw_aald (k := 4) (v := some (r220)) (aX11_compile 47 rfl) lt193 h188 (by decide) (by decide) (h_in rfl (by omega) (by omega)) (show FRv124 pv (y4).toNatClampNeg = some (r220) from h221) ?_
                refine hw_astore (L2 := [(5, .ref (base + r220)), (4, .int (y4)), (3, .int (y3)), (2, .int (y2_121)), (0, .ref (base + 0))]) (aX11_compile 48 rfl) (by decide) rfl ?_
                obtain ⟨⟨r229, h233, hz237⟩, ⟨r230, h234, hz238⟩, ⟨r231, h235, hz239⟩, ⟨r232, h236⟩⟩ := h224
                obtain ⟨lt241, ow242, sh243⟩ := gR_get hR135 lt225 ow226 sh228 h233
                obtain ⟨lt244, ow245, sh246⟩ := gR_get hR135 lt225 ow226 sh228 h234
                obtain ⟨lt247, ow248, sh249⟩ := gR_get hR135 lt225 ow226 sh228 h235
                obtain ⟨lt250, ow251, sh252⟩ := gR_get hR135 lt225 ow226 sh228 h236
                refine hw_aload (aX11_compile 49 rfl) rfl ?_
                refine hw_aloadn (aX11_compile 50 rfl) rfl ?_
                refine hw_get (v := .ref (base + 119)) (aX11_compile 51 rfl) wf_RX11_65 (c0 hS120) (s0 hS120) (by decide) (congrArg (fun r => va_rf (h_rf base r)) (r0_4 hF134)) ?_
                refine hw_aload (aX11_compile 52 rfl) rfl ?_
                refine hw_callV (Bs := [.ref (base + r220)]) (rest := [.ref (base + r220)]) (aX11_compile 53 rfl) wc_RX11_246 (by decide) rfl wi_yX0_code wv_yX0_code (c119 hS120) (s119 hS120) rfl rfl rfl (Nat.le_of_ble_eq_true rfl) (Nat.le_of_ble_eq_true rfl) (k_X0_code (d := d) hS120 hF134 hI133 hR135 (r220) lt225 sh228 ow226 (gp125) (gw126) (gs127) (hT128) ((show g_Vv SH118 FRv124 r220 from ⟨⟨_, h233, hz237⟩, ⟨_, h234, hz238⟩, ⟨_, h235, hz239⟩, ⟨_, h236⟩⟩))) (fun v253 sv254 p255 => ?_)
                obtain ⟨r256, rfl, n272, sl273, SH274, FI257, FL258, FR259, rfl, ex275, hS276, hI260, f261, f262, f263, hF264, hR265, t266, t267, t268, u269, ht270, hfr277⟩ := p255
                obtain ⟨gp278, gw279, gs280, hT281, hkp282, hq283⟩ := u269
                have hk284 : ∀ c, c < n → gp278 c = gp c ∧ gw279 c = gw c ∧ gs280 c = gs c := fun c hc => by obtain ⟨k1, k2, k3⟩ := hk129 c hc; obtain ⟨m1, m2, m3⟩ := hkp282 c (Nat.lt_of_lt_of_le hc (ex152).1); exact ⟨m1.trans k1, m2.trans k2, m3.trans k3⟩
                have lt285 := ex_lt ex275 lt193
                have sh286 := ex_sh ex275 lt193 h188
                have lt287 := ex_lt ex275 lt225
                have sh288 := ex_sh ex275 lt225 sh228
                have lt289 := ex_lt ex275 lt241
                have sh290 := ex_sh ex275 lt241 hz237
                have lt291 := ex_lt ex275 lt244
                have sh292 := ex_sh ex275 lt244 hz238
                have lt293 := ex_lt ex275 lt247
                have sh294 := ex_sh ex275 lt247 hz239
                have lt295 := ex_lt ex275 lt250
                have sh296 := ex_sh ex275 lt250 sh252
                have ht297 := ex_ty ex275 ht150
                have ex298 := ex_tr ex151 ex275
                have ex299 := ex_tr ex119 ex275
                have ex300 := ex_tr ex152 ex275
                show hw sk base _ _ _ _ _ [va_rf (h_rf base (r256)), .ref (base + r220)] _ _
                have pw301 : g_PV n SH274 FR259 (FI257 110 3).toInt := by rw [show FI257 110 3 = x153 from (gf_at f261 (c110 hS120) (shd_f (by decide) (s110 hS120)) rfl (h154)), ← (show FIv122 110 3 = x153 from h154)]; exact gPV_gr hS120 hR135 ex275 f263 xi71_0
                have ol302 : ∀ c9 k9, c9 < n → (SH c9).1 = 104 → 176 ≤ c9 → FR259 c9 k9 = FR c9 k9 := fun c9 k9 h1 h2 h3 => (f263 c9 k9 (ex_lt ex152 h1) (by simp) (by simp) (by simp)).trans (xi71_1 c9 k9 h1 h2 h3)
                have cdd303 := fun h => gCD_gr hS120 hR135 f263 (xi71_2 h)
                refine hv_putr (r := r256) (aX11_compile 54 rfl) wf_RX11_250 lt287 sh288 (by decide) (by first | exact Or.inl ⟨_, rfl⟩ | exact Or.inr ⟨_, rfl⟩) (Or.inl rfl) (fun FR304 u305 => ?_)
                have hT306 : g_T n272 SH274 FI257 FR304 gp278 gw279 gs280 := gT_wo hT281 (tag_ne sh288 (by decide)) (tag_ne sh288 (by decide)) u305
                have hF307 : h_FR FR304 := hF_up hS276 hF264 u305 sh288 (by decide +kernel)
                have hR308 : g_R n272 SH274 FR304 := gR_up hR265 u305 sh288 (fun r e => by obtain ⟨a, b, c⟩ := ht270 r e; exact ⟨a, b, by rw [c]; rfl⟩) (fun _ r e => (fun r e => Nat.le_trans hS120.1 (hfr277 r e)) r e) (fun h => absurd h (by unfold g_nn; have z : ∀ q, q = 0 ∨ q = 110 ∨ q = 111 ∨ q = 26 ∨ q = 43 → (SH274 q).1 ≠ 10 := (fun q hq => by rcases hq with rfl | rfl | rfl | rfl | rfl; { rw [s0 hS276]; decide }; { rw [s110 hS276]; decide }; { rw [s111 hS276]; decide }; { rw [s26 hS276]; decide }; { rw [s43 hS276]; decide }); have z2 := z r220; rw [sh288] at z2; omega)) (fun h => absurd h.1 (ne_tag sh288 (s49 hS276) (by decide)))
                have pw309 := gPV_cd hS276 (show (SH274 r220).1 = 10 from congrArg Prod.fst sh288) u305 pw301
                have ol310 : ∀ c9 k9, c9 < n → (SH c9).1 = 104 → 176 ≤ c9 → FR304 c9 k9 = FR c9 k9 := fun c9 k9 h1 h2 h3 => up_c u305 (Nat.ne_of_lt (Nat.lt_of_lt_of_le h1 h222)) (ol302 c9 k9 h1 h2 h3)
                refine hw_aload (aX11_compile 55 rfl) rfl ?_
                refine hw_get (v := va_rf (h_rf base (r256))) (aX11_compile 56 rfl) wf_RX11_250 lt287 sh288 (by decide) (congrArg (fun r => va_rf (h_rf base r)) (show FR304 r220 6 = r256 from up_eq u305)) ?_
                refine xw_ifnonnull (v := h_rf base r256) (tgt := 130) (aX11_compile 57 rfl) (by decide) (fun hn311 => ?_) (fun hn311 => ?_)
                · obtain ⟨r312, rfl⟩ := h_rf_s hn311
                  obtain ⟨lt313, ow314, sh315⟩ := ht270 r312 rfl
                  show hw sk base _ _ _ _ [(5, .ref (base + r220)), (4, .int (y4)), (3, .int (y3)), (2, .int (y2_121)), (0, .ref (base + 0))] [] _ _
                  obtain ⟨x316, q318⟩ : ∃ y : Int32, (y4) + Int32.ofInt (1) = y := ⟨_, rfl⟩
                  have e317 : (x316).toInt = (y4).toInt + (1) := by rw [← q318]; exact i_add rfl (by decide) (by omega) (by omega)
                  refine xw_iinc (L2 := [(4, .int (x316)), (5, .ref (base + r220)), (3, .int (y3)), (2, .int (y2_121)), (0, .ref (base + 0))]) (aX11_compile 63 rfl) rfl (by decide) (by rw [q318]; rfl) ?_
                  refine xw_goto (tgt := 71) (aX11_compile 64 rfl) (by decide) ?_
                  exact hw_L (ih71 (x316) (y3) (y2_121) FI257 FL258 FR304 n272 sl273 SH274 gp278 gw279 gs280 ex299 hS276 hT306 hk284 (gf_tr (ex_shd ex152) fr130 f261 rfl rfl rfl) (gf_tr (ex_shd ex152) fr131 f262 rfl rfl rfl) (gf_n (gf_tr (ex_shd ex152) fr132 f263 rfl rfl rfl) u305 h222) hI260 hF307 hR308 (show FI257 0 12 = x4 from (gf_at f261 (c0 hS120) (shd_f (by decide) (s0 hS120)) rfl (kp136))) (show FR304 0 11 = o7 from (up_c u305 (ne_tag (s0 hS276) sh288 (by decide)) ((gf_at f263 (c0 hS120) (shd_f (by decide) (s0 hS120)) rfl (kp137))))) (show FI257 0 9 = (0 : Int32) from (gf_at f261 (c0 hS120) (shd_f (by decide) (s0 hS120)) rfl (kp138))) (show FI257 111 4 = x61 from (gf_at f261 (c111 hS120) (shd_f (by decide) (s111 hS120)) rfl (kp139))) (show FI257 110 7 = x104 from (gf_at f261 (c110 hS120) (shd_f (by decide) (s110 hS120)) rfl (kp140))) (show FI257 110 5 = x107 from (gf_at f261 (c110 hS120) (shd_f (by decide) (s110 hS120)) rfl (kp141))) (show FI257 110 8 = x109 from (gf_at f261 (c110 hS120) (shd_f (by decide) (s110 hS120)) rfl (kp142))) (show FI257 110 4 = x111 from (gf_at f261 (c110 hS120) (shd_f (by decide) (s110 hS120)) rfl (kp143))) (show FI257 110 6 = x114 from (gf_at f261 (c110 hS120) (shd_f (by decide) (s110 hS120)) rfl (kp144))) (by have := (e317 : (x316).toInt = (y4).toInt + (1)); omega) (by have := (e317 : (x316).toInt = (y4).toInt + (1)); omega) (by have := (e317 : (x316).toInt = (y4).toInt + (1)); omega) (by have := (e317 : (x316).toInt = (y4).toInt + (1)); omega) (show g_PV n SH274 FR304 (FI257 110 3).toInt from (by have := (e317 : (x316).toInt = (y4).toInt + (1)); exact pw309)) (show ∀ c9 k9, c9 < n → (SH c9).1 = 104 → 176 ≤ c9 → FR304 c9 k9 = FR c9 k9 from (by have := (e317 : (x316).toInt = (y4).toInt + (1)); exact ol310)) (show (y2_121).toInt = 0 → g_CD FR304 (x316).toInt from (by have := (e317 : (x316).toInt = (y4).toInt + (1)); exact (fun h => by have hq := gCD_cd hS276 (show (SH274 r220).1 = 10 from congrArg Prod.fst sh288) (show (SH274 pv).1 = 104 from congrArg Prod.fst sh286) (show _ = some pv from (gf_at f263 (c110 hS120) (shd_f (by decide) (s110 hS120)) rfl (h187))) (show _ = some r220 from (gf_at f263 lt193 (shd_d h189 h188) rfl (h221))) (i_cn (x := y4) (by omega)) u305 (cdd303 h); intro i9 hi9; exact hq i9 (by omega)))) (by have := (e317 : (x316).toInt = (y4).toInt + (1)); omega)) ⟨rfl, rfl, rfl, rfl, trivial⟩
                · obtain rfl := h_rf_n hn311
                  show hw sk base _ _ _ _ [(5, .ref (base + r220)), (4, .int (y4)), (3, .int (y3)), (2, .int (y2_121)), (0, .ref (base + 0))] [] _ _
                  refine hw_bp (v := (7 : Int32)) (aX11_compile 58 rfl) (by decide) ?_
                  refine xw_istoren (L2 := [(2, .int ((7 : Int32))), (5, .ref (base + r220)), (4, .int (y4)), (3, .int (y3)), (0, .ref (base + 0))]) (aX11_compile 59 rfl) (by decide) rfl ?_
                  refine hw_aload (aX11_compile 60 rfl) rfl ?_
                  obtain ⟨x319, h320⟩ : ∃ y, FI257 r220 1 = y := ⟨_, rfl⟩
                  have h320l := congrArg Int32.toInt h320
                  have := i_rng x319
                  refine hw_get (v := .int (x319)) (aX11_compile 61 rfl) wf_RX11_252 lt287 sh288 (by decide) (congrArg Value.int (show FI257 r220 1 = x319 from h320)) ?_
                  refine xw_istoren (L2 := [(3, .int (x319)), (2, .int ((7 : Int32))), (5, .ref (base + r220)), (4, .int (y4)), (0, .ref (base + 0))]) (aX11_compile 62 rfl) (by decide) rfl ?_
                  obtain ⟨x321, q323⟩ : ∃ y : Int32, (y4) + Int32.ofInt (1) = y := ⟨_, rfl⟩
                  have e322 : (x321).toInt = (y4).toInt + (1) := by rw [← q323]; exact i_add rfl (by decide) (by omega) (by omega)
                  refine xw_iinc (L2 := [(4, .int (x321)), (3, .int (x319)), (2, .int ((7 : Int32))), (5, .ref (base + r220)), (0, .ref (base + 0))]) (aX11_compile 63 rfl) rfl (by decide) (by rw [q323]; rfl) ?_
                  refine xw_goto (tgt := 71) (aX11_compile 64 rfl) (by decide) ?_
                  exact hw_L (ih71 (x321) (x319) ((7 : Int32)) FI257 FL258 FR304 n272 sl273 SH274 gp278 gw279 gs280 ex299 hS276 hT306 hk284 (gf_tr (ex_shd ex152) fr130 f261 rfl rfl rfl) (gf_tr (ex_shd ex152) fr131 f262 rfl rfl rfl) (gf_n (gf_tr (ex_shd ex152) fr132 f263 rfl rfl rfl) u305 h222) hI260 hF307 hR308 (show FI257 0 12 = x4 from (gf_at f261 (c0 hS120) (shd_f (by decide) (s0 hS120)) rfl (kp136))) (show FR304 0 11 = o7 from (up_c u305 (ne_tag (s0 hS276) sh288 (by decide)) ((gf_at f263 (c0 hS120) (shd_f (by decide) (s0 hS120)) rfl (kp137))))) (show FI257 0 9 = (0 : Int32) from (gf_at f261 (c0 hS120) (shd_f (by decide) (s0 hS120)) rfl (kp138))) (show FI257 111 4 = x61 from (gf_at f261 (c111 hS120) (shd_f (by decide) (s111 hS120)) rfl (kp139))) (show FI257 110 7 = x104 from (gf_at f261 (c110 hS120) (shd_f (by decide) (s110 hS120)) rfl (kp140))) (show FI257 110 5 = x107 from (gf_at f261 (c110 hS120) (shd_f (by decide) (s110 hS120)) rfl (kp141))) (show FI257 110 8 = x109 from (gf_at f261 (c110 hS120) (shd_f (by decide) (s110 hS120)) rfl (kp142))) (show FI257 110 4 = x111 from (gf_at f261 (c110 hS120) (shd_f (by decide) (s110 hS120)) rfl (kp143))) (show FI257 110 6 = x114 from (gf_at f261 (c110 hS120) (shd_f (by decide) (s110 hS120)) rfl (kp144))) (by have := (e322 : (x321).toInt = (y4).toInt + (1)); have := ((by decide : (7 : Int32).toInt = 7) : ((7 : Int32)).toInt = 7); omega) (by have := (e322 : (x321).toInt = (y4).toInt + (1)); have := ((by decide : (7 : Int32).toInt = 7) : ((7 : Int32)).toInt = 7); omega) (by have := (e322 : (x321).toInt = (y4).toInt + (1)); have := ((by decide : (7 : Int32).toInt = 7) : ((7 : Int32)).toInt = 7); omega) (by have := (e322 : (x321).toInt = (y4).toInt + (1)); have := ((by decide : (7 : Int32).toInt = 7) : ((7 : Int32)).toInt = 7); omega) (show g_PV n SH274 FR304 (FI257 110 3).toInt from (by have := (e322 : (x321).toInt = (y4).toInt + (1)); have := ((by decide : (7 : Int32).toInt = 7) : ((7 : Int32)).toInt = 7); exact pw309)) (show ∀ c9 k9, c9 < n → (SH c9).1 = 104 → 176 ≤ c9 → FR304 c9 k9 = FR c9 k9 from (by have := (e322 : (x321).toInt = (y4).toInt + (1)); have := ((by decide : (7 : Int32).toInt = 7) : ((7 : Int32)).toInt = 7); exact ol310)) (show 7 = 0 → g_CD FR304 (x321).toInt from (by have := (e322 : (x321).toInt = (y4).toInt + (1)); have := ((by decide : (7 : Int32).toInt = 7) : ((7 : Int32)).toInt = 7); exact (fun h => absurd h (by decide)))) (by have := (e322 : (x321).toInt = (y4).toInt + (1)); have := ((by decide : (7 : Int32).toInt = 7) : ((7 : Int32)).toInt = 7); omega)) ⟨rfl, rfl, rfl, rfl, trivial⟩
        exact hw_L (lp149 ((13 - 0 : Int).toNat + 1) ((0 : Int32)) (x114) (x107) FIv72 FLv73 FRv74 n67 sl68 SH69 gp75 gw76 gs77 ex_rf hS71 hT78 hk79 fr80 fr81 fr82 hI83 hF84 hR85 (show FIv72 0 12 = x4 from kp86) (show FRv74 0 11 = o7 from kp87) (show FIv72 0 9 = (0 : Int32) from kp88) (show FIv72 111 4 = x61 from kp89) (show FIv72 110 7 = x104 from h105) (show FIv72 110 5 = x107 from h108) (show FIv72 110 8 = x109 from h110) (show FIv72 110 4 = x111 from h112) (show FIv72 110 6 = x114 from h115) (by have := ((by decide : (0 : Int32).toInt = 0) : ((0 : Int32)).toInt = 0); omega) (by have := ((by decide : (0 : Int32).toInt = 0) : ((0 : Int32)).toInt = 0); omega) (by have := ((by decide : (0 : Int32).toInt = 0) : ((0 : Int32)).toInt = 0); omega) (by have := ((by decide : (0 : Int32).toInt = 0) : ((0 : Int32)).toInt = 0); omega) (show g_PV n SH69 FRv74 (FIv72 110 3).toInt from (by have := ((by decide : (0 : Int32).toInt = 0) : ((0 : Int32)).toInt = 0); exact xi24_1)) (show ∀ c9 k9, c9 < n → (SH c9).1 = 104 → 176 ≤ c9 → FRv74 c9 k9 = FR c9 k9 from (by have := ((by decide : (0 : Int32).toInt = 0) : ((0 : Int32)).toInt = 0); exact xi24_2)) (show (x107).toInt = 0 → g_CD FRv74 0 from (by have := ((by decide : (0 : Int32).toInt = 0) : ((0 : Int32)).toInt = 0); exact (fun h i hi => absurd hi (by have : ((0 : Int32)).toInt = 0 := (by decide); omega)))) (by have := ((by decide : (0 : Int32).toInt = 0) : ((0 : Int32)).toInt = 0); omega)) ⟨rfl, rfl, rfl, rfl, trivial⟩
      · refine hw_aloadn (aX11_compile 17 rfl) rfl ?_
        refine hw_get (v := .ref (base + 110)) (aX11_compile 18 rfl) wf_RX11_58 (c0 hS71) (s0 hS71) (by decide) (congrArg (fun r => va_rf (h_rf base r)) (r0_3 hF84)) ?_
        refine hw_callV (Bs := []) (rest := []) (aX11_compile 19 rfl) wc_RX11_232 (by decide) rfl wi_yX4_goesOn wv_yX4_goesOn (c110 hS71) (s110 hS71) rfl rfl rfl (Nat.le_of_ble_eq_true rfl) (Nat.le_of_ble_eq_true rfl) (k_goesOn2 (d := d + 251) hS71 hF84 hI83 hR85 ) (fun v324 sv325 p326 => ?_)
        have := congrArg Int32.toInt (show FIv72 110 5 = x107 from h108)
        obtain ⟨r327, rfl, rfl, t331, t332⟩ := p326
        show hw sk base _ _ _ _ _ [.int (r327)] _ _
        refine hw_ifeq (tgt := 52) (aX11_compile 20 rfl) (by decide) rfl (fun cd335 => ?_) (fun cd335 => ?_)
        · clear t331
          refine hw_aloadn (aX11_compile 26 rfl) rfl ?_
          refine hw_get (v := .ref (base + 110)) (aX11_compile 27 rfl) wf_RX11_58 (c0 hS71) (s0 hS71) (by decide) (congrArg (fun r => va_rf (h_rf base r)) (r0_3 hF84)) ?_
          refine hw_get (v := .int (x107)) (aX11_compile 28 rfl) wf_RX11_239 (c110 hS71) (s110 hS71) (by decide) (congrArg Value.int (show FIv72 110 5 = x107 from h108)) ?_
          refine xw_istoren (L2 := [(2, .int (x107)), (1, .int (x1)), (0, .ref (base + 0))]) (aX11_compile 29 rfl) (by decide) rfl ?_
          refine hw_aloadn (aX11_compile 30 rfl) rfl ?_
          refine hw_get (v := .ref (base + 110)) (aX11_compile 31 rfl) wf_RX11_58 (c0 hS71) (s0 hS71) (by decide) (congrArg (fun r => va_rf (h_rf base r)) (r0_3 hF84)) ?_
          obtain ⟨x336, h337⟩ : ∃ y, FIv72 110 6 = y := ⟨_, rfl⟩
          have h337l := congrArg Int32.toInt h337
          have := i_rng x336
          refine hw_get (v := .int (x336)) (aX11_compile 32 rfl) wf_RX11_242 (c110 hS71) (s110 hS71) (by decide) (congrArg Value.int (show FIv72 110 6 = x336 from h337)) ?_
          refine xw_istoren (L2 := [(3, .int (x336)), (2, .int (x107)), (1, .int (x1)), (0, .ref (base + 0))]) (aX11_compile 33 rfl) (by decide) rfl ?_
          refine hw_ic (v := (0 : Int32)) (aX11_compile 34 rfl) (by decide) ?_
          refine xw_istore (L2 := [(4, .int ((0 : Int32))), (3, .int (x336)), (2, .int (x107)), (1, .int (x1)), (0, .ref (base + 0))]) (aX11_compile 35 rfl) (by decide) rfl ?_
          have lp371 : ∀ (m : Nat) (y4 : Int32) (y3 : Int32) (y2_343 : Int32) (FIv344 : Nat → Nat → Int32) (FLv345 : Nat → Nat → Int64) (FRv346 : Nat → Nat → Option Nat) (n338 sl339 : Nat) (SH340 : Nat → Nat × Nat) (gp347 gw348 gs349 : Nat → Nat), (g_ex n67 SH69 n338 SH340) → (h_S n338 SH340) → (g_T n338 SH340 FIv344 FRv346 gp347 gw348 gs349) → (∀ c, c < n → gp347 c = gp c ∧ gw348 c = gw c ∧ gs349 c = gs c) → (g_fr n (shd SH) [(0, 9), (0, 12), (110, 3), (110, 4), (110, 5), (110, 6), (110, 7), (110, 8), (111, 4), (111, 6), (111, 7), (111, 8), (111, 9), (119, 1)] [21, 112, 114, 115, 117, 120] [1006, 1010] FI FIv344) → (g_fr n (shd SH) [(110, 9), (111, 10)] [113] [1101] FL FLv345) → (g_fr n (shd SH) [(0, 11), (110, 2), (111, 5)] [] [1104, 1105] FR FRv346) → (g_I FIv344) → (h_FR FRv346) → (g_R n338 SH340 FRv346) → (FIv344 0 12 = x4) → (FRv346 0 11 = o7) → (FIv344 0 9 = (0 : Int32)) → (FIv344 111 4 = x61) → (FIv344 110 7 = x104) → (FIv344 110 5 = x107) → (FIv344 110 8 = x109) → (FIv344 110 4 = x111) → (FIv344 110 6 = x336) → (0 ≤ (y4).toInt ∧ (y4).toInt ≤ 12) → ((n338 : Int) ≤ n + 32 * (FI 0 9).toInt + 60 + (y4).toInt) → ((sl339 : Int) ≤ sl + 300 * (FI 0 9).toInt + 700 + 600 * (y4).toInt) → ((n : Int) ≤ n338) → (g_PV n SH340 FRv346 (FIv344 110 3).toInt) → (∀ c9 k9, c9 < n → (SH c9).1 = 104 → 176 ≤ c9 → FRv346 c9 k9 = FR c9 k9) → ((y2_343).toInt = 0 → g_CD FRv346 (y4).toInt) → 13 - (y4).toInt < m → hw sk base (d + 252) none 146 71 [(4, .int (y4)), (3, .int (y3)), (2, .int (y2_343)), (0, .ref (base + 0))] [] (n338, sl339, SH340, FIv344, FLv345, FRv346) (h_I (fun r s => ∃ n' sl' SH' FI' FL' FR', s = (n', sl', SH', FI', FL', FR') ∧ g_ex n SH n' SH' ∧ h_S n' SH' ∧ g_I FI' ∧ g_fr n (shd SH) [(0, 9), (0, 12), (110, 3), (110, 4), (110, 5), (110, 6), (110, 7), (110, 8), (111, 4), (111, 6), (111, 7), (111, 8), (111, 9), (119, 1)] [21, 112, 114, 115, 117, 120] [1006, 1010] FI FI' ∧ g_fr n (shd SH) [(110, 9), (111, 10)] [113] [1101] FL FL' ∧ g_fr n (shd SH) [(0, 11), (110, 2), (111, 5)] [] [1104, 1105] FR FR' ∧ h_FR FR' ∧ g_R n' SH' FR' ∧ ((n' : Int) ≤ n + 32 * (FI 0 9).toInt + 80) ∧ ((sl' : Int) ≤ sl + 300 * (FI 0 9).toInt + 8000) ∧ ((n : Int) ≤ n') ∧ ((FI' 0 9).toInt = 0) ∧ (∃ gp2 gw2 gs2, g_T n' SH' FI' FR' gp2 gw2 gs2 ∧ (∀ c, c < n → gp2 c = gp c ∧ gw2 c = gw c ∧ gs2 c = gs c) ∧ True) ∧ (g_V SH' FI' FR'))) := by
            intro m
            induction m with
            | zero => intro y4 y3 y2_343 FIv344 FLv345 FRv346 n338 sl339 SH340 gp347 gw348 gs349 ex341 hS342 hT350 hk351 fr352 fr353 fr354 hI355 hF356 hR357 kp358 kp359 kp360 kp361 kp362 kp363 kp364 kp365 kp366 iv367 iv368 iv369 iv370 xi71_0 xi71_1 xi71_2 hm; omega
            | succ m ih71 =>
              intro y4 y3 y2_343 FIv344 FLv345 FRv346 n338 sl339 SH340 gp347 gw348 gs349 ex341 hS342 hT350 hk351 fr352 fr353 fr354 hI355 hF356 hR357 kp358 kp359 kp360 kp361 kp362 kp363 kp364 kp365 kp366 iv367 iv368 iv369 iv370 xi71_0 xi71_1 xi71_2 hm
              have rg_y4 := i_rng y4
              have rg_y3 := i_rng y3
              have rg_y2_343 := i_rng y2_343
              have := congrArg Int32.toInt kp358
              have := congrArg Int32.toInt kp360
              have := congrArg Int32.toInt kp361
              have := congrArg Int32.toInt kp362
              have := congrArg Int32.toInt kp363
              have := congrArg Int32.toInt kp364
              have := congrArg Int32.toInt kp365
              have := congrArg Int32.toInt kp366
              have ht372 := ex_ty ex341 ht102
              have ex373 := ex_tr ex70 ex341
              have ex374 := ex_tr ex103 ex341
              refine xw_iload (aX11_compile 36 rfl) rfl ?_
              refine hw_aloadn (aX11_compile 37 rfl) rfl ?_
              refine hw_get (v := .ref (base + 110)) (aX11_compile 38 rfl) wf_RX11_58 (c0 hS342) (s0 hS342) (by decide) (congrArg (fun r => va_rf (h_rf base r)) (r0_3 hF356)) ?_
              obtain ⟨x375, h376⟩ : ∃ y, FIv344 110 3 = y := ⟨_, rfl⟩
              have h376l := congrArg Int32.toInt h376
              have b377 := gI_110_3 hI355; rw [h376] at b377
              refine hw_get (v := .int (x375)) (aX11_compile 39 rfl) wf_RX11_243 (c110 hS342) (s110 hS342) (by decide) (congrArg Value.int (show FIv344 110 3 = x375 from h376)) ?_
              refine hw_icge (tgt := 136) (aX11_compile 40 rfl) (by decide) rfl rfl (fun cd378 => ?_) (fun cd378 => ?_)
              · refine hw_aloadn (aX11_compile 65 rfl) rfl ?_
                refine xw_iloadn (aX11_compile 66 rfl) rfl ?_
                refine xw_iloadn (aX11_compile 67 rfl) rfl ?_
                refine hw_ic (v := (0 : Int32)) (aX11_compile 68 rfl) (by decide) ?_
                refine hw_ic (v := (0 : Int32)) (aX11_compile 69 rfl) (by decide) ?_
                refine hw_callV (Bs := [.int (y2_343), .int (y3), .int ((0 : Int32)), .int ((0 : Int32))]) (rest := []) (aX11_compile 70 rfl) wc_RX11_159 (by decide) rfl wi_yX11_tell wv_yX11_tell (c0 hS342) (s0 hS342) rfl rfl rfl (Nat.le_of_ble_eq_true rfl) (Nat.le_of_ble_eq_true rfl) (k_X11_tell (d := d + 251) hS342 hF356 hI355 hR357 (y2_343) (y3) ((0 : Int32)) ((0 : Int32)) ) (fun v379 sv380 p381 => ?_)
                obtain ⟨rfl, FI383, rfl, hI384, f385⟩ := p381
                have hT390 : g_T n338 SH340 FI383 FRv346 gp347 gw348 gs349 := gT_mw (L := []) (A := [21]) (T := []) (L2 := []) (A2 := []) (T2 := []) hS342 hT350 f385 gf_rf (by decide) (by decide)
                show hw sk base _ _ _ _ _ [] _ _
                refine xw_iloadn (aX11_compile 71 rfl) rfl ?_
                refine hw_ifeq (tgt := 150) (aX11_compile 72 rfl) (by decide) rfl (fun cd391 => ?_) (fun cd391 => ?_)
                · refine hw_aloadn (aX11_compile 75 rfl) rfl ?_
                  refine hw_aloadn (aX11_compile 76 rfl) rfl ?_
                  refine hw_get (v := .ref (base + 110)) (aX11_compile 77 rfl) wf_RX11_58 (c0 hS342) (s0 hS342) (by decide) (congrArg (fun r => va_rf (h_rf base r)) (r0_3 hF356)) ?_
                  obtain ⟨o392, h393⟩ : ∃ y, FRv346 110 2 = y := ⟨_, rfl⟩
                  have ht394 : ∀ r, o392 = some r → r < n338 ∧ own r ∧ SH340 r = (104, (SH340 r).2) := fun r e => gR_get hR357 (c110 hS342) (Or.inl (by decide)) (s110 hS342) (h393.trans e)
                  obtain ⟨r395, rfl⟩ := gR_nn hR357 (by unfold g_nn; omega) h393
                  obtain ⟨lt396, ow397, sh398⟩ := ht394 r395 rfl
                  refine hw_get (v := .ref (base + r395)) (aX11_compile 78 rfl) wf_RX11_245 (c110 hS342) (s110 hS342) (by decide) (congrArg (fun r => va_rf (h_rf base r)) (show FRv346 110 2 = some r395 from h393)) ?_
                  refine hv_putr (r := some (r395)) (aX11_compile 79 rfl) wf_RX11_28 (c0 hS342) (s0 hS342) (by decide) (by first | exact Or.inl ⟨_, rfl⟩ | exact Or.inr ⟨_, rfl⟩) (Or.inl rfl) (fun FR399 u400 => ?_)
                  have hT401 : g_T n338 SH340 FI383 FR399 gp347 gw348 gs349 := gT_wo hT390 (by rw [(s0 hS342)]; decide) (by rw [(s0 hS342)]; decide) u400
                  have hF402 : h_FR FR399 := hF_up hS342 hF356 u400 (s0 hS342) (by decide +kernel)
                  have hR403 : g_R n338 SH340 FR399 := gR_up hR357 u400 (s0 hS342) (fun r e => by cases e; exact ⟨lt396, ow397, by rw [sh398]; rfl⟩) (fun h => absurd h (by have := (by decide : 0 < 176); omega)) (fun _ => by simp) (fun h => absurd h.1 (by decide))
                  refine hw_aloadn (aX11_compile 80 rfl) rfl ?_
                  refine hw_aloadn (aX11_compile 81 rfl) rfl ?_
                  refine hw_get (v := .ref (base + 110)) (aX11_compile 82 rfl) wf_RX11_58 (c0 hS342) (s0 hS342) (by decide) (congrArg (fun r => va_rf (h_rf base r)) (r0_3 hF402)) ?_
                  refine hw_get (v := .int (x375)) (aX11_compile 83 rfl) wf_RX11_243 (c110 hS342) (s110 hS342) (by decide) (congrArg Value.int (show FI383 110 3 = x375 from (gf_at f385 (c110 hS342) (shd_f (by decide) (s110 hS342)) rfl (h376)))) ?_
                  refine hv_puti (aX11_compile 84 rfl) wf_RX11_253 (c0 hS342) (s0 hS342) (by decide) rfl rfl (fun FI404 u405 => ?_)
                  have hT406 : g_T n338 SH340 FI404 FR399 gp347 gw348 gs349 := gT_wi hT401 (fun h => absurd h (by rw [(s0 hS342)]; decide)) u405
                  have hI407 : g_I FI404 := gU_0_12 hI384 u405 (by omega) (by omega)
                  refine hw_aloadn (aX11_compile 85 rfl) rfl ?_
                  refine hw_get (v := .int (x375)) (aX11_compile 86 rfl) wf_RX11_253 (c0 hS342) (s0 hS342) (by decide) (congrArg Value.int (show FI404 0 12 = x375 from up_eq u405)) ?_
                  refine xw_iret (aX11_compile 87 rfl) rfl rfl ?_
                  exact ⟨x375, rfl, n338, sl339, SH340, FI404, FLv345, FR399, rfl, ex374, hS342, hI407, (gf_f (gf_tr (ex_shd ex374) fr352 f385 rfl rfl rfl) u405 (by decide)), fr353, (gf_f fr354 u400 (by decide)), hF402, hR403, (by omega), (by omega), (by omega), (by have := congrArg Int32.toInt (show FI404 0 9 = (0 : Int32) from (up_k u405 (by decide) ((gf_at f385 (c0 hS342) (shd_f (by decide) (s0 hS342)) rfl (kp360))))); have := ((by decide : (0 : Int32).toInt = 0) : ((0 : Int32)).toInt = 0); omega), (by exact ⟨gp347, gw348, gs349, hT406, hk351, trivial⟩), (by have hq3 := congrArg Int32.toInt (show FI404 0 12 = x375 from up_eq u405); exact gV_new (FR := FRv346) (cn := (FIv344 110 3).toInt) hR357 hS342 xi71_0 (fun i hi => xi71_2 (by omega) i (by omega)) ((up_eq u400).trans (show FRv346 110 2 = some (r395) from h393).symm) (fun c k hc => up_c u400 (by omega) rfl) (by omega))⟩
                · refine hw_ic (v := ((-1) : Int32)) (aX11_compile 73 rfl) (by decide) ?_
                  refine xw_iret (aX11_compile 74 rfl) rfl rfl ?_
                  have e408 : (((-1) : Int32)).toInt = (-1) := (by decide : ((-1) : Int32).toInt = (-1))
                  exact ⟨((-1) : Int32), rfl, n338, sl339, SH340, FI383, FLv345, FRv346, rfl, ex374, hS342, hI384, (gf_tr (ex_shd ex374) fr352 f385 rfl rfl rfl), fr353, fr354, hF356, hR357, (by have : (((-1) : Int32)).toInt = (-1) := (by decide); omega), (by have : (((-1) : Int32)).toInt = (-1) := (by decide); omega), (by have : (((-1) : Int32)).toInt = (-1) := (by decide); omega), (by have : (((-1) : Int32)).toInt = (-1) := (by decide); have := congrArg Int32.toInt (show FI383 0 9 = (0 : Int32) from (gf_at f385 (c0 hS342) (shd_f (by decide) (s0 hS342)) rfl (kp360))); have := ((by decide : (0 : Int32).toInt = 0) : ((0 : Int32)).toInt = 0); omega), (by exact ⟨gp347, gw348, gs349, hT390, hk351, trivial⟩), (by exact gV_old (L := [(0, 11), (110, 2), (111, 5)]) (A := []) (T := [1104, 1105]) hS hR ex374 gg1 ((show FI383 0 12 = x4 from (gf_at f385 (c0 hS342) (shd_f (by decide) (s0 hS342)) rfl (kp358))).trans (h5).symm) ((show FRv346 0 11 = o7 from kp359).trans (h8).symm) xi71_1 fr354 (by decide))⟩
              · have hPVd := xi71_0
                obtain ⟨pv, h409, h410, h411, h412, h413⟩ := hPVd
                obtain ⟨lt415, ow416, sh417⟩ := gR_get hR357 (c110 hS342) (Or.inl (by decide)) (s110 hS342) h409
                refine xw_iloadn (aX11_compile 41 rfl) rfl ?_
                refine hw_ifne (tgt := 136) (aX11_compile 42 rfl) (by decide) rfl (fun cd418 => ?_) (fun cd418 => ?_)
                · refine hw_aloadn (aX11_compile 65 rfl) rfl ?_
                  refine xw_iloadn (aX11_compile 66 rfl) rfl ?_
                  refine xw_iloadn (aX11_compile 67 rfl) rfl ?_
                  refine hw_ic (v := (0 : Int32)) (aX11_compile 68 rfl) (by decide) ?_
                  refine hw_ic (v := (0 : Int32)) (aX11_compile 69 rfl) (by decide) ?_
                  refine hw_callV (Bs := [.int (y2_343), .int (y3), .int ((0 : Int32)), .int ((0 : Int32))]) (rest := []) (aX11_compile 70 rfl) wc_RX11_159 (by decide) rfl wi_yX11_tell wv_yX11_tell (c0 hS342) (s0 hS342) rfl rfl rfl (Nat.le_of_ble_eq_true rfl) (Nat.le_of_ble_eq_true rfl) (k_X11_tell (d := d + 251) hS342 hF356 hI355 hR357 (y2_343) (y3) ((0 : Int32)) ((0 : Int32)) ) (fun v419 sv420 p421 => ?_)
                  obtain ⟨rfl, FI423, rfl, hI424, f425⟩ := p421
                  have hT430 : g_T n338 SH340 FI423 FRv346 gp347 gw348 gs349 := gT_mw (L := []) (A := [21]) (T := []) (L2 := []) (A2 := []) (T2 := []) hS342 hT350 f425 gf_rf (by decide) (by decide)
                  show hw sk base _ _ _ _ _ [] _ _
                  refine xw_iloadn (aX11_compile 71 rfl) rfl ?_
                  refine hw_ifeq (tgt := 150) (aX11_compile 72 rfl) (by decide) rfl (fun cd431 => ?_) (fun cd431 => ?_)
                  · refine hw_aloadn (aX11_compile 75 rfl) rfl ?_
                    refine hw_aloadn (aX11_compile 76 rfl) rfl ?_
                    refine hw_get (v := .ref (base + 110)) (aX11_compile 77 rfl) wf_RX11_58 (c0 hS342) (s0 hS342) (by decide) (congrArg (fun r => va_rf (h_rf base r)) (r0_3 hF356)) ?_
                    refine hw_get (v := .ref (base + pv)) (aX11_compile 78 rfl) wf_RX11_245 (c110 hS342) (s110 hS342) (by decide) (congrArg (fun r => va_rf (h_rf base r)) (show FRv346 110 2 = some pv from h409)) ?_
                    refine hv_putr (r := some (pv)) (aX11_compile 79 rfl) wf_RX11_28 (c0 hS342) (s0 hS342) (by decide) (by first | exact Or.inl ⟨_, rfl⟩ | exact Or.inr ⟨_, rfl⟩) (Or.inl rfl) (fun FR432 u433 => ?_)
                    have hT434 : g_T n338 SH340 FI423 FR432 gp347 gw348 gs349 := gT_wo hT430 (by rw [(s0 hS342)]; decide) (by rw [(s0 hS342)]; decide) u433
                    have hF435 : h_FR FR432 := hF_up hS342 hF356 u433 (s0 hS342) (by decide +kernel)
                    have hR436 : g_R n338 SH340 FR432 := gR_up hR357 u433 (s0 hS342) (fun r e => by cases e; exact ⟨lt415, ow416, by rw [h410]; rfl⟩) (fun h => absurd h (by have := (by decide : 0 < 176); omega)) (fun _ => by simp) (fun h => absurd h.1 (by decide))
                    refine hw_aloadn (aX11_compile 80 rfl) rfl ?_
                    refine hw_aloadn (aX11_compile 81 rfl) rfl ?_
                    refine hw_get (v := .ref (base + 110)) (aX11_compile 82 rfl) wf_RX11_58 (c0 hS342) (s0 hS342) (by decide) (congrArg (fun r => va_rf (h_rf base r)) (r0_3 hF435)) ?_
                    refine hw_get (v := .int (x375)) (aX11_compile 83 rfl) wf_RX11_243 (c110 hS342) (s110 hS342) (by decide) (congrArg Value.int (show FI423 110 3 = x375 from (gf_at f425 (c110 hS342) (shd_f (by decide) (s110 hS342)) rfl (h376)))) ?_
                    refine hv_puti (aX11_compile 84 rfl) wf_RX11_253 (c0 hS342) (s0 hS342) (by decide) rfl rfl (fun FI437 u438 => ?_)
                    have hT439 : g_T n338 SH340 FI437 FR432 gp347 gw348 gs349 := gT_wi hT434 (fun h => absurd h (by rw [(s0 hS342)]; decide)) u438
                    have hI440 : g_I FI437 := gU_0_12 hI424 u438 (by omega) (by omega)
                    refine hw_aloadn (aX11_compile 85 rfl) rfl ?_
                    refine hw_get (v := .int (x375)) (aX11_compile 86 rfl) wf_RX11_253 (c0 hS342) (s0 hS342) (by decide) (congrArg Value.int (show FI437 0 12 = x375 from up_eq u438)) ?_
                    refine xw_iret (aX11_compile 87 rfl) rfl rfl ?_
                    exact ⟨x375, rfl, n338, sl339, SH340, FI437, FLv345, FR432, rfl, ex374, hS342, hI440, (gf_f (gf_tr (ex_shd ex374) fr352 f425 rfl rfl rfl) u438 (by decide)), fr353, (gf_f fr354 u433 (by decide)), hF435, hR436, (by omega), (by omega), (by omega), (by have := congrArg Int32.toInt (show FI437 0 9 = (0 : Int32) from (up_k u438 (by decide) ((gf_at f425 (c0 hS342) (shd_f (by decide) (s0 hS342)) rfl (kp360))))); have := ((by decide : (0 : Int32).toInt = 0) : ((0 : Int32)).toInt = 0); omega), (by exact ⟨gp347, gw348, gs349, hT439, hk351, trivial⟩), (by have hq3 := congrArg Int32.toInt (show FI437 0 12 = x375 from up_eq u438); exact gV_new (FR := FRv346) (cn := (FIv344 110 3).toInt) hR357 hS342 xi71_0 (fun i hi => xi71_2 (by omega) i (by omega)) ((up_eq u433).trans (show FRv346 110 2 = some (pv) from h409).symm) (fun c k hc => up_c u433 (by omega) rfl) (by omega))⟩
                  · refine hw_ic (v := ((-1) : Int32)) (aX11_compile 73 rfl) (by decide) ?_
                    refine xw_iret (aX11_compile 74 rfl) rfl rfl ?_
                    have e441 : (((-1) : Int32)).toInt = (-1) := (by decide : ((-1) : Int32).toInt = (-1))
                    exact ⟨((-1) : Int32), rfl, n338, sl339, SH340, FI423, FLv345, FRv346, rfl, ex374, hS342, hI424, (gf_tr (ex_shd ex374) fr352 f425 rfl rfl rfl), fr353, fr354, hF356, hR357, (by have : (((-1) : Int32)).toInt = (-1) := (by decide); omega), (by have : (((-1) : Int32)).toInt = (-1) := (by decide); omega), (by have : (((-1) : Int32)).toInt = (-1) := (by decide); omega), (by have : (((-1) : Int32)).toInt = (-1) := (by decide); have := congrArg Int32.toInt (show FI423 0 9 = (0 : Int32) from (gf_at f425 (c0 hS342) (shd_f (by decide) (s0 hS342)) rfl (kp360))); have := ((by decide : (0 : Int32).toInt = 0) : ((0 : Int32)).toInt = 0); omega), (by exact ⟨gp347, gw348, gs349, hT430, hk351, trivial⟩), (by exact gV_old (L := [(0, 11), (110, 2), (111, 5)]) (A := []) (T := [1104, 1105]) hS hR ex374 gg1 ((show FI423 0 12 = x4 from (gf_at f425 (c0 hS342) (shd_f (by decide) (s0 hS342)) rfl (kp358))).trans (h5).symm) ((show FRv346 0 11 = o7 from kp359).trans (h8).symm) xi71_1 fr354 (by decide))⟩
                · refine hw_aloadn (aX11_compile 43 rfl) rfl ?_
                  refine hw_get (v := .ref (base + 110)) (aX11_compile 44 rfl) wf_RX11_58 (c0 hS342) (s0 hS342) (by decide) (congrArg (fun r => va_rf (h_rf base r)) (r0_3 hF356)) ?_
                  refine hw_get (v := .ref (base + pv)) (aX11_compile 45 rfl) wf_RX11_245 (c110 hS342) (s110 hS342) (by decide) (congrArg (fun r => va_rf (h_rf base r)) (show FRv346 110 2 = some pv from h409)) ?_
                  refine xw_iload (aX11_compile 46 rfl) rfl ?_
                  obtain ⟨r442, h443, h444, h445, h446⟩ := h413 (y4).toNatClampNeg (by have := i_cn (x := y4) (by omega); have := congrArg Int32.toInt (show FIv344 110 3 = x375 from h376); omega)
                  obtain ⟨lt447, ow448, sh449⟩ := gR_get hR357 lt415 ow416 h410 h443
                  have sh450 : SH340 r442 = (10, (SH340 r442).2) := sh449
                  refine hw_aald (k := 4) (v := some (r442)) (aX11_compile 47 rfl) lt415 h410 (by decide) (by decide) (h_in rfl (by omega) (by omega)) (show FRv346 pv (y4).toNatClampNeg = some (r442) from h443) ?_
                  refine hw_astore (L2 := [(5, .ref (base + r442)), (4, .int (y4)), (3, .int (y3)), (2, .int (y2_343)), (0, .ref (base + 0))]) (aX11_compile 48 rfl) (by decide) rfl ?_
                  obtain ⟨⟨r451, h455, hz459⟩, ⟨r452, h456, hz460⟩, ⟨r453, h457, hz461⟩, ⟨r454, h458⟩⟩ := h446
                  obtain ⟨lt463, ow464, sh465⟩ := gR_get hR357 lt447 ow448 sh450 h455
                  obtain ⟨lt466, ow467, sh468⟩ := gR_get hR357 lt447 ow448 sh450 h456
                  obtain ⟨lt469, ow470, sh471⟩ := gR_get hR357 lt447 ow448 sh450 h457
                  obtain ⟨lt472, ow473, sh474⟩ := gR_get hR357 lt447 ow448 sh450 h458
                  refine hw_aload (aX11_compile 49 rfl) rfl ?_
                  refine hw_aloadn (aX11_compile 50 rfl) rfl ?_
                  refine hw_get (v := .ref (base + 119)) (aX11_compile 51 rfl) wf_RX11_65 (c0 hS342) (s0 hS342) (by decide) (congrArg (fun r => va_rf (h_rf base r)) (r0_4 hF356)) ?_
                  refine hw_aload (aX11_compile 52 rfl) rfl ?_
                  refine hw_callV (Bs := [.ref (base + r442)]) (rest := [.ref (base + r442)]) (aX11_compile 53 rfl) wc_RX11_246 (by decide) rfl wi_yX0_code wv_yX0_code (c119 hS342) (s119 hS342) rfl rfl rfl (Nat.le_of_ble_eq_true rfl) (Nat.le_of_ble_eq_true rfl) (k_X0_code (d := d) hS342 hF356 hI355 hR357 (r442) lt447 sh450 ow448 (gp347) (gw348) (gs349) (hT350) ((show g_Vv SH340 FRv346 r442 from ⟨⟨_, h455, hz459⟩, ⟨_, h456, hz460⟩, ⟨_, h457, hz461⟩, ⟨_, h458⟩⟩))) (fun v475 sv476 p477 => ?_)
                  obtain ⟨r478, rfl, n494, sl495, SH496, FI479, FL480, FR481, rfl, ex497, hS498, hI482, f483, f484, f485, hF486, hR487, t488, t489, t490, u491, ht492, hfr499⟩ := p477
                  obtain ⟨gp500, gw501, gs502, hT503, hkp504, hq505⟩ := u491
                  have hk506 : ∀ c, c < n → gp500 c = gp c ∧ gw501 c = gw c ∧ gs502 c = gs c := fun c hc => by obtain ⟨k1, k2, k3⟩ := hk351 c hc; obtain ⟨m1, m2, m3⟩ := hkp504 c (Nat.lt_of_lt_of_le hc (ex374).1); exact ⟨m1.trans k1, m2.trans k2, m3.trans k3⟩
                  have lt507 := ex_lt ex497 lt415
                  have sh508 := ex_sh ex497 lt415 h410
                  have lt509 := ex_lt ex497 lt447
                  have sh510 := ex_sh ex497 lt447 sh450
                  have lt511 := ex_lt ex497 lt463
                  have sh512 := ex_sh ex497 lt463 hz459
                  have lt513 := ex_lt ex497 lt466
                  have sh514 := ex_sh ex497 lt466 hz460
                  have lt515 := ex_lt ex497 lt469
                  have sh516 := ex_sh ex497 lt469 hz461
                  have lt517 := ex_lt ex497 lt472
                  have sh518 := ex_sh ex497 lt472 sh474
                  have ht519 := ex_ty ex497 ht372
                  have ex520 := ex_tr ex373 ex497
                  have ex521 := ex_tr ex341 ex497
                  have ex522 := ex_tr ex374 ex497
                  show hw sk base _ _ _ _ _ [va_rf (h_rf base (r478)), .ref (base + r442)] _ _
                  have pw523 : g_PV n SH496 FR481 (FI479 110 3).toInt := by rw [show FI479 110 3 = x375 from (gf_at f483 (c110 hS342) (shd_f (by decide) (s110 hS342)) rfl (h376)), ← (show FIv344 110 3 = x375 from h376)]; exact gPV_gr hS342 hR357 ex497 f485 xi71_0
                  have ol524 : ∀ c9 k9, c9 < n → (SH c9).1 = 104 → 176 ≤ c9 → FR481 c9 k9 = FR c9 k9 := fun c9 k9 h1 h2 h3 => (f485 c9 k9 (ex_lt ex374 h1) (by simp) (by simp) (by simp)).trans (xi71_1 c9 k9 h1 h2 h3)
                  have cdd525 := fun h => gCD_gr hS342 hR357 f485 (xi71_2 h)
                  refine hv_putr (r := r478) (aX11_compile 54 rfl) wf_RX11_250 lt509 sh510 (by decide) (by first | exact Or.inl ⟨_, rfl⟩ | exact Or.inr ⟨_, rfl⟩) (Or.inl rfl) (fun FR526 u527 => ?_)
                  have hT528 : g_T n494 SH496 FI479 FR526 gp500 gw501 gs502 := gT_wo hT503 (tag_ne sh510 (by decide)) (tag_ne sh510 (by decide)) u527
                  have hF529 : h_FR FR526 := hF_up hS498 hF486 u527 sh510 (by decide +kernel)
                  have hR530 : g_R n494 SH496 FR526 := gR_up hR487 u527 sh510 (fun r e => by obtain ⟨a, b, c⟩ := ht492 r e; exact ⟨a, b, by rw [c]; rfl⟩) (fun _ r e => (fun r e => Nat.le_trans hS342.1 (hfr499 r e)) r e) (fun h => absurd h (by unfold g_nn; have z : ∀ q, q = 0 ∨ q = 110 ∨ q = 111 ∨ q = 26 ∨ q = 43 → (SH496 q).1 ≠ 10 := (fun q hq => by rcases hq with rfl | rfl | rfl | rfl | rfl; { rw [s0 hS498]; decide }; { rw [s110 hS498]; decide }; { rw [s111 hS498]; decide }; { rw [s26 hS498]; decide }; { rw [s43 hS498]; decide }); have z2 := z r442; rw [sh510] at z2; omega)) (fun h => absurd h.1 (ne_tag sh510 (s49 hS498) (by decide)))
                  have pw531 := gPV_cd hS498 (show (SH496 r442).1 = 10 from congrArg Prod.fst sh510) u527 pw523
                  have ol532 : ∀ c9 k9, c9 < n → (SH c9).1 = 104 → 176 ≤ c9 → FR526 c9 k9 = FR c9 k9 := fun c9 k9 h1 h2 h3 => up_c u527 (Nat.ne_of_lt (Nat.lt_of_lt_of_le h1 h444)) (ol524 c9 k9 h1 h2 h3)
                  refine hw_aload (aX11_compile 55 rfl) rfl ?_
                  refine hw_get (v := va_rf (h_rf base (r478))) (aX11_compile 56 rfl) wf_RX11_250 lt509 sh510 (by decide) (congrArg (fun r => va_rf (h_rf base r)) (show FR526 r442 6 = r478 from up_eq u527)) ?_
                  refine xw_ifnonnull (v := h_rf base r478) (tgt := 130) (aX11_compile 57 rfl) (by decide) (fun hn533 => ?_) (fun hn533 => ?_)
                  · obtain ⟨r534, rfl⟩ := h_rf_s hn533
                    obtain ⟨lt535, ow536, sh537⟩ := ht492 r534 rfl
                    show hw sk base _ _ _ _ [(5, .ref (base + r442)), (4, .int (y4)), (3, .int (y3)), (2, .int (y2_343)), (0, .ref (base + 0))] [] _ _
                    obtain ⟨x538, q540⟩ : ∃ y : Int32, (y4) + Int32.ofInt (1) = y := ⟨_, rfl⟩
                    have e539 : (x538).toInt = (y4).toInt + (1) := by rw [← q540]; exact i_add rfl (by decide) (by omega) (by omega)
                    refine xw_iinc (L2 := [(4, .int (x538)), (5, .ref (base + r442)), (3, .int (y3)), (2, .int (y2_343)), (0, .ref (base + 0))]) (aX11_compile 63 rfl) rfl (by decide) (by rw [q540]; rfl) ?_
                    refine xw_goto (tgt := 71) (aX11_compile 64 rfl) (by decide) ?_
                    exact hw_L (ih71 (x538) (y3) (y2_343) FI479 FL480 FR526 n494 sl495 SH496 gp500 gw501 gs502 ex521 hS498 hT528 hk506 (gf_tr (ex_shd ex374) fr352 f483 rfl rfl rfl) (gf_tr (ex_shd ex374) fr353 f484 rfl rfl rfl) (gf_n (gf_tr (ex_shd ex374) fr354 f485 rfl rfl rfl) u527 h444) hI482 hF529 hR530 (show FI479 0 12 = x4 from (gf_at f483 (c0 hS342) (shd_f (by decide) (s0 hS342)) rfl (kp358))) (show FR526 0 11 = o7 from (up_c u527 (ne_tag (s0 hS498) sh510 (by decide)) ((gf_at f485 (c0 hS342) (shd_f (by decide) (s0 hS342)) rfl (kp359))))) (show FI479 0 9 = (0 : Int32) from (gf_at f483 (c0 hS342) (shd_f (by decide) (s0 hS342)) rfl (kp360))) (show FI479 111 4 = x61 from (gf_at f483 (c111 hS342) (shd_f (by decide) (s111 hS342)) rfl (kp361))) (show FI479 110 7 = x104 from (gf_at f483 (c110 hS342) (shd_f (by decide) (s110 hS342)) rfl (kp362))) (show FI479 110 5 = x107 from (gf_at f483 (c110 hS342) (shd_f (by decide) (s110 hS342)) rfl (kp363))) (show FI479 110 8 = x109 from (gf_at f483 (c110 hS342) (shd_f (by decide) (s110 hS342)) rfl (kp364))) (show FI479 110 4 = x111 from (gf_at f483 (c110 hS342) (shd_f (by decide) (s110 hS342)) rfl (kp365))) (show FI479 110 6 = x336 from (gf_at f483 (c110 hS342) (shd_f (by decide) (s110 hS342)) rfl (kp366))) (by have := (e539 : (x538).toInt = (y4).toInt + (1)); omega) (by have := (e539 : (x538).toInt = (y4).toInt + (1)); omega) (by have := (e539 : (x538).toInt = (y4).toInt + (1)); omega) (by have := (e539 : (x538).toInt = (y4).toInt + (1)); omega) (show g_PV n SH496 FR526 (FI479 110 3).toInt from (by have := (e539 : (x538).toInt = (y4).toInt + (1)); exact pw531)) (show ∀ c9 k9, c9 < n → (SH c9).1 = 104 → 176 ≤ c9 → FR526 c9 k9 = FR c9 k9 from (by have := (e539 : (x538).toInt = (y4).toInt + (1)); exact ol532)) (show (y2_343).toInt = 0 → g_CD FR526 (x538).toInt from (by have := (e539 : (x538).toInt = (y4).toInt + (1)); exact (fun h => by have hq := gCD_cd hS498 (show (SH496 r442).1 = 10 from congrArg Prod.fst sh510) (show (SH496 pv).1 = 104 from congrArg Prod.fst sh508) (show _ = some pv from (gf_at f485 (c110 hS342) (shd_f (by decide) (s110 hS342)) rfl (h409))) (show _ = some r442 from (gf_at f485 lt415 (shd_d h411 h410) rfl (h443))) (i_cn (x := y4) (by omega)) u527 (cdd525 h); intro i9 hi9; exact hq i9 (by omega)))) (by have := (e539 : (x538).toInt = (y4).toInt + (1)); omega)) ⟨rfl, rfl, rfl, rfl, trivial⟩
                  · obtain rfl := h_rf_n hn533
                    show hw sk base _ _ _ _ [(5, .ref (base + r442)), (4, .int (y4)), (3, .int (y3)), (2, .int (y2_343)), (0, .ref (base + 0))] [] _ _
                    refine hw_bp (v := (7 : Int32)) (aX11_compile 58 rfl) (by decide) ?_
                    refine xw_istoren (L2 := [(2, .int ((7 : Int32))), (5, .ref (base + r442)), (4, .int (y4)), (3, .int (y3)), (0, .ref (base + 0))]) (aX11_compile 59 rfl) (by decide) rfl ?_
                    refine hw_aload (aX11_compile 60 rfl) rfl ?_
                    obtain ⟨x541, h542⟩ : ∃ y, FI479 r442 1 = y := ⟨_, rfl⟩
                    have h542l := congrArg Int32.toInt h542
                    have := i_rng x541
                    refine hw_get (v := .int (x541)) (aX11_compile 61 rfl) wf_RX11_252 lt509 sh510 (by decide) (congrArg Value.int (show FI479 r442 1 = x541 from h542)) ?_
                    refine xw_istoren (L2 := [(3, .int (x541)), (2, .int ((7 : Int32))), (5, .ref (base + r442)), (4, .int (y4)), (0, .ref (base + 0))]) (aX11_compile 62 rfl) (by decide) rfl ?_
                    obtain ⟨x543, q545⟩ : ∃ y : Int32, (y4) + Int32.ofInt (1) = y := ⟨_, rfl⟩
                    have e544 : (x543).toInt = (y4).toInt + (1) := by rw [← q545]; exact i_add rfl (by decide) (by omega) (by omega)
                    refine xw_iinc (L2 := [(4, .int (x543)), (3, .int (x541)), (2, .int ((7 : Int32))), (5, .ref (base + r442)), (0, .ref (base + 0))]) (aX11_compile 63 rfl) rfl (by decide) (by rw [q545]; rfl) ?_
                    refine xw_goto (tgt := 71) (aX11_compile 64 rfl) (by decide) ?_
                    exact hw_L (ih71 (x543) (x541) ((7 : Int32)) FI479 FL480 FR526 n494 sl495 SH496 gp500 gw501 gs502 ex521 hS498 hT528 hk506 (gf_tr (ex_shd ex374) fr352 f483 rfl rfl rfl) (gf_tr (ex_shd ex374) fr353 f484 rfl rfl rfl) (gf_n (gf_tr (ex_shd ex374) fr354 f485 rfl rfl rfl) u527 h444) hI482 hF529 hR530 (show FI479 0 12 = x4 from (gf_at f483 (c0 hS342) (shd_f (by decide) (s0 hS342)) rfl (kp358))) (show FR526 0 11 = o7 from (up_c u527 (ne_tag (s0 hS498) sh510 (by decide)) ((gf_at f485 (c0 hS342) (shd_f (by decide) (s0 hS342)) rfl (kp359))))) (show FI479 0 9 = (0 : Int32) from (gf_at f483 (c0 hS342) (shd_f (by decide) (s0 hS342)) rfl (kp360))) (show FI479 111 4 = x61 from (gf_at f483 (c111 hS342) (shd_f (by decide) (s111 hS342)) rfl (kp361))) (show FI479 110 7 = x104 from (gf_at f483 (c110 hS342) (shd_f (by decide) (s110 hS342)) rfl (kp362))) (show FI479 110 5 = x107 from (gf_at f483 (c110 hS342) (shd_f (by decide) (s110 hS342)) rfl (kp363))) (show FI479 110 8 = x109 from (gf_at f483 (c110 hS342) (shd_f (by decide) (s110 hS342)) rfl (kp364))) (show FI479 110 4 = x111 from (gf_at f483 (c110 hS342) (shd_f (by decide) (s110 hS342)) rfl (kp365))) (show FI479 110 6 = x336 from (gf_at f483 (c110 hS342) (shd_f (by decide) (s110 hS342)) rfl (kp366))) (by have := (e544 : (x543).toInt = (y4).toInt + (1)); have := ((by decide : (7 : Int32).toInt = 7) : ((7 : Int32)).toInt = 7); omega) (by have := (e544 : (x543).toInt = (y4).toInt + (1)); have := ((by decide : (7 : Int32).toInt = 7) : ((7 : Int32)).toInt = 7); omega) (by have := (e544 : (x543).toInt = (y4).toInt + (1)); have := ((by decide : (7 : Int32).toInt = 7) : ((7 : Int32)).toInt = 7); omega) (by have := (e544 : (x543).toInt = (y4).toInt + (1)); have := ((by decide : (7 : Int32).toInt = 7) : ((7 : Int32)).toInt = 7); omega) (show g_PV n SH496 FR526 (FI479 110 3).toInt from (by have := (e544 : (x543).toInt = (y4).toInt + (1)); have := ((by decide : (7 : Int32).toInt = 7) : ((7 : Int32)).toInt = 7); exact pw531)) (show ∀ c9 k9, c9 < n → (SH c9).1 = 104 → 176 ≤ c9 → FR526 c9 k9 = FR c9 k9 from (by have := (e544 : (x543).toInt = (y4).toInt + (1)); have := ((by decide : (7 : Int32).toInt = 7) : ((7 : Int32)).toInt = 7); exact ol532)) (show 7 = 0 → g_CD FR526 (x543).toInt from (by have := (e544 : (x543).toInt = (y4).toInt + (1)); have := ((by decide : (7 : Int32).toInt = 7) : ((7 : Int32)).toInt = 7); exact (fun h => absurd h (by decide)))) (by have := (e544 : (x543).toInt = (y4).toInt + (1)); have := ((by decide : (7 : Int32).toInt = 7) : ((7 : Int32)).toInt = 7); omega)) ⟨rfl, rfl, rfl, rfl, trivial⟩
          exact hw_L (lp371 ((13 - 0 : Int).toNat + 1) ((0 : Int32)) (x336) (x107) FIv72 FLv73 FRv74 n67 sl68 SH69 gp75 gw76 gs77 ex_rf hS71 hT78 hk79 fr80 fr81 fr82 hI83 hF84 hR85 (show FIv72 0 12 = x4 from kp86) (show FRv74 0 11 = o7 from kp87) (show FIv72 0 9 = (0 : Int32) from kp88) (show FIv72 111 4 = x61 from kp89) (show FIv72 110 7 = x104 from h105) (show FIv72 110 5 = x107 from h108) (show FIv72 110 8 = x109 from h110) (show FIv72 110 4 = x111 from h112) (show FIv72 110 6 = x336 from h337) (by have := ((by decide : (0 : Int32).toInt = 0) : ((0 : Int32)).toInt = 0); omega) (by have := ((by decide : (0 : Int32).toInt = 0) : ((0 : Int32)).toInt = 0); omega) (by have := ((by decide : (0 : Int32).toInt = 0) : ((0 : Int32)).toInt = 0); omega) (by have := ((by decide : (0 : Int32).toInt = 0) : ((0 : Int32)).toInt = 0); omega) (show g_PV n SH69 FRv74 (FIv72 110 3).toInt from (by have := ((by decide : (0 : Int32).toInt = 0) : ((0 : Int32)).toInt = 0); exact xi24_1)) (show ∀ c9 k9, c9 < n → (SH c9).1 = 104 → 176 ≤ c9 → FRv74 c9 k9 = FR c9 k9 from (by have := ((by decide : (0 : Int32).toInt = 0) : ((0 : Int32)).toInt = 0); exact xi24_2)) (show (x107).toInt = 0 → g_CD FRv74 0 from (by have := ((by decide : (0 : Int32).toInt = 0) : ((0 : Int32)).toInt = 0); exact (fun h i hi => absurd hi (by have : ((0 : Int32)).toInt = 0 := (by decide); omega)))) (by have := ((by decide : (0 : Int32).toInt = 0) : ((0 : Int32)).toInt = 0); omega)) ⟨rfl, rfl, rfl, rfl, trivial⟩
        · replace t331 := t331 (by omega)
          refine hw_aloadn (aX11_compile 21 rfl) rfl ?_
          refine hw_get (v := .ref (base + 110)) (aX11_compile 22 rfl) wf_RX11_58 (c0 hS71) (s0 hS71) (by decide) (congrArg (fun r => va_rf (h_rf base r)) (r0_3 hF84)) ?_
          refine hw_callV (Bs := []) (rest := []) (aX11_compile 23 rfl) wc_RX11_236 (by decide) rfl wi_yX4_readDeclaration wv_yX4_readDeclaration (c110 hS71) (s110 hS71) rfl rfl rfl (Nat.le_of_ble_eq_true rfl) (Nat.le_of_ble_eq_true rfl) (k_readDecl (d := d + 106) hS71 hF84 hI83 hR85 (gp75) (gw76) (gs77) (n) (by have := congrArg Int32.toInt (show FIv72 110 7 = x104 from h105); have := congrArg Int32.toInt (show FIv72 110 7 = x104 from h105); have := congrArg Int32.toInt (show FIv72 111 4 = x61 from kp89); omega) (by have := congrArg Int32.toInt (show FIv72 110 5 = x107 from h108); have := congrArg Int32.toInt (show FIv72 110 8 = x109 from h110); omega) (by have := congrArg Int32.toInt (show FIv72 110 7 = x104 from h105); have := congrArg Int32.toInt (show FIv72 111 4 = x61 from kp89); have := congrArg Int32.toInt (show FIv72 110 8 = x109 from h110); omega) (by have := congrArg Int32.toInt (show FIv72 110 5 = x107 from h108); omega) (by have := congrArg Int32.toInt (show FIv72 110 4 = x111 from h112); omega) (hT78) (xi24_0) (xi24_1) (by omega) (fun t e => by have e2 := (show FRv74 111 5 = some 19 from kp90).symm.trans e; cases e2; rw [s19 hS71]; decide)) (fun v546 sv547 p548 => ?_)
          have := congrArg Int32.toInt (show FIv72 111 4 = x61 from kp89)
          have := congrArg Int32.toInt (show FIv72 111 4 = x61 from kp89)
          have := congrArg Int32.toInt (show FIv72 110 7 = x104 from h105)
          have := congrArg Int32.toInt (show FIv72 110 5 = x107 from h108)
          have := congrArg Int32.toInt (show FIv72 110 5 = x107 from h108)
          have := congrArg Int32.toInt (show FIv72 110 4 = x111 from h112)
          have := congrArg Int32.toInt (show FIv72 110 7 = x104 from h105)
          have := congrArg Int32.toInt (show FIv72 110 7 = x104 from h105)
          obtain ⟨rfl, n573, sl574, SH575, FI550, FL551, FR552, rfl, ex576, hS577, hI553, f554, f555, f556, hF557, hR558, t559, t560, t561, t562, t563, t564, t565, t566, t567, u568, u569, u570⟩ := p548
          have hK578 := gK_mx (L := [(110, 3), (110, 4), (110, 5), (110, 6), (110, 7), (110, 8)]) (A := [117]) (T := [1006, 1010]) hS71 xi24_0 f554 (by decide)
          obtain ⟨gp579, gw580, gs581, hT582, hkp583, hq584⟩ := u568
          have hk585 : ∀ c, c < n → gp579 c = gp c ∧ gw580 c = gw c ∧ gs581 c = gs c := fun c hc => by obtain ⟨k1, k2, k3⟩ := hk79 c hc; obtain ⟨m1, m2, m3⟩ := hkp583 c (Nat.lt_of_lt_of_le hc (ex103).1); exact ⟨m1.trans k1, m2.trans k2, m3.trans k3⟩
          have ht586 := ex_ty ex576 ht102
          have ex587 := ex_tr ex70 ex576
          have ex588 := ex_tr ex103 ex576
          obtain ⟨x589, h590⟩ : ∃ y, FI550 110 7 = y := ⟨_, rfl⟩
          have h590l := congrArg Int32.toInt h590
          have b591 := gI_110_7 hI553; rw [h590] at b591
          obtain ⟨x592, h593⟩ : ∃ y, FI550 110 5 = y := ⟨_, rfl⟩
          have h593l := congrArg Int32.toInt h593
          have := i_rng x592
          obtain ⟨x594, h595⟩ : ∃ y, FI550 110 8 = y := ⟨_, rfl⟩
          have h595l := congrArg Int32.toInt h595
          have := i_rng x594
          obtain ⟨x596, h597⟩ : ∃ y, FI550 110 4 = y := ⟨_, rfl⟩
          have h597l := congrArg Int32.toInt h597
          have := i_rng x596
          show hw sk base _ _ _ _ _ [] _ _
          have ol598 : ∀ c9 k9, c9 < n → (SH c9).1 = 104 → 176 ≤ c9 → FR552 c9 k9 = FR c9 k9 := fun c9 k9 h1 h2 h3 => (u570 c9 k9 h1 (by rw [ex103.2 c9 h1]; exact h2) h3).trans (xi24_2 c9 k9 h1 h2 h3)
          obtain ⟨x599, q601⟩ : ∃ y : Int32, (y2) + Int32.ofInt (1) = y := ⟨_, rfl⟩
          have e600 : (x599).toInt = (y2).toInt + (1) := by rw [← q601]; exact i_add rfl (by decide) (by omega) (by omega)
          refine xw_iinc (L2 := [(2, .int (x599)), (1, .int (x1)), (0, .ref (base + 0))]) (aX11_compile 24 rfl) rfl (by decide) (by rw [q601]; rfl) ?_
          refine xw_goto (tgt := 24) (aX11_compile 25 rfl) (by decide) ?_
          exact hw_L (ih (x599) FI550 FL551 FR552 n573 sl574 SH575 gp579 gw580 gs581 ex587 hS577 hT582 hk585 (gf_tr (ex_shd ex103) fr80 f554 rfl rfl rfl) (gf_tr (ex_shd ex103) fr81 f555 rfl rfl rfl) (gf_tr (ex_shd ex103) fr82 f556 rfl rfl rfl) hI553 hF557 hR558 (show FI550 0 12 = x4 from (gf_at f554 (c0 hS71) (shd_f (by decide) (s0 hS71)) rfl (kp86))) (show FR552 0 11 = o7 from (gf_at f556 (c0 hS71) (shd_f (by decide) (s0 hS71)) rfl (kp87))) (show FI550 0 9 = (0 : Int32) from (gf_at f554 (c0 hS71) (shd_f (by decide) (s0 hS71)) rfl (kp88))) (show FI550 111 4 = x61 from (gf_at f554 (c111 hS71) (shd_f (by decide) (s111 hS71)) rfl (kp89))) (show FR552 111 5 = (some 19) from (gf_at f556 (c111 hS71) (shd_f (by decide) (s111 hS71)) rfl (kp90))) (by have := (e600 : (x599).toInt = (y2).toInt + (1)); omega) (by have := (e600 : (x599).toInt = (y2).toInt + (1)); have := congrArg Int32.toInt (show FI550 110 7 = x589 from h590); have := congrArg Int32.toInt (show FI550 111 4 = x61 from (gf_at f554 (c111 hS71) (shd_f (by decide) (s111 hS71)) rfl (kp89))); omega) (by have := (e600 : (x599).toInt = (y2).toInt + (1)); have := congrArg Int32.toInt (show FI550 110 5 = x592 from h593); have := congrArg Int32.toInt (show FI550 110 8 = x594 from h595); omega) (by have := (e600 : (x599).toInt = (y2).toInt + (1)); have := congrArg Int32.toInt (show FI550 110 7 = x589 from h590); have := congrArg Int32.toInt (show FI550 110 8 = x594 from h595); have := congrArg Int32.toInt (show FI550 111 4 = x61 from (gf_at f554 (c111 hS71) (shd_f (by decide) (s111 hS71)) rfl (kp89))); omega) (by have := (e600 : (x599).toInt = (y2).toInt + (1)); have := congrArg Int32.toInt (show FI550 110 4 = x596 from h597); have := congrArg Int32.toInt (show FI550 110 5 = x592 from h593); omega) (by have := (e600 : (x599).toInt = (y2).toInt + (1)); have := congrArg Int32.toInt (show FI550 111 4 = x61 from (gf_at f554 (c111 hS71) (shd_f (by decide) (s111 hS71)) rfl (kp89))); omega) (by have := (e600 : (x599).toInt = (y2).toInt + (1)); have := congrArg Int32.toInt (show FI550 110 7 = x589 from h590); omega) (by have := (e600 : (x599).toInt = (y2).toInt + (1)); have := congrArg Int32.toInt (show FI550 110 7 = x589 from h590); omega) (by have := (e600 : (x599).toInt = (y2).toInt + (1)); omega) (by have := (e600 : (x599).toInt = (y2).toInt + (1)); omega) (show g_K FI550 from (by have := (e600 : (x599).toInt = (y2).toInt + (1)); exact hK578)) (show g_PV n SH575 FR552 (FI550 110 3).toInt from (by have := (e600 : (x599).toInt = (y2).toInt + (1)); exact u569)) (show ∀ c9 k9, c9 < n → (SH c9).1 = 104 → 176 ≤ c9 → FR552 c9 k9 = FR c9 k9 from (by have := (e600 : (x599).toInt = (y2).toInt + (1)); exact ol598)) (by have := (e600 : (x599).toInt = (y2).toInt + (1)); omega)) ⟨rfl, rfl, rfl, trivial⟩
  exact hw_L (lp101 ((1002 - 0 : Int).toNat + 1) ((0 : Int32)) FI18 FL19 FR20 n41 sl42 SH43 gp46 gw47 gs48 ex_rf hS45 hT49 hk52 (gf_tr ex_rf (gf_f gf_rf u11 (by decide)) f22 rfl rfl rfl) (gf_tr ex_rf gf_rf f23 rfl rfl rfl) (gf_tr ex_rf gf_rf f24 rfl rfl rfl) hI21 hF25 hR26 (show FI18 0 12 = x4 from (gf_at f22 (c0 hS) (shd_f (by decide) (s0 hS)) rfl ((up_k u11 (by decide) (h5))))) (show FR20 0 11 = o7 from (gf_at f24 (c0 hS) (shd_f (by decide) (s0 hS)) rfl (h8))) (show FI18 0 9 = (0 : Int32) from (gf_at f22 (c0 hS) (shd_f (by decide) (s0 hS)) rfl (up_eq u11))) (show FI18 111 4 = x61 from h62) (show FR20 111 5 = (some 19) from u38) (by have := ((by decide : (0 : Int32).toInt = 0) : ((0 : Int32)).toInt = 0); omega) (by have := ((by decide : (0 : Int32).toInt = 0) : ((0 : Int32)).toInt = 0); have := congrArg Int32.toInt (show FI18 110 7 = x58 from h59); have := congrArg Int32.toInt (show FI18 111 4 = x61 from h62); omega) (by have := ((by decide : (0 : Int32).toInt = 0) : ((0 : Int32)).toInt = 0); have := congrArg Int32.toInt (show FI18 110 5 = x54 from h55); have := congrArg Int32.toInt (show FI18 110 8 = x64 from h65); omega) (by have := ((by decide : (0 : Int32).toInt = 0) : ((0 : Int32)).toInt = 0); have := congrArg Int32.toInt (show FI18 110 7 = x58 from h59); have := congrArg Int32.toInt (show FI18 110 8 = x64 from h65); have := congrArg Int32.toInt (show FI18 111 4 = x61 from h62); omega) (by have := ((by decide : (0 : Int32).toInt = 0) : ((0 : Int32)).toInt = 0); have := congrArg Int32.toInt (show FI18 110 4 = x56 from h57); have := congrArg Int32.toInt (show FI18 110 5 = x54 from h55); omega) (by have := ((by decide : (0 : Int32).toInt = 0) : ((0 : Int32)).toInt = 0); have := congrArg Int32.toInt (show FI18 111 4 = x61 from h62); omega) (by have := ((by decide : (0 : Int32).toInt = 0) : ((0 : Int32)).toInt = 0); have := congrArg Int32.toInt (show FI18 110 7 = x58 from h59); omega) (by have := ((by decide : (0 : Int32).toInt = 0) : ((0 : Int32)).toInt = 0); have := congrArg Int32.toInt (show FI18 110 7 = x58 from h59); omega) (by have := ((by decide : (0 : Int32).toInt = 0) : ((0 : Int32)).toInt = 0); omega) (by have := ((by decide : (0 : Int32).toInt = 0) : ((0 : Int32)).toInt = 0); omega) (show g_K FI18 from (by have := ((by decide : (0 : Int32).toInt = 0) : ((0 : Int32)).toInt = 0); exact u36)) (show g_PV n SH43 FR20 (FI18 110 3).toInt from (by have := ((by decide : (0 : Int32).toInt = 0) : ((0 : Int32)).toInt = 0); exact u37)) (show ∀ c9 k9, c9 < n → (SH c9).1 = 104 → 176 ≤ c9 → FR20 c9 k9 = FR c9 k9 from (by have := ((by decide : (0 : Int32).toInt = 0) : ((0 : Int32)).toInt = 0); exact ol66)) (by have := ((by decide : (0 : Int32).toInt = 0) : ((0 : Int32)).toInt = 0); omega)) ⟨rfl, rfl, rfl, trivial⟩
end
section
set_option maxHeartbeats 4000000 in
set_option maxRecDepth 100000 in
theorem k_isVar2 {sk : xK} {base d n sl : Nat} {SH : Nat → Nat × Nat} {FI : Nat → Nat → Int32} {FL : Nat → Nat → Int64} {FR : Nat → Nat → Option Nat} (hS : h_S n SH) (hF : h_FR FR) (hI : g_I FI) (hR : g_R n SH FR) (a1 : Int32) : hw sk base d none 147 0 [(0, .ref (base + 0)), (1, .int (a1))] [] (n, sl, SH, FI, FL, FR) (h_I (fun r s => s = (n, sl, SH, FI, FL, FR) ∧ (0 ≤ r.toInt ∧ r.toInt ≤ 1) ∧ (r.toInt = 1 → 0 ≤ (a1).toInt ∧ (a1).toInt < (FI 0 12).toInt ∧ ∀ v, FR 0 11 = some v → (a1).toInt < ((SH v).2 : Int)))) := by
  have rg_a1 := i_rng a1
  obtain ⟨x1, h2⟩ : ∃ y, FI 0 12 = y := ⟨_, rfl⟩
  have h2l := congrArg Int32.toInt h2
  have b3 := gI_0_12 hI; rw [h2] at b3
  refine xw_iloadn (aX11_isVariable 0 rfl) rfl ?_
  refine hw_iflt (tgt := 25) (aX11_isVariable 1 rfl) (by decide) rfl (fun cd4 => ?_) (fun cd4 => ?_)
  · refine hw_ic (v := (0 : Int32)) (aX11_isVariable 13 rfl) (by decide) ?_
    refine xw_iret (aX11_isVariable 14 rfl) rfl (by decide) ?_
    have e5 : ((0 : Int32)).toInt = 0 := (by decide : (0 : Int32).toInt = 0)
    exact ⟨(0 : Int32), rfl, rfl, (by have : ((0 : Int32)).toInt = 0 := (by decide); omega), (by intro h; exact absurd h (by decide))⟩
  · refine xw_iloadn (aX11_isVariable 2 rfl) rfl ?_
    refine hw_aloadn (aX11_isVariable 3 rfl) rfl ?_
    refine hw_get (v := .int (x1)) (aX11_isVariable 4 rfl) wf_RX11_253 (c0 hS) (s0 hS) (by decide) (congrArg Value.int (show FI 0 12 = x1 from h2)) ?_
    refine hw_icge (tgt := 25) (aX11_isVariable 5 rfl) (by decide) rfl rfl (fun cd6 => ?_) (fun cd6 => ?_)
    · refine hw_ic (v := (0 : Int32)) (aX11_isVariable 13 rfl) (by decide) ?_
      refine xw_iret (aX11_isVariable 14 rfl) rfl (by decide) ?_
      have e7 : ((0 : Int32)).toInt = 0 := (by decide : (0 : Int32).toInt = 0)
      exact ⟨(0 : Int32), rfl, rfl, (by have : ((0 : Int32)).toInt = 0 := (by decide); omega), (by intro h; exact absurd h (by decide))⟩
    · refine xw_iloadn (aX11_isVariable 6 rfl) rfl ?_
      refine hw_aloadn (aX11_isVariable 7 rfl) rfl ?_
      obtain ⟨o8, h9⟩ : ∃ y, FR 0 11 = y := ⟨_, rfl⟩
      have ht10 : ∀ r, o8 = some r → r < n ∧ own r ∧ SH r = (104, (SH r).2) := fun r e => gR_get hR (c0 hS) (Or.inl (by decide)) (s0 hS) (h9.trans e)
      obtain ⟨r11, rfl⟩ := gR_nn hR (by unfold g_nn; omega) h9
      obtain ⟨lt12, ow13, sh14⟩ := ht10 r11 rfl
      refine hw_get (v := .ref (base + r11)) (aX11_isVariable 8 rfl) wf_RX11_28 (c0 hS) (s0 hS) (by decide) (congrArg (fun r => va_rf (h_rf base r)) (show FR 0 11 = some r11 from h9)) ?_
      obtain ⟨x15, h16⟩ : ∃ y, Int32.ofNat (SH r11).2 = y := ⟨_, rfl⟩
      have b17 : (x15).toInt ≤ (((SH r11).2 : Nat) : Int) := by rw [← h16]; exact i_len
      have := i_rng x15
      refine hw_alen (k := 4) (v := x15) (aX11_isVariable 9 rfl) lt12 sh14 (by decide) h16 ?_
      refine hw_icge (tgt := 25) (aX11_isVariable 10 rfl) (by decide) rfl rfl (fun cd18 => ?_) (fun cd18 => ?_)
      · refine hw_ic (v := (0 : Int32)) (aX11_isVariable 13 rfl) (by decide) ?_
        refine xw_iret (aX11_isVariable 14 rfl) rfl (by decide) ?_
        have e19 : ((0 : Int32)).toInt = 0 := (by decide : (0 : Int32).toInt = 0)
        exact ⟨(0 : Int32), rfl, rfl, (by have : ((0 : Int32)).toInt = 0 := (by decide); omega), (by intro h; exact absurd h (by decide))⟩
      · refine hw_ic (v := (1 : Int32)) (aX11_isVariable 11 rfl) (by decide) ?_
        refine xw_goto (tgt := 26) (aX11_isVariable 12 rfl) (by decide) ?_
        refine xw_iret (aX11_isVariable 14 rfl) rfl (by decide) ?_
        have e20 : ((1 : Int32)).toInt = 1 := (by decide : (1 : Int32).toInt = 1)
        exact ⟨(1 : Int32), rfl, rfl, (by have : ((1 : Int32)).toInt = 1 := (by decide); omega), (by intro _; refine ⟨by omega, by omega, fun v hv => ?_⟩; rw [show FR 0 11 = some r11 from h9] at hv; cases hv; omega)⟩
def nX11_variable : Nat := 0xac0901b8650d0114851c0601b42d1000a70901b865cd0014851cfa00b42d1300a2e803111cacbe0601b42d0900a0051cacbefa00b42d0900a0041cac0301b42d08009a1c4e321b1c00b42aac0205009a0001b61b2a
theorem bX11_variable : cX11_variable.data.toList.map UInt8.toNat = x_un nX11_variable 85 := by decide +kernel
def iX11_variable : List (Nat × Jvm.ClassFile.Instr × Nat) := [(0, .aload_n 0, 1), (1, .iload_n 1, 1), (2, .invokevirtual 256, 3), (5, .ifCond .ne 5, 3), (8, .iconst (-1), 1), (9, .ireturn, 1), (10, .aload_n 0, 1), (11, .getfield 28, 3), (14, .iload_n 1, 1), (15, .aaload, 1), (16, .astore_n 3, 1), (17, .iload_n 2, 1), (18, .ifCond .ne 8, 3), (21, .aload_n 3, 1), (22, .getfield 259, 3), (25, .ireturn, 1), (26, .iload_n 2, 1), (27, .iconst 1, 1), (28, .if_icmp .ne 9, 3), (31, .aload_n 3, 1), (32, .getfield 250, 3), (35, .arraylength, 1), (36, .ireturn, 1), (37, .iload_n 2, 1), (38, .iconst 2, 1), (39, .if_icmp .ne 9, 3), (42, .aload_n 3, 1), (43, .getfield 262, 3), (46, .arraylength, 1), (47, .ireturn, 1), (48, .iload_n 2, 1), (49, .sipush 1000, 3), (52, .if_icmp .ge 19, 3), (55, .aload_n 3, 1), (56, .getfield 250, 3), (59, .iload_n 2, 1), (60, .i2l, 1), (61, .ldc2_w 205, 3), (64, .lsub, 1), (65, .invokestatic 265, 3), (68, .goto 16, 3), (71, .aload_n 3, 1), (72, .getfield 262, 3), (75, .iload_n 2, 1), (76, .i2l, 1), (77, .ldc2_w 269, 3), (80, .lsub, 1), (81, .invokestatic 265, 3), (84, .ireturn, 1)]
theorem dX11_variable : x_il nX11_variable 85 iX11_variable = true := by decide +kernel
theorem aX11_variable (k : Nat) {pc : Nat} {i : Jvm.ClassFile.Instr} {len : Nat} (hk : iX11_variable[k]? = some (pc, i, len)) : x_at xMM 148 pc i len yX11_variable 4 (some .int) := ⟨cX11_variable, rfl, x_il_ok bX11_variable dX11_variable k hk⟩
set_option maxHeartbeats 4000000 in
set_option maxRecDepth 100000 in
theorem k_X11_variable {sk : xK} {base d n sl : Nat} {SH : Nat → Nat × Nat} {FI : Nat → Nat → Int32} {FL : Nat → Nat → Int64} {FR : Nat → Nat → Option Nat} (hS : h_S n SH) (hF : h_FR FR) (hI : g_I FI) (hR : g_R n SH FR) (a1 : Int32) (a2 : Int32) (gg0 : g_V SH FI FR) : hw sk base (d + 1) none 148 0 [(0, .ref (base + 0)), (1, .int (a1)), (2, .int (a2))] [] (n, sl, SH, FI, FL, FR) (h_I (fun r s => s = (n, sl, SH, FI, FL, FR))) := by
  have rg_a1 := i_rng a1
  have rg_a2 := i_rng a2
  refine hw_aloadn (aX11_variable 0 rfl) rfl ?_
  refine xw_iloadn (aX11_variable 1 rfl) rfl ?_
  refine hw_callV (Bs := [.int (a1)]) (rest := []) (aX11_variable 2 rfl) wc_RX11_256 (by decide) rfl wi_yX11_isVariable wv_yX11_isVariable (c0 hS) (s0 hS) rfl rfl rfl (Nat.le_of_ble_eq_true rfl) (Nat.le_of_ble_eq_true rfl) (k_isVar2 (d := d) hS hF hI hR (a1) ) (fun v1 sv2 p3 => ?_)
  obtain ⟨r4, rfl, rfl, t8, u9⟩ := p3
  show hw sk base _ _ _ _ _ [.int (r4)] _ _
  refine hw_ifne (tgt := 10) (aX11_variable 3 rfl) (by decide) rfl (fun cd12 => ?_) (fun cd12 => ?_)
  · obtain ⟨q13, q14, q15⟩ := u9 (by omega)
    obtain ⟨o17, h18⟩ : ∃ y, FR 0 11 = y := ⟨_, rfl⟩
    have ht19 : ∀ r, o17 = some r → r < n ∧ own r ∧ SH r = (104, (SH r).2) := fun r e => gR_get hR (c0 hS) (Or.inl (by decide)) (s0 hS) (h18.trans e)
    obtain ⟨r20, rfl⟩ := gR_nn hR (by unfold g_nn; omega) h18
    obtain ⟨lt21, ow22, sh23⟩ := ht19 r20 rfl
    have q16 := q15 r20 (show FR 0 11 = some r20 from h18)
    obtain ⟨v9, h24, h25⟩ := gg0
    rw [show FR 0 11 = some r20 from h18] at h24; cases h24
    obtain ⟨h26, r32, h27, h28, h29, r33, h30⟩ := h25 (a1).toNatClampNeg (by have := i_cn (x := a1) (by omega); omega)
    obtain ⟨lt34, ow35, sh36⟩ := gR_get hR lt21 ow22 sh23 h27
    have sh37 : SH r32 = (10, (SH r32).2) := sh36
    obtain ⟨lt38, ow39, sh40⟩ := gR_get hR lt34 ow35 sh37 h30
    obtain ⟨⟨r41, h45, hz49⟩, ⟨r42, h46, hz50⟩, ⟨r43, h47, hz51⟩, ⟨r44, h48⟩⟩ := h29
    obtain ⟨lt53, ow54, sh55⟩ := gR_get hR lt34 ow35 sh37 h45
    obtain ⟨lt56, ow57, sh58⟩ := gR_get hR lt34 ow35 sh37 h46
    obtain ⟨lt59, ow60, sh61⟩ := gR_get hR lt34 ow35 sh37 h47
    obtain ⟨lt62, ow63, sh64⟩ := gR_get hR lt34 ow35 sh37 h48
    refine hw_aloadn (aX11_variable 6 rfl) rfl ?_
    refine hw_get (v := .ref (base + r20)) (aX11_variable 7 rfl) wf_RX11_28 (c0 hS) (s0 hS) (by decide) (congrArg (fun r => va_rf (h_rf base r)) (show FR 0 11 = some r20 from h18)) ?_
    refine xw_iloadn (aX11_variable 8 rfl) rfl ?_
    refine hw_aald (k := 4) (v := some (r32)) (aX11_variable 9 rfl) lt21 sh23 (by decide) (by decide) (h_in rfl (by omega) (by omega)) (show FR r20 (a1).toNatClampNeg = some (r32) from h27) ?_
    refine hw_astoren (L2 := [(3, .ref (base + r32)), (0, .ref (base + 0)), (1, .int (a1)), (2, .int (a2))]) (aX11_variable 10 rfl) (by decide) rfl ?_
    refine xw_iloadn (aX11_variable 11 rfl) rfl ?_
    refine hw_ifne (tgt := 26) (aX11_variable 12 rfl) (by decide) rfl (fun cd65 => ?_) (fun cd65 => ?_)
    · refine xw_iloadn (aX11_variable 16 rfl) rfl ?_
      refine hw_ic (v := (1 : Int32)) (aX11_variable 17 rfl) (by decide) ?_
      refine hw_icne (tgt := 37) (aX11_variable 18 rfl) (by decide) rfl (by decide : (1 : Int32).toInt = 1) (fun cd66 => ?_) (fun cd66 => ?_)
      · refine xw_iloadn (aX11_variable 23 rfl) rfl ?_
        refine hw_ic (v := (2 : Int32)) (aX11_variable 24 rfl) (by decide) ?_
        refine hw_icne (tgt := 48) (aX11_variable 25 rfl) (by decide) rfl (by decide : (2 : Int32).toInt = 2) (fun cd67 => ?_) (fun cd67 => ?_)
        · refine xw_iloadn (aX11_variable 30 rfl) rfl ?_
          refine hw_sp (v := (1000 : Int32)) (aX11_variable 31 rfl) (by decide) ?_
          refine hw_icge (tgt := 71) (aX11_variable 32 rfl) (by decide) rfl (by decide : (1000 : Int32).toInt = 1000) (fun cd68 => ?_) (fun cd68 => ?_)
          · refine hw_aloadn (aX11_variable 41 rfl) rfl ?_
            refine hw_get (v := .ref (base + r44)) (aX11_variable 42 rfl) wf_RX11_262 lt34 sh37 (by decide) (congrArg (fun r => va_rf (h_rf base r)) (show FR r32 0 = some r44 from h48)) ?_
            refine xw_iloadn (aX11_variable 43 rfl) rfl ?_
            refine xw_i2l (aX11_variable 44 rfl) ?_
            refine hw_tle (A := (a2).toInt) (i_2l rfl) (fun x69 e70 => ?_)
            refine xw_ldc2 (aX11_variable 45 rfl) wk_RX11_269 ?_
            refine xw_lsub (aX11_variable 46 rfl) ?_
            refine hw_tle (A := ((a2).toInt) - (1000)) (l_sub e70 (by decide : (1000 : Int64).toInt = 1000) (by omega) (by omega)) (fun x71 e72 => ?_)
            refine hw_callS (As := [.ref (base + r44), .long (x71)]) (rest := []) (aX11_variable 47 rfl) wc_RX11_265 (by decide) rfl wt_yX11_byteAt rfl rfl (Nat.le_of_ble_eq_true rfl) (Nat.le_of_ble_eq_true rfl) (k_X11_byteAt (d := d) hS hF hI hR (r44) lt62 sh64 ow63 (x71) ) (fun v73 sv74 p75 => ?_)
            obtain ⟨r76, rfl, rfl⟩ := p75
            have rg_r76 := i_rng r76
            show hw sk base _ _ _ _ _ [.int (r76)] _ _
            refine xw_iret (aX11_variable 48 rfl) rfl rfl ?_
            exact ⟨r76, rfl, rfl⟩
          · refine hw_aloadn (aX11_variable 33 rfl) rfl ?_
            refine hw_get (v := .ref (base + r33)) (aX11_variable 34 rfl) wf_RX11_250 lt34 sh37 (by decide) (congrArg (fun r => va_rf (h_rf base r)) (show FR r32 6 = some r33 from h30)) ?_
            refine xw_iloadn (aX11_variable 35 rfl) rfl ?_
            refine xw_i2l (aX11_variable 36 rfl) ?_
            refine hw_tle (A := (a2).toInt) (i_2l rfl) (fun x82 e83 => ?_)
            refine xw_ldc2 (aX11_variable 37 rfl) wk_RX11_205 ?_
            refine xw_lsub (aX11_variable 38 rfl) ?_
            refine hw_tle (A := ((a2).toInt) - (100)) (l_sub e83 (by decide : (100 : Int64).toInt = 100) (by omega) (by omega)) (fun x84 e85 => ?_)
            refine hw_callS (As := [.ref (base + r33), .long (x84)]) (rest := []) (aX11_variable 39 rfl) wc_RX11_265 (by decide) rfl wt_yX11_byteAt rfl rfl (Nat.le_of_ble_eq_true rfl) (Nat.le_of_ble_eq_true rfl) (k_X11_byteAt (d := d) hS hF hI hR (r33) lt38 sh40 ow39 (x84) ) (fun v86 sv87 p88 => ?_)
            obtain ⟨r89, rfl, rfl⟩ := p88
            have rg_r89 := i_rng r89
            show hw sk base _ _ _ _ _ [.int (r89)] _ _
            refine xw_goto (tgt := 84) (aX11_variable 40 rfl) (by decide) ?_
            refine xw_iret (aX11_variable 48 rfl) rfl rfl ?_
            exact ⟨r89, rfl, rfl⟩
        · refine hw_aloadn (aX11_variable 26 rfl) rfl ?_
          refine hw_get (v := .ref (base + r44)) (aX11_variable 27 rfl) wf_RX11_262 lt34 sh37 (by decide) (congrArg (fun r => va_rf (h_rf base r)) (show FR r32 0 = some r44 from h48)) ?_
          obtain ⟨x95, h96⟩ : ∃ y, Int32.ofNat (SH r44).2 = y := ⟨_, rfl⟩
          have b97 : (x95).toInt ≤ (((SH r44).2 : Nat) : Int) := by rw [← h96]; exact i_len
          have := i_rng x95
          refine hw_alen (k := 0) (v := x95) (aX11_variable 28 rfl) lt62 sh64 (by decide) h96 ?_
          refine xw_iret (aX11_variable 29 rfl) rfl rfl ?_
          exact ⟨x95, rfl, rfl⟩
      · refine hw_aloadn (aX11_variable 19 rfl) rfl ?_
        refine hw_get (v := .ref (base + r33)) (aX11_variable 20 rfl) wf_RX11_250 lt34 sh37 (by decide) (congrArg (fun r => va_rf (h_rf base r)) (show FR r32 6 = some r33 from h30)) ?_
        obtain ⟨x98, h99⟩ : ∃ y, Int32.ofNat (SH r33).2 = y := ⟨_, rfl⟩
        have b100 : (x98).toInt ≤ (((SH r33).2 : Nat) : Int) := by rw [← h99]; exact i_len
        have := i_rng x98
        refine hw_alen (k := 0) (v := x98) (aX11_variable 21 rfl) lt38 sh40 (by decide) h99 ?_
        refine xw_iret (aX11_variable 22 rfl) rfl rfl ?_
        exact ⟨x98, rfl, rfl⟩
    · refine hw_aloadn (aX11_variable 13 rfl) rfl ?_
      obtain ⟨x101, h102⟩ : ∃ y, FI r32 5 = y := ⟨_, rfl⟩
      have h102l := congrArg Int32.toInt h102
      have := i_rng x101
      refine hw_get (v := .int (x101)) (aX11_variable 14 rfl) wf_RX11_259 lt34 sh37 (by decide) (congrArg Value.int (show FI r32 5 = x101 from h102)) ?_
      refine xw_iret (aX11_variable 15 rfl) rfl rfl ?_
      exact ⟨x101, rfl, rfl⟩
  · refine hw_ic (v := ((-1) : Int32)) (aX11_variable 4 rfl) (by decide) ?_
    refine xw_iret (aX11_variable 5 rfl) rfl rfl ?_
    have e103 : (((-1) : Int32)).toInt = (-1) := (by decide : ((-1) : Int32).toInt = (-1))
    exact ⟨((-1) : Int32), rfl, rfl⟩
def nX11_where : Nat := 0xac8800b60415200905192a0d00a78400b60415be05190305192a12009a0301b4321b1c00b42a053afa00b4321b1c00b42aac0205009a8000b804150b00990001b61b2a
theorem bX11_where : cX11_where.data.toList.map UInt8.toNat = x_un nX11_where 67 := by decide +kernel
def iX11_where : List (Nat × Jvm.ClassFile.Instr × Nat) := [(0, .aload_n 0, 1), (1, .iload_n 1, 1), (2, .invokevirtual 256, 3), (5, .ifCond .eq 11, 3), (8, .iload 4, 2), (10, .invokestatic 128, 3), (13, .ifCond .ne 5, 3), (16, .iconst (-1), 1), (17, .ireturn, 1), (18, .aload_n 0, 1), (19, .getfield 28, 3), (22, .iload_n 1, 1), (23, .aaload, 1), (24, .getfield 250, 3), (27, .astore 5, 2), (29, .aload_n 0, 1), (30, .getfield 28, 3), (33, .iload_n 1, 1), (34, .aaload, 1), (35, .getfield 259, 3), (38, .ifCond .ne 18, 3), (41, .aload_n 0, 1), (42, .aload 5, 2), (44, .iconst 0, 1), (45, .aload 5, 2), (47, .arraylength, 1), (48, .iload 4, 2), (50, .invokevirtual 132, 3), (53, .goto 13, 3), (56, .aload_n 0, 1), (57, .aload 5, 2), (59, .lconst 0, 1), (60, .lload_n 2, 1), (61, .iload 4, 2), (63, .invokevirtual 136, 3), (66, .ireturn, 1)]
theorem dX11_where : x_il nX11_where 67 iX11_where = true := by decide +kernel
theorem aX11_where (k : Nat) {pc : Nat} {i : Jvm.ClassFile.Instr} {len : Nat} (hk : iX11_where[k]? = some (pc, i, len)) : x_at xMM 150 pc i len yX11_where 6 (some .int) := ⟨cX11_where, rfl, x_il_ok bX11_where dX11_where k hk⟩
set_option maxHeartbeats 4000000 in
set_option maxRecDepth 100000 in
theorem k_X11_where {sk : xK} {base d n sl : Nat} {SH : Nat → Nat × Nat} {FI : Nat → Nat → Int32} {FL : Nat → Nat → Int64} {FR : Nat → Nat → Option Nat} (hS : h_S n SH) (hF : h_FR FR) (hI : g_I FI) (hR : g_R n SH FR) (a1 : Int32) (a2 : Int64) (a3 : Int32) (gg0 : g_V SH FI FR) : hw sk base (d + 535) none 150 0 [(0, .ref (base + 0)), (1, .int (a1)), (2, .long (a2)), (4, .int (a3))] [] (n, sl, SH, FI, FL, FR) (h_I (fun r s => ∃ FI' FL' FR', s = (n, sl, SH, FI', FL', FR') ∧ g_I FI' ∧ g_fr n (shd SH) [(48, 5), (48, 6), (48, 7), (48, 8), (48, 9), (48, 10), (48, 11), (49, 5), (49, 6), (49, 7), (49, 8), (49, 9), (49, 10), (49, 11)] [21] [5, 8, 9] FI FI' ∧ g_fr n (shd SH) [(48, 12), (48, 13), (48, 14), (48, 15), (49, 12), (49, 13), (49, 14), (49, 15)] [] [5, 9, 101] FL FL' ∧ g_fr n (shd SH) [] [] [5] FR FR' ∧ h_FR FR' ∧ g_R n SH FR')) := by
  have rg_a1 := i_rng a1
  have rg_a2 := l_rng a2
  have rg_a3 := i_rng a3
  refine hw_aloadn (aX11_where 0 rfl) rfl ?_
  refine xw_iloadn (aX11_where 1 rfl) rfl ?_
  refine hw_callV (Bs := [.int (a1)]) (rest := []) (aX11_where 2 rfl) wc_RX11_256 (by decide) rfl wi_yX11_isVariable wv_yX11_isVariable (c0 hS) (s0 hS) rfl rfl rfl (Nat.le_of_ble_eq_true rfl) (Nat.le_of_ble_eq_true rfl) (k_isVar2 (d := d + 534) hS hF hI hR (a1) ) (fun v1 sv2 p3 => ?_)
  obtain ⟨r4, rfl, rfl, t8, u9⟩ := p3
  show hw sk base _ _ _ _ _ [.int (r4)] _ _
  refine hw_ifeq (tgt := 16) (aX11_where 3 rfl) (by decide) rfl (fun cd12 => ?_) (fun cd12 => ?_)
  · refine hw_ic (v := ((-1) : Int32)) (aX11_where 7 rfl) (by decide) ?_
    refine xw_iret (aX11_where 8 rfl) rfl rfl ?_
    have e13 : (((-1) : Int32)).toInt = (-1) := (by decide : ((-1) : Int32).toInt = (-1))
    exact ⟨((-1) : Int32), rfl, FI, FL, FR, rfl, hI, gf_rf, gf_rf, gf_rf, hF, hR⟩
  · obtain ⟨q14, q15, q16⟩ := u9 (by omega)
    obtain ⟨o18, h19⟩ : ∃ y, FR 0 11 = y := ⟨_, rfl⟩
    have ht20 : ∀ r, o18 = some r → r < n ∧ own r ∧ SH r = (104, (SH r).2) := fun r e => gR_get hR (c0 hS) (Or.inl (by decide)) (s0 hS) (h19.trans e)
    obtain ⟨r21, rfl⟩ := gR_nn hR (by unfold g_nn; omega) h19
    obtain ⟨lt22, ow23, sh24⟩ := ht20 r21 rfl
    have q17 := q16 r21 (show FR 0 11 = some r21 from h19)
    obtain ⟨v9, h25, h26⟩ := gg0
    rw [show FR 0 11 = some r21 from h19] at h25; cases h25
    obtain ⟨h27, r33, h28, h29, h30, r34, h31⟩ := h26 (a1).toNatClampNeg (by have := i_cn (x := a1) (by omega); omega)
    obtain ⟨lt35, ow36, sh37⟩ := gR_get hR lt22 ow23 sh24 h28
    have sh38 : SH r33 = (10, (SH r33).2) := sh37
    obtain ⟨lt39, ow40, sh41⟩ := gR_get hR lt35 ow36 sh38 h31
    obtain ⟨⟨r42, h46, hz50⟩, ⟨r43, h47, hz51⟩, ⟨r44, h48, hz52⟩, ⟨r45, h49⟩⟩ := h30
    obtain ⟨lt54, ow55, sh56⟩ := gR_get hR lt35 ow36 sh38 h46
    obtain ⟨lt57, ow58, sh59⟩ := gR_get hR lt35 ow36 sh38 h47
    obtain ⟨lt60, ow61, sh62⟩ := gR_get hR lt35 ow36 sh38 h48
    obtain ⟨lt63, ow64, sh65⟩ := gR_get hR lt35 ow36 sh38 h49
    refine xw_iload (aX11_where 4 rfl) rfl ?_
    refine hw_callS (As := [.int (a3)]) (rest := []) (aX11_where 5 rfl) wc_RX11_128 (by decide) rfl wt_yX11_isFuel rfl rfl (Nat.le_of_ble_eq_true rfl) (Nat.le_of_ble_eq_true rfl) (k_X11_isFuel (d := d + 534) hS hF hI hR (a3) ) (fun v66 sv67 p68 => ?_)
    obtain ⟨r69, rfl, rfl, t73⟩ := p68
    show hw sk base _ _ _ _ _ [.int (r69)] _ _
    refine hw_ifne (tgt := 18) (aX11_where 6 rfl) (by decide) rfl (fun cd76 => ?_) (fun cd76 => ?_)
    · refine hw_aloadn (aX11_where 9 rfl) rfl ?_
      refine hw_get (v := .ref (base + r21)) (aX11_where 10 rfl) wf_RX11_28 (c0 hS) (s0 hS) (by decide) (congrArg (fun r => va_rf (h_rf base r)) (show FR 0 11 = some r21 from h19)) ?_
      refine xw_iloadn (aX11_where 11 rfl) rfl ?_
      refine hw_aald (k := 4) (v := some (r33)) (aX11_where 12 rfl) lt22 sh24 (by decide) (by decide) (h_in rfl (by omega) (by omega)) (show FR r21 (a1).toNatClampNeg = some (r33) from h28) ?_
      refine hw_get (v := .ref (base + r34)) (aX11_where 13 rfl) wf_RX11_250 lt35 sh38 (by decide) (congrArg (fun r => va_rf (h_rf base r)) (show FR r33 6 = some r34 from h31)) ?_
      refine hw_astore (L2 := [(5, .ref (base + r34)), (0, .ref (base + 0)), (1, .int (a1)), (2, .long (a2)), (4, .int (a3))]) (aX11_where 14 rfl) (by decide) rfl ?_
      refine hw_aloadn (aX11_where 15 rfl) rfl ?_
      refine hw_get (v := .ref (base + r21)) (aX11_where 16 rfl) wf_RX11_28 (c0 hS) (s0 hS) (by decide) (congrArg (fun r => va_rf (h_rf base r)) (show FR 0 11 = some r21 from h19)) ?_
      refine xw_iloadn (aX11_where 17 rfl) rfl ?_
      refine hw_aald (k := 4) (v := some (r33)) (aX11_where 18 rfl) lt22 sh24 (by decide) (by decide) (h_in rfl (by omega) (by omega)) (show FR r21 (a1).toNatClampNeg = some (r33) from h28) ?_
      obtain ⟨x77, h78⟩ : ∃ y, FI r33 5 = y := ⟨_, rfl⟩
      have h78l := congrArg Int32.toInt h78
      have := i_rng x77
      refine hw_get (v := .int (x77)) (aX11_where 19 rfl) wf_RX11_259 lt35 sh38 (by decide) (congrArg Value.int (show FI r33 5 = x77 from h78)) ?_
      refine hw_ifne (tgt := 56) (aX11_where 20 rfl) (by decide) rfl (fun cd79 => ?_) (fun cd79 => ?_)
      · refine hw_aloadn (aX11_where 29 rfl) rfl ?_
        refine hw_aload (aX11_where 30 rfl) rfl ?_
        refine hw_lc (v := (0 : Int64)) (aX11_where 31 rfl) (by decide) ?_
        refine xw_lloadn (aX11_where 32 rfl) rfl ?_
        refine xw_iload (aX11_where 33 rfl) rfl ?_
        refine hw_callV (Bs := [.ref (base + r34), .long ((0 : Int64)), .long (a2), .int (a3)]) (rest := []) (aX11_where 34 rfl) wc_RX11_136 (by decide) rfl wi_yX11_search wv_yX11_search (c0 hS) (s0 hS) rfl rfl rfl (Nat.le_of_ble_eq_true rfl) (Nat.le_of_ble_eq_true rfl) (k_X11_search (d := d) hS hF hI hR (r34) lt39 sh41 ow40 ((0 : Int64)) (a2) (a3) ) (fun v80 sv81 p82 => ?_)
        obtain ⟨r83, rfl, FI84, FL85, FR86, rfl, hI87, f88, f89, f90, hF91, hR92⟩ := p82
        have rg_r83 := i_rng r83
        show hw sk base _ _ _ _ _ [.int (r83)] _ _
        refine xw_iret (aX11_where 35 rfl) rfl rfl ?_
        exact ⟨r83, rfl, FI84, FL85, FR86, rfl, hI87, (gf_tr ex_rf gf_rf f88 rfl rfl rfl), (gf_tr ex_rf gf_rf f89 rfl rfl rfl), (gf_tr ex_rf gf_rf f90 rfl rfl rfl), hF91, hR92⟩
      · refine hw_aloadn (aX11_where 21 rfl) rfl ?_
        refine hw_aload (aX11_where 22 rfl) rfl ?_
        refine hw_ic (v := (0 : Int32)) (aX11_where 23 rfl) (by decide) ?_
        refine hw_aload (aX11_where 24 rfl) rfl ?_
        obtain ⟨x95, h96⟩ : ∃ y, Int32.ofNat (SH r34).2 = y := ⟨_, rfl⟩
        have b97 : (x95).toInt ≤ (((SH r34).2 : Nat) : Int) := by rw [← h96]; exact i_len
        have := i_rng x95
        refine hw_alen (k := 0) (v := x95) (aX11_where 25 rfl) lt39 sh41 (by decide) h96 ?_
        refine xw_iload (aX11_where 26 rfl) rfl ?_
        refine hw_callV (Bs := [.ref (base + r34), .int ((0 : Int32)), .int (x95), .int (a3)]) (rest := []) (aX11_where 27 rfl) wc_RX11_132 (by decide) rfl wi_yX11_runBytes wv_yX11_runBytes (c0 hS) (s0 hS) rfl rfl rfl (Nat.le_of_ble_eq_true rfl) (Nat.le_of_ble_eq_true rfl) (k_X11_runBytes (d := d + 1) hS hF hI hR (r34) lt39 sh41 ow40 ((0 : Int32)) (x95) (a3) ) (fun v98 sv99 p100 => ?_)
        obtain ⟨r101, rfl, FI102, FL103, FR104, rfl, hI105, f106, f107, f108, hF109, hR110⟩ := p100
        have rg_r101 := i_rng r101
        show hw sk base _ _ _ _ _ [.int (r101)] _ _
        refine xw_goto (tgt := 66) (aX11_where 28 rfl) (by decide) ?_
        refine xw_iret (aX11_where 35 rfl) rfl rfl ?_
        exact ⟨r101, rfl, FI102, FL103, FR104, rfl, hI105, (gf_tr ex_rf gf_rf f106 rfl rfl rfl), (gf_tr ex_rf gf_rf f107 rfl rfl rfl), (gf_tr ex_rf gf_rf f108 rfl rfl rfl), hF109, hR110⟩
    · refine hw_ic (v := ((-1) : Int32)) (aX11_where 7 rfl) (by decide) ?_
      refine xw_iret (aX11_where 8 rfl) rfl rfl ?_
      have e113 : (((-1) : Int32)).toInt = (-1) := (by decide : ((-1) : Int32).toInt = (-1))
      exact ⟨((-1) : Int32), rfl, FI, FL, FR, rfl, hI, gf_rf, gf_rf, gf_rf, hF, hR⟩
def nX11_means : Nat := 0xac04159f00b603030304152a9200b61301b43300b42a0a00b42a11009a041504360f01b620321b1c00b42a3300b42aac0205009a0001b61b2a
theorem bX11_means : cX11_means.data.toList.map UInt8.toNat = x_un nX11_means 57 := by decide +kernel
def iX11_means : List (Nat × Jvm.ClassFile.Instr × Nat) := [(0, .aload_n 0, 1), (1, .iload_n 1, 1), (2, .invokevirtual 256, 3), (5, .ifCond .ne 5, 3), (8, .iconst (-1), 1), (9, .ireturn, 1), (10, .aload_n 0, 1), (11, .getfield 51, 3), (14, .aload_n 0, 1), (15, .getfield 28, 3), (18, .iload_n 1, 1), (19, .aaload, 1), (20, .lload_n 2, 1), (21, .invokevirtual 271, 3), (24, .istore 4, 2), (26, .iload 4, 2), (28, .ifCond .ne 17, 3), (31, .aload_n 0, 1), (32, .getfield 10, 3), (35, .aload_n 0, 1), (36, .getfield 51, 3), (39, .getfield 275, 3), (42, .invokevirtual 146, 3), (45, .aload_n 0, 1), (46, .iload 4, 2), (48, .iconst 0, 1), (49, .iconst 0, 1), (50, .iconst 0, 1), (51, .invokevirtual 159, 3), (54, .iload 4, 2), (56, .ireturn, 1)]
theorem dX11_means : x_il nX11_means 57 iX11_means = true := by decide +kernel
theorem aX11_means (k : Nat) {pc : Nat} {i : Jvm.ClassFile.Instr} {len : Nat} (hk : iX11_means[k]? = some (pc, i, len)) : x_at xMM 151 pc i len yX11_means 5 (some .int) := ⟨cX11_means, rfl, x_il_ok bX11_means dX11_means k hk⟩
set_option maxHeartbeats 4000000 in
set_option maxRecDepth 100000 in
theorem k_X11_means {sk : xK} {base d n sl : Nat} {SH : Nat → Nat × Nat} {FI : Nat → Nat → Int32} {FL : Nat → Nat → Int64} {FR : Nat → Nat → Option Nat} (hS : h_S n SH) (hF : h_FR FR) (hI : g_I FI) (hR : g_R n SH FR) (a1 : Int32) (a2 : Int64) (gp : Nat → Nat) (gw : Nat → Nat) (gs : Nat → Nat) (gg0 : g_T n SH FI FR gp gw gs) (gg1 : g_V SH FI FR) : hw sk base (d + 303) none 151 0 [(0, .ref (base + 0)), (1, .int (a1)), (2, .long (a2))] [] (n, sl, SH, FI, FL, FR) (h_I (fun r s => ∃ FI' FL' FR', s = (n, sl, SH, FI', FL', FR') ∧ g_I FI' ∧ g_fr n (shd SH) [(48, 5), (48, 6), (48, 7), (48, 8), (48, 9), (48, 10), (48, 11), (49, 5), (49, 6), (49, 7), (49, 8), (49, 9), (49, 10), (49, 11), (90, 4)] [21] [5, 8, 9] FI FI' ∧ g_fr n (shd SH) [(48, 12), (48, 13), (48, 14), (48, 15), (49, 12), (49, 13), (49, 14), (49, 15)] [] [5, 9, 101] FL FL' ∧ g_fr n (shd SH) [] [] [5] FR FR' ∧ h_FR FR' ∧ g_R n SH FR')) := by
  have rg_a1 := i_rng a1
  have rg_a2 := l_rng a2
  refine hw_aloadn (aX11_means 0 rfl) rfl ?_
  refine xw_iloadn (aX11_means 1 rfl) rfl ?_
  refine hw_callV (Bs := [.int (a1)]) (rest := []) (aX11_means 2 rfl) wc_RX11_256 (by decide) rfl wi_yX11_isVariable wv_yX11_isVariable (c0 hS) (s0 hS) rfl rfl rfl (Nat.le_of_ble_eq_true rfl) (Nat.le_of_ble_eq_true rfl) (k_isVar2 (d := d + 302) hS hF hI hR (a1) ) (fun v1 sv2 p3 => ?_)
  obtain ⟨r4, rfl, rfl, t8, u9⟩ := p3
  show hw sk base _ _ _ _ _ [.int (r4)] _ _
  refine hw_ifne (tgt := 10) (aX11_means 3 rfl) (by decide) rfl (fun cd12 => ?_) (fun cd12 => ?_)
  · obtain ⟨q13, q14, q15⟩ := u9 (by omega)
    obtain ⟨o17, h18⟩ : ∃ y, FR 0 11 = y := ⟨_, rfl⟩
    have ht19 : ∀ r, o17 = some r → r < n ∧ own r ∧ SH r = (104, (SH r).2) := fun r e => gR_get hR (c0 hS) (Or.inl (by decide)) (s0 hS) (h18.trans e)
    obtain ⟨r20, rfl⟩ := gR_nn hR (by unfold g_nn; omega) h18
    obtain ⟨lt21, ow22, sh23⟩ := ht19 r20 rfl
    have q16 := q15 r20 (show FR 0 11 = some r20 from h18)
    obtain ⟨v9, h24, h25⟩ := gg1
    rw [show FR 0 11 = some r20 from h18] at h24; cases h24
    obtain ⟨h26, r32, h27, h28, h29, r33, h30⟩ := h25 (a1).toNatClampNeg (by have := i_cn (x := a1) (by omega); omega)
    obtain ⟨lt34, ow35, sh36⟩ := gR_get hR lt21 ow22 sh23 h27
    have sh37 : SH r32 = (10, (SH r32).2) := sh36
    obtain ⟨lt38, ow39, sh40⟩ := gR_get hR lt34 ow35 sh37 h30
    obtain ⟨⟨r41, h45, hz49⟩, ⟨r42, h46, hz50⟩, ⟨r43, h47, hz51⟩, ⟨r44, h48⟩⟩ := h29
    obtain ⟨lt53, ow54, sh55⟩ := gR_get hR lt34 ow35 sh37 h45
    obtain ⟨lt56, ow57, sh58⟩ := gR_get hR lt34 ow35 sh37 h46
    obtain ⟨lt59, ow60, sh61⟩ := gR_get hR lt34 ow35 sh37 h47
    obtain ⟨lt62, ow63, sh64⟩ := gR_get hR lt34 ow35 sh37 h48
    refine hw_aloadn (aX11_means 6 rfl) rfl ?_
    refine hw_get (v := .ref (base + 90)) (aX11_means 7 rfl) wf_RX11_51 (c0 hS) (s0 hS) (by decide) (congrArg (fun r => va_rf (h_rf base r)) (r0_2 hF)) ?_
    refine hw_aloadn (aX11_means 8 rfl) rfl ?_
    refine hw_get (v := .ref (base + r20)) (aX11_means 9 rfl) wf_RX11_28 (c0 hS) (s0 hS) (by decide) (congrArg (fun r => va_rf (h_rf base r)) (show FR 0 11 = some r20 from h18)) ?_
    refine xw_iloadn (aX11_means 10 rfl) rfl ?_
    refine hw_aald (k := 4) (v := some (r32)) (aX11_means 11 rfl) lt21 sh23 (by decide) (by decide) (h_in rfl (by omega) (by omega)) (show FR r20 (a1).toNatClampNeg = some (r32) from h27) ?_
    refine xw_lloadn (aX11_means 12 rfl) rfl ?_
    refine hw_callV (Bs := [.ref (base + r32), .long (a2)]) (rest := []) (aX11_means 13 rfl) wc_RX11_271 (by decide) rfl wi_yX2_say wv_yX2_say (c90 hS) (s90 hS) rfl rfl rfl (Nat.le_of_ble_eq_true rfl) (Nat.le_of_ble_eq_true rfl) (k_X2_say (d := d) hS hF hI hR (r32) lt34 sh37 ow35 (a2) (gp) (gw) (gs) ((gT_mw (L := [(48, 5), (48, 6), (48, 7), (48, 8), (48, 9), (48, 10), (48, 11), (49, 5), (49, 6), (49, 7), (49, 8), (49, 9), (49, 10), (49, 11), (90, 4)]) (A := [21]) (T := [5, 8, 9]) (L2 := []) (A2 := []) (T2 := [5]) hS gg0 gf_rf gf_rf (by decide) (by decide))) ((show g_Vv SH FR r32 from ⟨⟨_, h45, hz49⟩, ⟨_, h46, hz50⟩, ⟨_, h47, hz51⟩, ⟨_, h48⟩⟩))) (fun v65 sv66 p67 => ?_)
    obtain ⟨r68, rfl, FI69, FL70, FR71, rfl, hI72, f73, f74, f75, hF76, hR77⟩ := p67
    have rg_r68 := i_rng r68
    show hw sk base _ _ _ _ _ [.int (r68)] _ _
    refine xw_istore (L2 := [(4, .int (r68)), (0, .ref (base + 0)), (1, .int (a1)), (2, .long (a2))]) (aX11_means 14 rfl) (by decide) rfl ?_
    refine xw_iload (aX11_means 15 rfl) rfl ?_
    refine hw_ifne (tgt := 45) (aX11_means 16 rfl) (by decide) rfl (fun cd80 => ?_) (fun cd80 => ?_)
    · refine hw_aloadn (aX11_means 23 rfl) rfl ?_
      refine xw_iload (aX11_means 24 rfl) rfl ?_
      refine hw_ic (v := (0 : Int32)) (aX11_means 25 rfl) (by decide) ?_
      refine hw_ic (v := (0 : Int32)) (aX11_means 26 rfl) (by decide) ?_
      refine hw_ic (v := (0 : Int32)) (aX11_means 27 rfl) (by decide) ?_
      refine hw_callV (Bs := [.int (r68), .int ((0 : Int32)), .int ((0 : Int32)), .int ((0 : Int32))]) (rest := []) (aX11_means 28 rfl) wc_RX11_159 (by decide) rfl wi_yX11_tell wv_yX11_tell (c0 hS) (s0 hS) rfl rfl rfl (Nat.le_of_ble_eq_true rfl) (Nat.le_of_ble_eq_true rfl) (k_X11_tell (d := d + 302) hS hF76 hI72 hR77 (r68) ((0 : Int32)) ((0 : Int32)) ((0 : Int32)) ) (fun v81 sv82 p83 => ?_)
      obtain ⟨rfl, FI85, rfl, hI86, f87⟩ := p83
      show hw sk base _ _ _ _ _ [] _ _
      refine xw_iload (aX11_means 29 rfl) rfl ?_
      refine xw_iret (aX11_means 30 rfl) rfl rfl ?_
      exact ⟨r68, rfl, FI85, FL70, FR71, rfl, hI86, (gf_tr ex_rf (gf_tr ex_rf gf_rf f73 rfl rfl rfl) f87 rfl rfl rfl), (gf_tr ex_rf gf_rf f74 rfl rfl rfl), (gf_tr ex_rf gf_rf f75 rfl rfl rfl), hF76, hR77⟩
    · refine hw_aloadn (aX11_means 17 rfl) rfl ?_
      refine hw_get (v := .ref (base + 1)) (aX11_means 18 rfl) wf_RX11_10 (c0 hS) (s0 hS) (by decide) (congrArg (fun r => va_rf (h_rf base r)) (r0_5 hF76)) ?_
      refine hw_aloadn (aX11_means 19 rfl) rfl ?_
      refine hw_get (v := .ref (base + 90)) (aX11_means 20 rfl) wf_RX11_51 (c0 hS) (s0 hS) (by decide) (congrArg (fun r => va_rf (h_rf base r)) (r0_2 hF76)) ?_
      refine hw_get (v := .ref (base + 91)) (aX11_means 21 rfl) wf_RX11_275 (c90 hS) (s90 hS) (by decide) (congrArg (fun r => va_rf (h_rf base r)) (r90_2 hF76)) ?_
      refine hw_callV (Bs := [.ref (base + 91)]) (rest := []) (aX11_means 22 rfl) wc_RX11_146 (by decide) rfl wi_yX8_take wv_yX8_take (c1 hS) (s1 hS) rfl rfl rfl (Nat.le_of_ble_eq_true rfl) (Nat.le_of_ble_eq_true rfl) (k_X8_take (d := d + 301) hS hF76 hI72 hR77 (1) (c1 hS) (s1 hS) (Or.inl (by decide)) (91) (c91 hS) (s91 hS) (Or.inl (by decide)) ) (fun v92 sv93 p94 => ?_)
      obtain ⟨rfl, FI96, FL97, FR98, rfl, hI99, f100, f101, f102, hF103, hR104⟩ := p94
      show hw sk base _ _ _ _ _ [] _ _
      refine hw_aloadn (aX11_means 23 rfl) rfl ?_
      refine xw_iload (aX11_means 24 rfl) rfl ?_
      refine hw_ic (v := (0 : Int32)) (aX11_means 25 rfl) (by decide) ?_
      refine hw_ic (v := (0 : Int32)) (aX11_means 26 rfl) (by decide) ?_
      refine hw_ic (v := (0 : Int32)) (aX11_means 27 rfl) (by decide) ?_
      refine hw_callV (Bs := [.int (r68), .int ((0 : Int32)), .int ((0 : Int32)), .int ((0 : Int32))]) (rest := []) (aX11_means 28 rfl) wc_RX11_159 (by decide) rfl wi_yX11_tell wv_yX11_tell (c0 hS) (s0 hS) rfl rfl rfl (Nat.le_of_ble_eq_true rfl) (Nat.le_of_ble_eq_true rfl) (k_X11_tell (d := d + 302) hS hF103 hI99 hR104 (r68) ((0 : Int32)) ((0 : Int32)) ((0 : Int32)) ) (fun v107 sv108 p109 => ?_)
      obtain ⟨rfl, FI111, rfl, hI112, f113⟩ := p109
      show hw sk base _ _ _ _ _ [] _ _
      refine xw_iload (aX11_means 29 rfl) rfl ?_
      refine xw_iret (aX11_means 30 rfl) rfl rfl ?_
      exact ⟨r68, rfl, FI111, FL97, FR98, rfl, hI112, (gf_tr ex_rf (gf_tr ex_rf (gf_tr ex_rf gf_rf f73 rfl rfl rfl) f100 rfl rfl rfl) f113 rfl rfl rfl), (gf_tr ex_rf (gf_tr ex_rf gf_rf f74 rfl rfl rfl) f101 rfl rfl rfl), (gf_tr ex_rf (gf_tr ex_rf gf_rf f75 rfl rfl rfl) f102 rfl rfl rfl), hF103, hR104⟩
  · refine hw_ic (v := ((-1) : Int32)) (aX11_means 4 rfl) (by decide) ?_
    refine xw_iret (aX11_means 5 rfl) rfl rfl ?_
    have e118 : (((-1) : Int32)).toInt = (-1) := (by decide : ((-1) : Int32).toInt = (-1))
    exact ⟨((-1) : Int32), rfl, FI, FL, FR, rfl, hI, gf_rf, gf_rf, gf_rf, hF, hR⟩
end
