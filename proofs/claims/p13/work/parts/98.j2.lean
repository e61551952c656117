def nX4_readRows : Nat := 0xb1d4ffa7010284535d00b62a1c5a00b42b0d00a208101c6800b61c2b2a3000b62a2300a02c103300b42a2c00a308101c3d04535d00b62a035a00b42b6800b6032b2a
theorem bX4_readRows : cX4_readRows.data.toList.map UInt8.toNat = x_un nX4_readRows 66 := by decide +kernel
def iX4_readRows : List (Nat × Jvm.ClassFile.Instr × Nat) := [(0, .aload_n 0, 1), (1, .aload_n 1, 1), (2, .iconst 0, 1), (3, .invokevirtual 104, 3), (6, .aload_n 1, 1), (7, .getfield 90, 3), (10, .iconst 0, 1), (11, .aload_n 0, 1), (12, .invokevirtual 93, 3), (15, .aastore, 1), (16, .iconst 1, 1), (17, .istore_n 2, 1), (18, .iload_n 2, 1), (19, .bipush 8, 2), (21, .if_icmp .gt 44, 3), (24, .aload_n 0, 1), (25, .getfield 51, 3), (28, .bipush 44, 2), (30, .if_icmp .ne 35, 3), (33, .aload_n 0, 1), (34, .invokevirtual 48, 3), (37, .aload_n 0, 1), (38, .aload_n 1, 1), (39, .iload_n 2, 1), (40, .invokevirtual 104, 3), (43, .iload_n 2, 1), (44, .bipush 8, 2), (46, .if_icmp .ge 13, 3), (49, .aload_n 1, 1), (50, .getfield 90, 3), (53, .iload_n 2, 1), (54, .aload_n 0, 1), (55, .invokevirtual 93, 3), (58, .aastore, 1), (59, .iinc 2 1, 3), (62, .goto (-44), 3), (65, .return_, 1)]
theorem dX4_readRows : x_il nX4_readRows 66 iX4_readRows = true := by decide +kernel
theorem aX4_readRows (k : Nat) {pc : Nat} {i : Jvm.ClassFile.Instr} {len : Nat} (hk : iX4_readRows[k]? = some (pc, i, len)) : x_at xMM 45 pc i len yX4_readRows 3 none := ⟨cX4_readRows, rfl, x_il_ok bX4_readRows dX4_readRows k hk⟩
set_option maxHeartbeats 4000000 in
set_option maxRecDepth 100000 in
theorem k_readRows {sk : xK} {base d n sl : Nat} {SH : Nat → Nat × Nat} {FI : Nat → Nat → Int32} {FL : Nat → Nat → Int64} {FR : Nat → Nat → Option Nat} (hS : h_S n SH) (hF : h_FR FR) (hI : g_I FI) (hR : g_R n SH FR) (a1 : Nat) {z1 : Nat} (ha1l : a1 < n) (ha1s : SH a1 = (10, z1)) (ha1o : own a1) (gp : Nat → Nat) (gw : Nat → Nat) (gs : Nat → Nat) (g0 : 0 ≤ (FI 110 7).toInt ∧ (FI 110 7).toInt < (FI 111 4).toInt) (g1 : (FI 110 5).toInt = 0 ∨ (FI 110 8).toInt = 1) (g2 : (FI 110 7).toInt + 1 < (FI 111 4).toInt ∨ (FI 110 8).toInt ≤ 3) (g3 : (FI 110 5).toInt ≠ 0 ∨ (FI 110 4).toInt ≤ 12) (g4 : (FI 110 5).toInt ≠ 0 ∨ 0 ≤ (FI 110 4).toInt) (gg0 : g_T n SH FI FR gp gw gs) (gg1 : g_K FI) (gg2 : g_Vv SH FR a1) : hw sk base (d + 144) none 45 0 [(0, .ref (base + 110)), (1, .ref (base + a1))] [] (n, sl, SH, FI, FL, FR) (h_V (fun s => ∃ n' sl' SH' FI' FL' FR', s = (n', sl', SH', FI', FL', FR') ∧ g_ex n SH n' SH' ∧ h_S n' SH' ∧ g_I FI' ∧ g_fr n (shd SH) [(110, 4), (110, 5), (110, 6), (110, 7), (110, 8)] [117] [1006, 1010] FI FI' ∧ g_fr n (shd SH) [(110, 9)] [] [1101] FL FL' ∧ g_fr n (shd SH) [] [] [1105] FR FR' ∧ h_FR FR' ∧ g_R n' SH' FR' ∧ (0 ≤ (FI' 110 7).toInt ∧ (FI' 110 7).toInt < (FI 111 4).toInt) ∧ ((FI' 110 5).toInt = 0 ∨ (FI' 110 8).toInt = 1) ∧ ((FI' 110 7).toInt + 1 < (FI 111 4).toInt ∨ (FI' 110 8).toInt ≤ 3) ∧ ((FI 110 7).toInt ≤ (FI' 110 7).toInt) ∧ ((FI 110 5).toInt = 0 ∨ (FI' 110 5).toInt = (FI 110 5).toInt) ∧ ((FI' 110 5).toInt ≠ 0 ∨ (FI' 110 4).toInt = (FI 110 4).toInt) ∧ ((n' : Int) ≤ n + 17 * ((FI' 110 7).toInt - (FI 110 7).toInt) + 9) ∧ ((sl' : Int) ≤ sl + 7 * ((n' : Int) - n) + ((FI' 110 7).toInt - (FI 110 7).toInt)) ∧ ((n : Int) ≤ n') ∧ (∃ gp2 gw2 gs2, g_T n' SH' FI' FR' gp2 gw2 gs2 ∧ (∀ c, c < n → gp2 c = gp c ∧ gw2 c = gw c ∧ gs2 c = gs c) ∧ True))) := by
  have hk0 : ∀ c, c < n → gp c = gp c ∧ gw c = gw c ∧ gs c = gs c := fun _ _ => ⟨rfl, rfl, rfl⟩
  obtain ⟨x1, h2⟩ : ∃ y, FI 110 7 = y := ⟨_, rfl⟩
  have h2l := congrArg Int32.toInt h2
  have b3 := gI_110_7 hI; rw [h2] at b3
  obtain ⟨x4, h5⟩ : ∃ y, FI 111 4 = y := ⟨_, rfl⟩
  have h5l := congrArg Int32.toInt h5
  have b6 := gI_111_4 hI; rw [h5] at b6
  obtain ⟨x7, h8⟩ : ∃ y, FI 110 5 = y := ⟨_, rfl⟩
  have h8l := congrArg Int32.toInt h8
  have := i_rng x7
  obtain ⟨x9, h10⟩ : ∃ y, FI 110 8 = y := ⟨_, rfl⟩
  have h10l := congrArg Int32.toInt h10
  have := i_rng x9
  obtain ⟨x11, h12⟩ : ∃ y, FI 110 4 = y := ⟨_, rfl⟩
  have h12l := congrArg Int32.toInt h12
  have := i_rng x11
  obtain ⟨⟨r13, h17, hz21⟩, ⟨r14, h18, hz22⟩, ⟨r15, h19, hz23⟩, ⟨r16, h20⟩⟩ := gg2
  obtain ⟨lt25, ow26, sh27⟩ := gR_get hR ha1l ha1o ha1s h17
  have dy28 := gR_dyn hR ha1l (dyn_tag hS ha1s (by decide +kernel)) h17
  obtain ⟨lt29, ow30, sh31⟩ := gR_get hR ha1l ha1o ha1s h18
  have dy32 := gR_dyn hR ha1l (dyn_tag hS ha1s (by decide +kernel)) h18
  obtain ⟨lt33, ow34, sh35⟩ := gR_get hR ha1l ha1o ha1s h19
  have dy36 := gR_dyn hR ha1l (dyn_tag hS ha1s (by decide +kernel)) h19
  obtain ⟨lt37, ow38, sh39⟩ := gR_get hR ha1l ha1o ha1s h20
  have dy40 := gR_dyn hR ha1l (dyn_tag hS ha1s (by decide +kernel)) h20
  refine hw_aloadn (aX4_readRows 0 rfl) rfl ?_
  refine hw_aloadn (aX4_readRows 1 rfl) rfl ?_
  refine hw_ic (v := (0 : Int32)) (aX4_readRows 2 rfl) (by decide) ?_
  refine hw_callV (Bs := [.ref (base + a1), .int ((0 : Int32))]) (rest := []) (aX4_readRows 3 rfl) wc_RX4_104 (by decide) rfl wi_yX4_readRange wv_yX4_readRange (c110 hS) (s110 hS) rfl rfl rfl (Nat.le_of_ble_eq_true rfl) (Nat.le_of_ble_eq_true rfl) (k_readRange (d := d + 141) hS hF hI hR (a1) ha1l ha1s ha1o ((0 : Int32)) (by have := congrArg Int32.toInt (show FI 110 7 = x1 from h2); have := congrArg Int32.toInt (show FI 110 7 = x1 from h2); have := congrArg Int32.toInt (show FI 111 4 = x4 from h5); omega) (by have := congrArg Int32.toInt (show FI 110 5 = x7 from h8); have := congrArg Int32.toInt (show FI 110 8 = x9 from h10); omega) (by have := congrArg Int32.toInt (show FI 110 7 = x1 from h2); have := congrArg Int32.toInt (show FI 111 4 = x4 from h5); have := congrArg Int32.toInt (show FI 110 8 = x9 from h10); omega) (gK_mx (L := [(110, 4), (110, 5), (110, 6), (110, 7), (110, 8)]) (A := [117]) (T := [1006, 1010]) hS gg1 gf_rf (by decide)) ((show g_Vv SH FR a1 from ⟨⟨_, h17, hz21⟩, ⟨_, h18, hz22⟩, ⟨_, h19, hz23⟩, ⟨_, h20⟩⟩))) (fun v41 sv42 p43 => ?_)
  have := congrArg Int32.toInt (show FI 111 4 = x4 from h5)
  have := congrArg Int32.toInt (show FI 111 4 = x4 from h5)
  have := congrArg Int32.toInt (show FI 110 7 = x1 from h2)
  have := congrArg Int32.toInt (show FI 110 5 = x7 from h8)
  have := congrArg Int32.toInt (show FI 110 5 = x7 from h8)
  obtain ⟨rfl, FI45, FL46, rfl, hI47, f48, f49, t52, t53, t54, t55, t56⟩ := p43
  have hT59 : g_T n SH FI45 FR gp gw gs := gT_mw (L := [(110, 5), (110, 6), (110, 7), (110, 8)]) (A := []) (T := [1010]) (L2 := []) (A2 := []) (T2 := []) hS gg0 f48 gf_rf (by decide) (by decide)
  obtain ⟨x60, h61⟩ : ∃ y, FI45 110 7 = y := ⟨_, rfl⟩
  have h61l := congrArg Int32.toInt h61
  have b62 := gI_110_7 hI47; rw [h61] at b62
  obtain ⟨x63, h64⟩ : ∃ y, FI45 110 5 = y := ⟨_, rfl⟩
  have h64l := congrArg Int32.toInt h64
  have := i_rng x63
  obtain ⟨x65, h66⟩ : ∃ y, FI45 110 8 = y := ⟨_, rfl⟩
  have h66l := congrArg Int32.toInt h66
  have := i_rng x65
  show hw sk base _ _ _ _ _ [] _ _
  refine hw_aloadn (aX4_readRows 4 rfl) rfl ?_
  refine hw_get (v := .ref (base + r15)) (aX4_readRows 5 rfl) wf_RX4_90 ha1l ha1s (by decide) (congrArg (fun r => va_rf (h_rf base r)) (show FR a1 4 = some r15 from h19)) ?_
  refine hw_ic (v := (0 : Int32)) (aX4_readRows 6 rfl) (by decide) ?_
  refine hw_aloadn (aX4_readRows 7 rfl) rfl ?_
  refine hw_callV (Bs := []) (rest := [.int ((0 : Int32)), .ref (base + r15)]) (aX4_readRows 8 rfl) wc_RX4_93 (by decide) rfl wi_yX4_readLocation wv_yX4_readLocation (c110 hS) (s110 hS) rfl rfl rfl (Nat.le_of_ble_eq_true rfl) (Nat.le_of_ble_eq_true rfl) (k_readLocation (d := d) hS hF hI47 hR (gp) (gw) (gs) (by have := congrArg Int32.toInt (show FI45 110 7 = x60 from h61); have := congrArg Int32.toInt (show FI45 110 7 = x60 from h61); have := congrArg Int32.toInt (show FI45 111 4 = x4 from (gf_at f48 (c111 hS) (shd_f (by decide) (s111 hS)) rfl (h5))); omega) (by have := congrArg Int32.toInt (show FI45 110 5 = x63 from h64); have := congrArg Int32.toInt (show FI45 110 8 = x65 from h66); omega) (by have := congrArg Int32.toInt (show FI45 110 7 = x60 from h61); have := congrArg Int32.toInt (show FI45 111 4 = x4 from (gf_at f48 (c111 hS) (shd_f (by decide) (s111 hS)) rfl (h5))); have := congrArg Int32.toInt (show FI45 110 8 = x65 from h66); omega) (by have := congrArg Int32.toInt (show FI45 110 5 = x63 from h64); have := congrArg Int32.toInt (show FI45 110 4 = x11 from (gf_at f48 (c110 hS) (shd_f (by decide) (s110 hS)) rfl (h12))); omega) (by have := congrArg Int32.toInt (show FI45 110 5 = x63 from h64); have := congrArg Int32.toInt (show FI45 110 4 = x11 from (gf_at f48 (c110 hS) (shd_f (by decide) (s110 hS)) rfl (h12))); omega) (hT59) (gK_mx (L := [(110, 4), (110, 5), (110, 6), (110, 7), (110, 8)]) (A := [117]) (T := [1006, 1010]) hS gg1 (gf_tr ex_rf gf_rf f48 rfl rfl rfl) (by decide))) (fun v67 sv68 p69 => ?_)
  have := congrArg Int32.toInt (show FI45 111 4 = x4 from (gf_at f48 (c111 hS) (shd_f (by decide) (s111 hS)) rfl (h5)))
  have := congrArg Int32.toInt (show FI45 111 4 = x4 from (gf_at f48 (c111 hS) (shd_f (by decide) (s111 hS)) rfl (h5)))
  have := congrArg Int32.toInt (show FI45 110 7 = x60 from h61)
  have := congrArg Int32.toInt (show FI45 110 5 = x63 from h64)
  have := congrArg Int32.toInt (show FI45 110 5 = x63 from h64)
  have := congrArg Int32.toInt (show FI45 110 4 = x11 from (gf_at f48 (c110 hS) (shd_f (by decide) (s110 hS)) rfl (h12)))
  have := congrArg Int32.toInt (show FI45 110 7 = x60 from h61)
  have := congrArg Int32.toInt (show FI45 110 7 = x60 from h61)
  obtain ⟨r70, rfl, n92, sl93, SH94, FI71, FL72, FR73, rfl, ex95, hS96, hI74, f75, f76, f77, hF78, hR79, t80, t81, t82, t83, t84, t85, t86, t87, t88, u89, ht90, nn91, hfr97⟩ := p69
  clear t53 t54
  obtain ⟨gp98, gw99, gs100, hT101, hkp102, hq103⟩ := u89
  have hk104 : ∀ c, c < n → gp98 c = gp c ∧ gw99 c = gw c ∧ gs100 c = gs c := fun c hc => by obtain ⟨k1, k2, k3⟩ := hk0 c hc; obtain ⟨m1, m2, m3⟩ := hkp102 c (Nat.lt_of_lt_of_le hc (Nat.le_refl _)); exact ⟨m1.trans k1, m2.trans k2, m3.trans k3⟩
  have lt105 := ex_lt ex95 ha1l
  have sh106 := ex_sh ex95 ha1l ha1s
  have lt107 := ex_lt ex95 lt25
  have sh108 := ex_sh ex95 lt25 hz21
  have lt109 := ex_lt ex95 lt29
  have sh110 := ex_sh ex95 lt29 hz22
  have lt111 := ex_lt ex95 lt33
  have sh112 := ex_sh ex95 lt33 hz23
  have lt113 := ex_lt ex95 lt37
  have sh114 := ex_sh ex95 lt37 sh39
  obtain ⟨r115, rfl⟩ : ∃ q, r70 = some q := Option.ne_none_iff_exists'.mp nn91
  have fq116 := hfr97 r115 rfl
  have dq117 : 176 ≤ r115 := Nat.le_trans hS.1 fq116
  obtain ⟨lt119, ow120, sh121⟩ := ht90 r115 rfl
  obtain ⟨x122, h123⟩ : ∃ y, FI71 110 7 = y := ⟨_, rfl⟩
  have h123l := congrArg Int32.toInt h123
  have b124 := gI_110_7 hI74; rw [h123] at b124
  obtain ⟨x125, h126⟩ : ∃ y, FI71 110 5 = y := ⟨_, rfl⟩
  have h126l := congrArg Int32.toInt h126
  have := i_rng x125
  obtain ⟨x127, h128⟩ : ∃ y, FI71 110 8 = y := ⟨_, rfl⟩
  have h128l := congrArg Int32.toInt h128
  have := i_rng x127
  obtain ⟨x129, h130⟩ : ∃ y, FI71 110 4 = y := ⟨_, rfl⟩
  have h130l := congrArg Int32.toInt h130
  have := i_rng x129
  show hw sk base _ _ _ _ _ [.ref (base + r115), .int ((0 : Int32)), .ref (base + r15)] _ _
  refine hv_aast (k := 5) (i2 := 0) (aX4_readRows 9 rfl) lt111 sh112 rfl (by decide) lt119 sh121 rfl (h_in (by decide : (0 : Int32).toInt = 0) (by omega) (by omega)) (by decide) (fun FR131 u132 => ?_)
  have hT133 : g_T n92 SH94 FI71 FR131 gp98 gw99 gs100 := gT_wo hT101 (by rw [sh112]; decide) (by rw [sh112]; decide) u132
  have hF134 : h_FR FR131 := hF_ua hS96 hF78 u132 sh112 (by decide +kernel)
  have hR135 : g_R n92 SH94 FR131 := gR_up hR79 u132 sh112 (fun r e => by cases e; exact ⟨lt119, ow120, by rw [sh121]; rfl⟩) (fun _ r e => by cases e; exact (dyn_tag hS96 sh121 (by decide +kernel))) (fun _ => by simp) (fun h => absurd h.1 (ne_tag sh112 (s49 hS96) (by decide)))
  refine hw_ic (v := (1 : Int32)) (aX4_readRows 10 rfl) (by decide) ?_
  refine xw_istoren (L2 := [(2, .int ((1 : Int32))), (0, .ref (base + 110)), (1, .ref (base + a1))]) (aX4_readRows 11 rfl) (by decide) rfl ?_
  have lp170 : ∀ (m : Nat) (y2 : Int32) (FIv141 : Nat → Nat → Int32) (FLv142 : Nat → Nat → Int64) (FRv143 : Nat → Nat → Option Nat) (n136 sl137 : Nat) (SH138 : Nat → Nat × Nat) (gp144 gw145 gs146 : Nat → Nat), (g_ex n92 SH94 n136 SH138) → (h_S n136 SH138) → (g_T n136 SH138 FIv141 FRv143 gp144 gw145 gs146) → (∀ c, c < n → gp144 c = gp c ∧ gw145 c = gw c ∧ gs146 c = gs c) → (g_fr n (shd SH) [(110, 4), (110, 5), (110, 6), (110, 7), (110, 8)] [117] [1006, 1010] FI FIv141) → (g_fr n (shd SH) [(110, 9)] [] [1101] FL FLv142) → (g_fr n (shd SH) [] [] [1105] FR FRv143) → (g_I FIv141) → (h_FR FRv143) → (g_R n136 SH138 FRv143) → (FIv141 111 4 = x4) → (FRv143 a1 2 = r13) → (FRv143 a1 3 = r14) → (FRv143 a1 4 = r15) → (FRv143 a1 0 = r16) → (1 ≤ (y2).toInt ∧ (y2).toInt ≤ 9) → (0 ≤ (FIv141 110 7).toInt ∧ (FIv141 110 7).toInt < (FI 111 4).toInt) → ((FIv141 110 5).toInt = 0 ∨ (FIv141 110 8).toInt = 1) → ((FIv141 110 7).toInt + 1 < (FI 111 4).toInt ∨ (FIv141 110 8).toInt ≤ 3) → ((FI 110 7).toInt ≤ (FIv141 110 7).toInt) → ((FI 110 5).toInt = 0 ∨ (FIv141 110 5).toInt = (FI 110 5).toInt) → ((FIv141 110 5).toInt ≠ 0 ∨ (FIv141 110 4).toInt = (FI 110 4).toInt) → ((n136 : Int) ≤ n + 17 * ((FIv141 110 7).toInt - (FI 110 7).toInt) + 9) → ((sl137 : Int) ≤ sl + 7 * ((n136 : Int) - n) + ((FIv141 110 7).toInt - (FI 110 7).toInt)) → ((n : Int) ≤ n136) → 9 - (y2).toInt < m → hw sk base (d + 144) none 45 18 [(2, .int (y2)), (0, .ref (base + 110)), (1, .ref (base + a1))] [] (n136, sl137, SH138, FIv141, FLv142, FRv143) (h_V (fun s => ∃ n' sl' SH' FI' FL' FR', s = (n', sl', SH', FI', FL', FR') ∧ g_ex n SH n' SH' ∧ h_S n' SH' ∧ g_I FI' ∧ g_fr n (shd SH) [(110, 4), (110, 5), (110, 6), (110, 7), (110, 8)] [117] [1006, 1010] FI FI' ∧ g_fr n (shd SH) [(110, 9)] [] [1101] FL FL' ∧ g_fr n (shd SH) [] [] [1105] FR FR' ∧ h_FR FR' ∧ g_R n' SH' FR' ∧ (0 ≤ (FI' 110 7).toInt ∧ (FI' 110 7).toInt < (FI 111 4).toInt) ∧ ((FI' 110 5).toInt = 0 ∨ (FI' 110 8).toInt = 1) ∧ ((FI' 110 7).toInt + 1 < (FI 111 4).toInt ∨ (FI' 110 8).toInt ≤ 3) ∧ ((FI 110 7).toInt ≤ (FI' 110 7).toInt) ∧ ((FI 110 5).toInt = 0 ∨ (FI' 110 5).toInt = (FI 110 5).toInt) ∧ ((FI' 110 5).toInt ≠ 0 ∨ (FI' 110 4).toInt = (FI 110 4).toInt) ∧ ((n' : Int) ≤ n + 17 * ((FI' 110 7).toInt - (FI 110 7).toInt) + 9) ∧ ((sl' : Int) ≤ sl + 7 * ((n' : Int) - n) + ((FI' 110 7).toInt - (FI 110 7).toInt)) ∧ ((n : Int) ≤ n') ∧ (∃ gp2 gw2 gs2, g_T n' SH' FI' FR' gp2 gw2 gs2 ∧ (∀ c, c < n → gp2 c = gp c ∧ gw2 c = gw c ∧ gs2 c = gs c) ∧ True))) := by
    intro m
    induction m with
    | zero => intro y2 FIv141 FLv142 FRv143 n136 sl137 SH138 gp144 gw145 gs146 ex139 hS140 hT147 hk148 fr149 fr150 fr151 hI152 hF153 hR154 kp155 kp156 kp157 kp158 kp159 iv160 iv161 iv162 iv163 iv164 iv165 iv166 iv167 iv168 iv169 hm; omega
    | succ m ih =>
      intro y2 FIv141 FLv142 FRv143 n136 sl137 SH138 gp144 gw145 gs146 ex139 hS140 hT147 hk148 fr149 fr150 fr151 hI152 hF153 hR154 kp155 kp156 kp157 kp158 kp159 iv160 iv161 iv162 iv163 iv164 iv165 iv166 iv167 iv168 iv169 hm
      have rg_y2 := i_rng y2
      have := congrArg Int32.toInt kp155
      have lt171 := ex_lt ex139 lt105
      have sh172 := ex_sh ex139 lt105 sh106
      have lt173 := ex_lt ex139 lt107
      have sh174 := ex_sh ex139 lt107 sh108
      have lt175 := ex_lt ex139 lt109
      have sh176 := ex_sh ex139 lt109 sh110
      have lt177 := ex_lt ex139 lt111
      have sh178 := ex_sh ex139 lt111 sh112
      have lt179 := ex_lt ex139 lt113
      have sh180 := ex_sh ex139 lt113 sh114
      have ex181 := ex_tr ex95 ex139
      obtain ⟨x182, h183⟩ : ∃ y, FIv141 110 7 = y := ⟨_, rfl⟩
      have h183l := congrArg Int32.toInt h183
      have b184 := gI_110_7 hI152; rw [h183] at b184
      obtain ⟨x185, h186⟩ : ∃ y, FIv141 110 5 = y := ⟨_, rfl⟩
      have h186l := congrArg Int32.toInt h186
      have := i_rng x185
      obtain ⟨x187, h188⟩ : ∃ y, FIv141 110 8 = y := ⟨_, rfl⟩
      have h188l := congrArg Int32.toInt h188
      have := i_rng x187
      obtain ⟨x189, h190⟩ : ∃ y, FIv141 110 4 = y := ⟨_, rfl⟩
      have h190l := congrArg Int32.toInt h190
      have := i_rng x189
      refine xw_iloadn (aX4_readRows 12 rfl) rfl ?_
      refine hw_bp (v := (8 : Int32)) (aX4_readRows 13 rfl) (by decide) ?_
      refine hw_icgt (tgt := 65) (aX4_readRows 14 rfl) (by decide) rfl (by decide : (8 : Int32).toInt = 8) (fun cd191 => ?_) (fun cd191 => ?_)
      · refine xw_vret (aX4_readRows 36 rfl) rfl ?_
        exact ⟨rfl, n136, sl137, SH138, FIv141, FLv142, FRv143, rfl, ex181, hS140, hI152, fr149, fr150, fr151, hF153, hR154, (by have := congrArg Int32.toInt (show FIv141 110 7 = x182 from h183); omega), (by have := congrArg Int32.toInt (show FIv141 110 5 = x185 from h186); have := congrArg Int32.toInt (show FIv141 110 8 = x187 from h188); omega), (by have := congrArg Int32.toInt (show FIv141 110 7 = x182 from h183); have := congrArg Int32.toInt (show FIv141 110 8 = x187 from h188); omega), (by have := congrArg Int32.toInt (show FIv141 110 7 = x182 from h183); omega), (by have := congrArg Int32.toInt (show FIv141 110 5 = x185 from h186); omega), (by have := congrArg Int32.toInt (show FIv141 110 4 = x189 from h190); have := congrArg Int32.toInt (show FIv141 110 5 = x185 from h186); omega), (by have := congrArg Int32.toInt (show FIv141 110 7 = x182 from h183); omega), (by have := congrArg Int32.toInt (show FIv141 110 7 = x182 from h183); omega), (by omega), (by exact ⟨gp144, gw145, gs146, hT147, hk148, trivial⟩)⟩
      · refine hw_aloadn (aX4_readRows 15 rfl) rfl ?_
        refine hw_get (v := .int (x187)) (aX4_readRows 16 rfl) wf_RX4_51 (c110 hS140) (s110 hS140) (by decide) (congrArg Value.int (show FIv141 110 8 = x187 from h188)) ?_
        refine hw_bp (v := (44 : Int32)) (aX4_readRows 17 rfl) (by decide) ?_
        refine hw_icne (tgt := 65) (aX4_readRows 18 rfl) (by decide) rfl (by decide : (44 : Int32).toInt = 44) (fun cd192 => ?_) (fun cd192 => ?_)
        · refine xw_vret (aX4_readRows 36 rfl) rfl ?_
          exact ⟨rfl, n136, sl137, SH138, FIv141, FLv142, FRv143, rfl, ex181, hS140, hI152, fr149, fr150, fr151, hF153, hR154, (by have := congrArg Int32.toInt (show FIv141 110 7 = x182 from h183); omega), (by have := congrArg Int32.toInt (show FIv141 110 5 = x185 from h186); have := congrArg Int32.toInt (show FIv141 110 8 = x187 from h188); omega), (by have := congrArg Int32.toInt (show FIv141 110 7 = x182 from h183); have := congrArg Int32.toInt (show FIv141 110 8 = x187 from h188); omega), (by have := congrArg Int32.toInt (show FIv141 110 7 = x182 from h183); omega), (by have := congrArg Int32.toInt (show FIv141 110 5 = x185 from h186); omega), (by have := congrArg Int32.toInt (show FIv141 110 4 = x189 from h190); have := congrArg Int32.toInt (show FIv141 110 5 = x185 from h186); omega), (by have := congrArg Int32.toInt (show FIv141 110 7 = x182 from h183); omega), (by have := congrArg Int32.toInt (show FIv141 110 7 = x182 from h183); omega), (by omega), (by exact ⟨gp144, gw145, gs146, hT147, hk148, trivial⟩)⟩
        · have : (x185).toInt = 0 := by omega
          refine hw_aloadn (aX4_readRows 19 rfl) rfl ?_
          refine hw_callV (Bs := []) (rest := []) (aX4_readRows 20 rfl) wc_RX4_48 (by decide) rfl wi_yX4_take wv_yX4_take (c110 hS140) (s110 hS140) rfl rfl rfl (Nat.le_of_ble_eq_true rfl) (Nat.le_of_ble_eq_true rfl) (k_take2 (d := d + 143) hS140 hF153 hI152 hR154 (by have := congrArg Int32.toInt (show FIv141 110 7 = x182 from h183); have := congrArg Int32.toInt (show FIv141 110 7 = x182 from h183); have := congrArg Int32.toInt (show FIv141 111 4 = x4 from kp155); omega) (by have := congrArg Int32.toInt (show FIv141 110 5 = x185 from h186); have := congrArg Int32.toInt (show FIv141 110 8 = x187 from h188); omega) (by have := congrArg Int32.toInt (show FIv141 110 7 = x182 from h183); have := congrArg Int32.toInt (show FIv141 111 4 = x4 from kp155); have := congrArg Int32.toInt (show FIv141 110 8 = x187 from h188); omega) (gK_mx (L := [(110, 4), (110, 5), (110, 6), (110, 7), (110, 8)]) (A := [117]) (T := [1006, 1010]) hS gg1 fr149 (by decide))) (fun v193 sv194 p195 => ?_)
          have := congrArg Int32.toInt (show FIv141 111 4 = x4 from kp155)
          have := congrArg Int32.toInt (show FIv141 111 4 = x4 from kp155)
          have := congrArg Int32.toInt (show FIv141 110 7 = x182 from h183)
          have := congrArg Int32.toInt (show FIv141 110 5 = x185 from h186)
          have := congrArg Int32.toInt (show FIv141 110 5 = x185 from h186)
          have := congrArg Int32.toInt (show FIv141 110 5 = x185 from h186)
          have := congrArg Int32.toInt (show FIv141 110 5 = x185 from h186)
          have := congrArg Int32.toInt (show FIv141 110 7 = x182 from h183)
          have := congrArg Int32.toInt (show FIv141 111 4 = x4 from kp155)
          have := congrArg Int32.toInt (show FIv141 110 7 = x182 from h183)
          have := congrArg Int32.toInt (show FIv141 110 7 = x182 from h183)
          have := congrArg Int32.toInt (show FIv141 110 5 = x185 from h186)
          have := congrArg Int32.toInt (show FIv141 110 8 = x187 from h188)
          obtain ⟨rfl, FI197, FL198, rfl, hI199, f200, f201, t204, t205, t206, t207, t208, t209, t210, t211, t212⟩ := p195
          replace t210 := (t210.resolve_left (by omega)).resolve_left (by omega)
          clear t81 t82 t212
          have hT215 : g_T n136 SH138 FI197 FRv143 gp144 gw145 gs146 := gT_mw (L := [(110, 7), (110, 8)]) (A := []) (T := []) (L2 := []) (A2 := []) (T2 := []) hS140 hT147 f200 gf_rf (by decide) (by decide)
          obtain ⟨x216, h217⟩ : ∃ y, FI197 110 7 = y := ⟨_, rfl⟩
          have h217l := congrArg Int32.toInt h217
          have b218 := gI_110_7 hI199; rw [h217] at b218
          obtain ⟨x219, h220⟩ : ∃ y, FI197 110 8 = y := ⟨_, rfl⟩
          have h220l := congrArg Int32.toInt h220
          have := i_rng x219
          show hw sk base _ _ _ _ _ [] _ _
          refine hw_aloadn (aX4_readRows 21 rfl) rfl ?_
          refine hw_aloadn (aX4_readRows 22 rfl) rfl ?_
          refine xw_iloadn (aX4_readRows 23 rfl) rfl ?_
          refine hw_callV (Bs := [.ref (base + a1), .int (y2)]) (rest := []) (aX4_readRows 24 rfl) wc_RX4_104 (by decide) rfl wi_yX4_readRange wv_yX4_readRange (c110 hS140) (s110 hS140) rfl rfl rfl (Nat.le_of_ble_eq_true rfl) (Nat.le_of_ble_eq_true rfl) (k_readRange (d := d + 141) hS140 hF153 hI199 hR154 (a1) lt171 sh172 ha1o (y2) (by have := congrArg Int32.toInt (show FI197 110 7 = x216 from h217); have := congrArg Int32.toInt (show FI197 110 7 = x216 from h217); have := congrArg Int32.toInt (show FI197 111 4 = x4 from (gf_at f200 (c111 hS140) (shd_f (by decide) (s111 hS140)) rfl (kp155))); omega) (by have := congrArg Int32.toInt (show FI197 110 5 = x185 from (gf_at f200 (c110 hS140) (shd_f (by decide) (s110 hS140)) rfl (h186))); have := congrArg Int32.toInt (show FI197 110 8 = x219 from h220); omega) (by have := congrArg Int32.toInt (show FI197 110 7 = x216 from h217); have := congrArg Int32.toInt (show FI197 111 4 = x4 from (gf_at f200 (c111 hS140) (shd_f (by decide) (s111 hS140)) rfl (kp155))); have := congrArg Int32.toInt (show FI197 110 8 = x219 from h220); omega) (gK_mx (L := [(110, 4), (110, 5), (110, 6), (110, 7), (110, 8)]) (A := [117]) (T := [1006, 1010]) hS gg1 (gf_tr (ex_shd ex181) fr149 f200 rfl rfl rfl) (by decide)) ((show g_Vv SH138 FRv143 a1 from ⟨⟨_, kp156, sh174⟩, ⟨_, kp157, sh176⟩, ⟨_, kp158, sh178⟩, ⟨_, kp159⟩⟩))) (fun v221 sv222 p223 => ?_)
          have := congrArg Int32.toInt (show FI197 111 4 = x4 from (gf_at f200 (c111 hS140) (shd_f (by decide) (s111 hS140)) rfl (kp155)))
          have := congrArg Int32.toInt (show FI197 111 4 = x4 from (gf_at f200 (c111 hS140) (shd_f (by decide) (s111 hS140)) rfl (kp155)))
          have := congrArg Int32.toInt (show FI197 110 7 = x216 from h217)
          have := congrArg Int32.toInt (show FI197 110 5 = x185 from (gf_at f200 (c110 hS140) (shd_f (by decide) (s110 hS140)) rfl (h186)))
          have := congrArg Int32.toInt (show FI197 110 5 = x185 from (gf_at f200 (c110 hS140) (shd_f (by decide) (s110 hS140)) rfl (h186)))
          obtain ⟨rfl, FI225, FL226, rfl, hI227, f228, f229, t232, t233, t234, t235, t236⟩ := p223
          clear t205 t206
          have hT239 : g_T n136 SH138 FI225 FRv143 gp144 gw145 gs146 := gT_mw (L := [(110, 5), (110, 6), (110, 7), (110, 8)]) (A := []) (T := [1010]) (L2 := []) (A2 := []) (T2 := []) hS140 hT215 f228 gf_rf (by decide) (by decide)
          obtain ⟨x240, h241⟩ : ∃ y, FI225 110 7 = y := ⟨_, rfl⟩
          have h241l := congrArg Int32.toInt h241
          have b242 := gI_110_7 hI227; rw [h241] at b242
          obtain ⟨x243, h244⟩ : ∃ y, FI225 110 5 = y := ⟨_, rfl⟩
          have h244l := congrArg Int32.toInt h244
          have := i_rng x243
          obtain ⟨x245, h246⟩ : ∃ y, FI225 110 8 = y := ⟨_, rfl⟩
          have h246l := congrArg Int32.toInt h246
          have := i_rng x245
          show hw sk base _ _ _ _ _ [] _ _
          refine xw_iloadn (aX4_readRows 25 rfl) rfl ?_
          refine hw_bp (v := (8 : Int32)) (aX4_readRows 26 rfl) (by decide) ?_
          refine hw_icge (tgt := 59) (aX4_readRows 27 rfl) (by decide) rfl (by decide : (8 : Int32).toInt = 8) (fun cd247 => ?_) (fun cd247 => ?_)
          · obtain ⟨x248, q250⟩ : ∃ y : Int32, (y2) + Int32.ofInt (1) = y := ⟨_, rfl⟩
            have e249 : (x248).toInt = (y2).toInt + (1) := by rw [← q250]; exact i_add rfl (by decide) (by omega) (by omega)
            refine xw_iinc (L2 := [(2, .int (x248)), (0, .ref (base + 110)), (1, .ref (base + a1))]) (aX4_readRows 34 rfl) rfl (by decide) (by rw [q250]; rfl) ?_
            refine xw_goto (tgt := 18) (aX4_readRows 35 rfl) (by decide) ?_
            exact hw_L (ih (x248) FI225 FL226 FRv143 n136 sl137 SH138 gp144 gw145 gs146 ex139 hS140 hT239 hk148 (gf_tr (ex_shd ex181) (gf_tr (ex_shd ex181) fr149 f200 rfl rfl rfl) f228 rfl rfl rfl) (gf_tr (ex_shd ex181) (gf_tr (ex_shd ex181) fr150 f201 rfl rfl rfl) f229 rfl rfl rfl) fr151 hI227 hF153 hR154 (show FI225 111 4 = x4 from (gf_at f228 (c111 hS140) (shd_f (by decide) (s111 hS140)) rfl ((gf_at f200 (c111 hS140) (shd_f (by decide) (s111 hS140)) rfl (kp155))))) (show FRv143 a1 2 = r13 from kp156) (show FRv143 a1 3 = r14 from kp157) (show FRv143 a1 4 = r15 from kp158) (show FRv143 a1 0 = r16 from kp159) (by have := (e249 : (x248).toInt = (y2).toInt + (1)); omega) (by have := (e249 : (x248).toInt = (y2).toInt + (1)); have := congrArg Int32.toInt (show FI225 110 7 = x240 from h241); omega) (by have := (e249 : (x248).toInt = (y2).toInt + (1)); have := congrArg Int32.toInt (show FI225 110 5 = x243 from h244); have := congrArg Int32.toInt (show FI225 110 8 = x245 from h246); omega) (by have := (e249 : (x248).toInt = (y2).toInt + (1)); have := congrArg Int32.toInt (show FI225 110 7 = x240 from h241); have := congrArg Int32.toInt (show FI225 110 8 = x245 from h246); omega) (by have := (e249 : (x248).toInt = (y2).toInt + (1)); have := congrArg Int32.toInt (show FI225 110 7 = x240 from h241); omega) (by have := (e249 : (x248).toInt = (y2).toInt + (1)); have := congrArg Int32.toInt (show FI225 110 5 = x243 from h244); omega) (by have := (e249 : (x248).toInt = (y2).toInt + (1)); have := congrArg Int32.toInt (show FI225 110 4 = x189 from (gf_at f228 (c110 hS140) (shd_f (by decide) (s110 hS140)) rfl ((gf_at f200 (c110 hS140) (shd_f (by decide) (s110 hS140)) rfl (h190))))); have := congrArg Int32.toInt (show FI225 110 5 = x243 from h244); omega) (by have := (e249 : (x248).toInt = (y2).toInt + (1)); have := congrArg Int32.toInt (show FI225 110 7 = x240 from h241); omega) (by have := (e249 : (x248).toInt = (y2).toInt + (1)); have := congrArg Int32.toInt (show FI225 110 7 = x240 from h241); omega) (by have := (e249 : (x248).toInt = (y2).toInt + (1)); omega) (by have := (e249 : (x248).toInt = (y2).toInt + (1)); omega)) ⟨rfl, rfl, rfl, trivial⟩
          · refine hw_aloadn (aX4_readRows 28 rfl) rfl ?_
            refine hw_get (v := .ref (base + r15)) (aX4_readRows 29 rfl) wf_RX4_90 lt171 sh172 (by decide) (congrArg (fun r => va_rf (h_rf base r)) (show FRv143 a1 4 = some r15 from kp158)) ?_
            refine xw_iloadn (aX4_readRows 30 rfl) rfl ?_
            refine hw_aloadn (aX4_readRows 31 rfl) rfl ?_
            refine hw_callV (Bs := []) (rest := [.int (y2), .ref (base + r15)]) (aX4_readRows 32 rfl) wc_RX4_93 (by decide) rfl wi_yX4_readLocation wv_yX4_readLocation (c110 hS140) (s110 hS140) rfl rfl rfl (Nat.le_of_ble_eq_true rfl) (Nat.le_of_ble_eq_true rfl) (k_readLocation (d := d) hS140 hF153 hI227 hR154 (gp144) (gw145) (gs146) (by have := congrArg Int32.toInt (show FI225 110 7 = x240 from h241); have := congrArg Int32.toInt (show FI225 110 7 = x240 from h241); have := congrArg Int32.toInt (show FI225 111 4 = x4 from (gf_at f228 (c111 hS140) (shd_f (by decide) (s111 hS140)) rfl ((gf_at f200 (c111 hS140) (shd_f (by decide) (s111 hS140)) rfl (kp155))))); omega) (by have := congrArg Int32.toInt (show FI225 110 5 = x243 from h244); have := congrArg Int32.toInt (show FI225 110 8 = x245 from h246); omega) (by have := congrArg Int32.toInt (show FI225 110 7 = x240 from h241); have := congrArg Int32.toInt (show FI225 111 4 = x4 from (gf_at f228 (c111 hS140) (shd_f (by decide) (s111 hS140)) rfl ((gf_at f200 (c111 hS140) (shd_f (by decide) (s111 hS140)) rfl (kp155))))); have := congrArg Int32.toInt (show FI225 110 8 = x245 from h246); omega) (by have := congrArg Int32.toInt (show FI225 110 5 = x243 from h244); have := congrArg Int32.toInt (show FI225 110 4 = x189 from (gf_at f228 (c110 hS140) (shd_f (by decide) (s110 hS140)) rfl ((gf_at f200 (c110 hS140) (shd_f (by decide) (s110 hS140)) rfl (h190))))); omega) (by have := congrArg Int32.toInt (show FI225 110 5 = x243 from h244); have := congrArg Int32.toInt (show FI225 110 4 = x189 from (gf_at f228 (c110 hS140) (shd_f (by decide) (s110 hS140)) rfl ((gf_at f200 (c110 hS140) (shd_f (by decide) (s110 hS140)) rfl (h190))))); omega) (hT239) (gK_mx (L := [(110, 4), (110, 5), (110, 6), (110, 7), (110, 8)]) (A := [117]) (T := [1006, 1010]) hS gg1 (gf_tr (ex_shd ex181) (gf_tr (ex_shd ex181) fr149 f200 rfl rfl rfl) f228 rfl rfl rfl) (by decide))) (fun v251 sv252 p253 => ?_)
            have := congrArg Int32.toInt (show FI225 111 4 = x4 from (gf_at f228 (c111 hS140) (shd_f (by decide) (s111 hS140)) rfl ((gf_at f200 (c111 hS140) (shd_f (by decide) (s111 hS140)) rfl (kp155)))))
            have := congrArg Int32.toInt (show FI225 111 4 = x4 from (gf_at f228 (c111 hS140) (shd_f (by decide) (s111 hS140)) rfl ((gf_at f200 (c111 hS140) (shd_f (by decide) (s111 hS140)) rfl (kp155)))))
            have := congrArg Int32.toInt (show FI225 110 7 = x240 from h241)
            have := congrArg Int32.toInt (show FI225 110 5 = x243 from h244)
            have := congrArg Int32.toInt (show FI225 110 5 = x243 from h244)
            have := congrArg Int32.toInt (show FI225 110 4 = x189 from (gf_at f228 (c110 hS140) (shd_f (by decide) (s110 hS140)) rfl ((gf_at f200 (c110 hS140) (shd_f (by decide) (s110 hS140)) rfl (h190)))))
            have := congrArg Int32.toInt (show FI225 110 7 = x240 from h241)
            have := congrArg Int32.toInt (show FI225 110 7 = x240 from h241)
            obtain ⟨r254, rfl, n276, sl277, SH278, FI255, FL256, FR257, rfl, ex279, hS280, hI258, f259, f260, f261, hF262, hR263, t264, t265, t266, t267, t268, t269, t270, t271, t272, u273, ht274, nn275, hfr281⟩ := p253
            clear t233 t234
            obtain ⟨gp282, gw283, gs284, hT285, hkp286, hq287⟩ := u273
            have hk288 : ∀ c, c < n → gp282 c = gp c ∧ gw283 c = gw c ∧ gs284 c = gs c := fun c hc => by obtain ⟨k1, k2, k3⟩ := hk148 c hc; obtain ⟨m1, m2, m3⟩ := hkp286 c (Nat.lt_of_lt_of_le hc (ex181).1); exact ⟨m1.trans k1, m2.trans k2, m3.trans k3⟩
            have lt289 := ex_lt ex279 lt171
            have sh290 := ex_sh ex279 lt171 sh172
            have lt291 := ex_lt ex279 lt173
            have sh292 := ex_sh ex279 lt173 sh174
            have lt293 := ex_lt ex279 lt175
            have sh294 := ex_sh ex279 lt175 sh176
            have lt295 := ex_lt ex279 lt177
            have sh296 := ex_sh ex279 lt177 sh178
            have lt297 := ex_lt ex279 lt179
            have sh298 := ex_sh ex279 lt179 sh180
            have ex299 := ex_tr ex139 ex279
            have ex300 := ex_tr ex181 ex279
            obtain ⟨r301, rfl⟩ : ∃ q, r254 = some q := Option.ne_none_iff_exists'.mp nn275
            have fq302 := hfr281 r301 rfl
            have dq303 : 176 ≤ r301 := Nat.le_trans hS140.1 fq302
            obtain ⟨lt305, ow306, sh307⟩ := ht274 r301 rfl
            obtain ⟨x308, h309⟩ : ∃ y, FI255 110 7 = y := ⟨_, rfl⟩
            have h309l := congrArg Int32.toInt h309
            have b310 := gI_110_7 hI258; rw [h309] at b310
            obtain ⟨x311, h312⟩ : ∃ y, FI255 110 5 = y := ⟨_, rfl⟩
            have h312l := congrArg Int32.toInt h312
            have := i_rng x311
            obtain ⟨x313, h314⟩ : ∃ y, FI255 110 8 = y := ⟨_, rfl⟩
            have h314l := congrArg Int32.toInt h314
            have := i_rng x313
            obtain ⟨x315, h316⟩ : ∃ y, FI255 110 4 = y := ⟨_, rfl⟩
            have h316l := congrArg Int32.toInt h316
            have := i_rng x315
            show hw sk base _ _ _ _ _ [.ref (base + r301), .int (y2), .ref (base + r15)] _ _
            refine hv_aast (k := 5) (i2 := (y2).toNatClampNeg) (aX4_readRows 33 rfl) lt295 sh296 rfl (by decide) lt305 sh307 rfl (h_in rfl (by omega) (by omega)) rfl (fun FR317 u318 => ?_)
            have hT319 : g_T n276 SH278 FI255 FR317 gp282 gw283 gs284 := gT_wo hT285 (by rw [sh296]; decide) (by rw [sh296]; decide) u318
            have hF320 : h_FR FR317 := hF_ua hS280 hF262 u318 sh296 (by decide +kernel)
            have hR321 : g_R n276 SH278 FR317 := gR_up hR263 u318 sh296 (fun r e => by cases e; exact ⟨lt305, ow306, by rw [sh307]; rfl⟩) (fun _ r e => by cases e; exact (dyn_tag hS280 sh307 (by decide +kernel))) (fun _ => by simp) (fun h => absurd h.1 (ne_tag sh296 (s49 hS280) (by decide)))
            obtain ⟨x322, q324⟩ : ∃ y : Int32, (y2) + Int32.ofInt (1) = y := ⟨_, rfl⟩
            have e323 : (x322).toInt = (y2).toInt + (1) := by rw [← q324]; exact i_add rfl (by decide) (by omega) (by omega)
            refine xw_iinc (L2 := [(2, .int (x322)), (0, .ref (base + 110)), (1, .ref (base + a1))]) (aX4_readRows 34 rfl) rfl (by decide) (by rw [q324]; rfl) ?_
            refine xw_goto (tgt := 18) (aX4_readRows 35 rfl) (by decide) ?_
            exact hw_L (ih (x322) FI255 FL256 FR317 n276 sl277 SH278 gp282 gw283 gs284 ex299 hS280 hT319 hk288 (gf_tr (ex_shd ex181) (gf_tr (ex_shd ex181) (gf_tr (ex_shd ex181) fr149 f200 rfl rfl rfl) f228 rfl rfl rfl) f259 rfl rfl rfl) (gf_tr (ex_shd ex181) (gf_tr (ex_shd ex181) (gf_tr (ex_shd ex181) fr150 f201 rfl rfl rfl) f229 rfl rfl rfl) f260 rfl rfl rfl) (gf_tx (ex_shd ex300) (gf_tr (ex_shd ex181) fr151 f261 rfl rfl rfl) u318 (shd_d (dyn_tag hS280 sh296 (by decide +kernel)) sh296) (by decide)) hI258 hF320 hR321 (show FI255 111 4 = x4 from (gf_at f259 (c111 hS140) (shd_f (by decide) (s111 hS140)) rfl ((gf_at f228 (c111 hS140) (shd_f (by decide) (s111 hS140)) rfl ((gf_at f200 (c111 hS140) (shd_f (by decide) (s111 hS140)) rfl (kp155))))))) (show FR317 a1 2 = r13 from (up_c u318 (ne_tag sh290 sh296 (by decide)) ((gf_at f261 lt171 (shd_d (dyn_tag hS140 sh172 (by decide +kernel)) sh172) rfl (kp156))))) (show FR317 a1 3 = r14 from (up_c u318 (ne_tag sh290 sh296 (by decide)) ((gf_at f261 lt171 (shd_d (dyn_tag hS140 sh172 (by decide +kernel)) sh172) rfl (kp157))))) (show FR317 a1 4 = r15 from (up_c u318 (ne_tag sh290 sh296 (by decide)) ((gf_at f261 lt171 (shd_d (dyn_tag hS140 sh172 (by decide +kernel)) sh172) rfl (kp158))))) (show FR317 a1 0 = r16 from (up_c u318 (ne_tag sh290 sh296 (by decide)) ((gf_at f261 lt171 (shd_d (dyn_tag hS140 sh172 (by decide +kernel)) sh172) rfl (kp159))))) (by have := (e323 : (x322).toInt = (y2).toInt + (1)); omega) (by have := (e323 : (x322).toInt = (y2).toInt + (1)); have := congrArg Int32.toInt (show FI255 110 7 = x308 from h309); omega) (by have := (e323 : (x322).toInt = (y2).toInt + (1)); have := congrArg Int32.toInt (show FI255 110 5 = x311 from h312); have := congrArg Int32.toInt (show FI255 110 8 = x313 from h314); omega) (by have := (e323 : (x322).toInt = (y2).toInt + (1)); have := congrArg Int32.toInt (show FI255 110 7 = x308 from h309); have := congrArg Int32.toInt (show FI255 110 8 = x313 from h314); omega) (by have := (e323 : (x322).toInt = (y2).toInt + (1)); have := congrArg Int32.toInt (show FI255 110 7 = x308 from h309); omega) (by have := (e323 : (x322).toInt = (y2).toInt + (1)); have := congrArg Int32.toInt (show FI255 110 5 = x311 from h312); omega) (by have := (e323 : (x322).toInt = (y2).toInt + (1)); have := congrArg Int32.toInt (show FI255 110 4 = x315 from h316); have := congrArg Int32.toInt (show FI255 110 5 = x311 from h312); omega) (by have := (e323 : (x322).toInt = (y2).toInt + (1)); have := congrArg Int32.toInt (show FI255 110 7 = x308 from h309); omega) (by have := (e323 : (x322).toInt = (y2).toInt + (1)); have := congrArg Int32.toInt (show FI255 110 7 = x308 from h309); omega) (by have := (e323 : (x322).toInt = (y2).toInt + (1)); omega) (by have := (e323 : (x322).toInt = (y2).toInt + (1)); omega)) ⟨rfl, rfl, rfl, trivial⟩
  exact hw_L (lp170 ((9 - 1 : Int).toNat + 1) ((1 : Int32)) FI71 FL72 FR131 n92 sl93 SH94 gp98 gw99 gs100 ex_rf hS96 hT133 hk104 (gf_tr ex_rf (gf_tr ex_rf gf_rf f48 rfl rfl rfl) f75 rfl rfl rfl) (gf_tr ex_rf (gf_tr ex_rf gf_rf f49 rfl rfl rfl) f76 rfl rfl rfl) (gf_tx (ex_shd ex95) (gf_tr ex_rf gf_rf f77 rfl rfl rfl) u132 (shd_d (dyn_tag hS96 sh112 (by decide +kernel)) sh112) (by decide)) hI74 hF134 hR135 (show FI71 111 4 = x4 from (gf_at f75 (c111 hS) (shd_f (by decide) (s111 hS)) rfl ((gf_at f48 (c111 hS) (shd_f (by decide) (s111 hS)) rfl (h5))))) (show FR131 a1 2 = r13 from (up_c u132 (ne_tag sh106 sh112 (by decide)) ((gf_at f77 ha1l (shd_d (dyn_tag hS ha1s (by decide +kernel)) ha1s) rfl (h17))))) (show FR131 a1 3 = r14 from (up_c u132 (ne_tag sh106 sh112 (by decide)) ((gf_at f77 ha1l (shd_d (dyn_tag hS ha1s (by decide +kernel)) ha1s) rfl (h18))))) (show FR131 a1 4 = r15 from (up_c u132 (ne_tag sh106 sh112 (by decide)) ((gf_at f77 ha1l (shd_d (dyn_tag hS ha1s (by decide +kernel)) ha1s) rfl (h19))))) (show FR131 a1 0 = r16 from (up_c u132 (ne_tag sh106 sh112 (by decide)) ((gf_at f77 ha1l (shd_d (dyn_tag hS ha1s (by decide +kernel)) ha1s) rfl (h20))))) (by have := ((by decide : (1 : Int32).toInt = 1) : ((1 : Int32)).toInt = 1); omega) (by have := ((by decide : (1 : Int32).toInt = 1) : ((1 : Int32)).toInt = 1); have := congrArg Int32.toInt (show FI71 110 7 = x122 from h123); omega) (by have := ((by decide : (1 : Int32).toInt = 1) : ((1 : Int32)).toInt = 1); have := congrArg Int32.toInt (show FI71 110 5 = x125 from h126); have := congrArg Int32.toInt (show FI71 110 8 = x127 from h128); omega) (by have := ((by decide : (1 : Int32).toInt = 1) : ((1 : Int32)).toInt = 1); have := congrArg Int32.toInt (show FI71 110 7 = x122 from h123); have := congrArg Int32.toInt (show FI71 110 8 = x127 from h128); omega) (by have := ((by decide : (1 : Int32).toInt = 1) : ((1 : Int32)).toInt = 1); have := congrArg Int32.toInt (show FI71 110 7 = x122 from h123); omega) (by have := ((by decide : (1 : Int32).toInt = 1) : ((1 : Int32)).toInt = 1); have := congrArg Int32.toInt (show FI71 110 5 = x125 from h126); omega) (by have := ((by decide : (1 : Int32).toInt = 1) : ((1 : Int32)).toInt = 1); have := congrArg Int32.toInt (show FI71 110 4 = x129 from h130); have := congrArg Int32.toInt (show FI71 110 5 = x125 from h126); omega) (by have := ((by decide : (1 : Int32).toInt = 1) : ((1 : Int32)).toInt = 1); have := congrArg Int32.toInt (show FI71 110 7 = x122 from h123); omega) (by have := ((by decide : (1 : Int32).toInt = 1) : ((1 : Int32)).toInt = 1); have := congrArg Int32.toInt (show FI71 110 7 = x122 from h123); omega) (by have := ((by decide : (1 : Int32).toInt = 1) : ((1 : Int32)).toInt = 1); omega) (by have := ((by decide : (1 : Int32).toInt = 1) : ((1 : Int32)).toInt = 1); omega)) ⟨rfl, rfl, rfl, trivial⟩
