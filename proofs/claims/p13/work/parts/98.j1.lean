def nX4_readRange : Nat := 0xb15300b63a102a5300b6082a503e00b42a1c7200b42b4500b6062a08009d942f1c6f00b42b3e00b42a1600a0083300b42a5300b611102a3000b62a503e00b42a1c6f00b42b6c00b560041c2bb14500b606102a0a00a108101c09009b1cb14500b6042a09009f083300b42a
theorem bX4_readRange : cX4_readRange.data.toList.map UInt8.toNat = x_un nX4_readRange 107 := by decide +kernel
def iX4_readRange : List (Nat × Jvm.ClassFile.Instr × Nat) := [(0, .aload_n 0, 1), (1, .getfield 51, 3), (4, .iconst 5, 1), (5, .if_icmp .eq 9, 3), (8, .aload_n 0, 1), (9, .iconst 1, 1), (10, .invokevirtual 69, 3), (13, .return_, 1), (14, .iload_n 2, 1), (15, .ifCond .lt 9, 3), (18, .iload_n 2, 1), (19, .bipush 8, 2), (21, .if_icmp .lt 10, 3), (24, .aload_n 0, 1), (25, .bipush 6, 2), (27, .invokevirtual 69, 3), (30, .return_, 1), (31, .aload_n 1, 1), (32, .iload_n 2, 1), (33, .iconst 1, 1), (34, .iadd, 1), (35, .putfield 108, 3), (38, .aload_n 1, 1), (39, .getfield 111, 3), (42, .iload_n 2, 1), (43, .aload_n 0, 1), (44, .getfield 62, 3), (47, .lastore, 1), (48, .aload_n 0, 1), (49, .invokevirtual 48, 3), (52, .aload_n 0, 1), (53, .bipush 17, 2), (55, .invokevirtual 83, 3), (58, .aload_n 0, 1), (59, .getfield 51, 3), (62, .iconst 5, 1), (63, .if_icmp .ne 22, 3), (66, .aload_n 0, 1), (67, .getfield 62, 3), (70, .aload_n 1, 1), (71, .getfield 111, 3), (74, .iload_n 2, 1), (75, .laload, 1), (76, .lcmp, 1), (77, .ifCond .gt 8, 3), (80, .aload_n 0, 1), (81, .iconst 3, 1), (82, .invokevirtual 69, 3), (85, .aload_n 1, 1), (86, .getfield 114, 3), (89, .iload_n 2, 1), (90, .aload_n 0, 1), (91, .getfield 62, 3), (94, .lastore, 1), (95, .aload_n 0, 1), (96, .iconst 5, 1), (97, .invokevirtual 83, 3), (100, .aload_n 0, 1), (101, .bipush 58, 2), (103, .invokevirtual 83, 3), (106, .return_, 1)]
theorem dX4_readRange : x_il nX4_readRange 107 iX4_readRange = true := by decide +kernel
theorem aX4_readRange (k : Nat) {pc : Nat} {i : Jvm.ClassFile.Instr} {len : Nat} (hk : iX4_readRange[k]? = some (pc, i, len)) : x_at xMM 46 pc i len yX4_readRange 3 none := ⟨cX4_readRange, rfl, x_il_ok bX4_readRange dX4_readRange k hk⟩
set_option maxHeartbeats 4000000 in
set_option maxRecDepth 100000 in
theorem k_readRange {sk : xK} {base d n sl : Nat} {SH : Nat → Nat × Nat} {FI : Nat → Nat → Int32} {FL : Nat → Nat → Int64} {FR : Nat → Nat → Option Nat} (hS : h_S n SH) (hF : h_FR FR) (hI : g_I FI) (hR : g_R n SH FR) (a1 : Nat) {z1 : Nat} (ha1l : a1 < n) (ha1s : SH a1 = (10, z1)) (ha1o : own a1) (a2 : Int32) (g0 : 0 ≤ (FI 110 7).toInt ∧ (FI 110 7).toInt < (FI 111 4).toInt) (g1 : (FI 110 5).toInt = 0 ∨ (FI 110 8).toInt = 1) (g2 : (FI 110 7).toInt + 1 < (FI 111 4).toInt ∨ (FI 110 8).toInt ≤ 3) (gg0 : g_K FI) (gg1 : g_Vv SH FR a1) : hw sk base (d + 2) none 46 0 [(0, .ref (base + 110)), (1, .ref (base + a1)), (2, .int (a2))] [] (n, sl, SH, FI, FL, FR) (h_V (fun s => ∃ FI' FL', s = (n, sl, SH, FI', FL', FR) ∧ g_I FI' ∧ g_fr n (shd SH) [(110, 5), (110, 6), (110, 7), (110, 8)] [] [1010] FI FI' ∧ g_fr n (shd SH) [(110, 9)] [] [1101] FL FL' ∧ (0 ≤ (FI' 110 7).toInt ∧ (FI' 110 7).toInt < (FI 111 4).toInt) ∧ ((FI' 110 5).toInt = 0 ∨ (FI' 110 8).toInt = 1) ∧ ((FI' 110 7).toInt + 1 < (FI 111 4).toInt ∨ (FI' 110 8).toInt ≤ 3) ∧ ((FI 110 7).toInt ≤ (FI' 110 7).toInt) ∧ ((FI 110 5).toInt = 0 ∨ (FI' 110 5).toInt = (FI 110 5).toInt))) := by
  have rg_a2 := i_rng a2
  obtain ⟨x1, h2⟩ : ∃ y, FI 110 7 = y := ⟨_, rfl⟩
  have h2l := congrArg Int32.toInt h2
  have b3 := gI_110_7 hI; rw [h2] at b3
  obtain ⟨x4, h5⟩ : ∃ y, FI 111 4 = y := ⟨_, rfl⟩
  have h5l := congrArg Int32.toInt h5
  have b6 := gI_111_4 hI; rw [h5] at b6
  obtain ⟨x7, h8⟩ : ∃ y, FI 110 5 = y := ⟨_, rfl⟩
  have h8l := congrArg Int32.toInt h8
  have := i_rng x7
  obtain ⟨x9, h10⟩ : ∃ y, FI 110 8 = y := ⟨_, rfl⟩
  have h10l := congrArg Int32.toInt h10
  have := i_rng x9
  obtain ⟨⟨r11, h15, hz19⟩, ⟨r12, h16, hz20⟩, ⟨r13, h17, hz21⟩, ⟨r14, h18⟩⟩ := gg1
  obtain ⟨lt23, ow24, sh25⟩ := gR_get hR ha1l ha1o ha1s h15
  have dy26 := gR_dyn hR ha1l (dyn_tag hS ha1s (by decide +kernel)) h15
  obtain ⟨lt27, ow28, sh29⟩ := gR_get hR ha1l ha1o ha1s h16
  have dy30 := gR_dyn hR ha1l (dyn_tag hS ha1s (by decide +kernel)) h16
  obtain ⟨lt31, ow32, sh33⟩ := gR_get hR ha1l ha1o ha1s h17
  have dy34 := gR_dyn hR ha1l (dyn_tag hS ha1s (by decide +kernel)) h17
  obtain ⟨lt35, ow36, sh37⟩ := gR_get hR ha1l ha1o ha1s h18
  have dy38 := gR_dyn hR ha1l (dyn_tag hS ha1s (by decide +kernel)) h18
  refine hw_aloadn (aX4_readRange 0 rfl) rfl ?_
  refine hw_get (v := .int (x9)) (aX4_readRange 1 rfl) wf_RX4_51 (c110 hS) (s110 hS) (by decide) (congrArg Value.int (show FI 110 8 = x9 from h10)) ?_
  refine hw_ic (v := (5 : Int32)) (aX4_readRange 2 rfl) (by decide) ?_
  refine hw_iceq (tgt := 14) (aX4_readRange 3 rfl) (by decide) rfl (by decide : (5 : Int32).toInt = 5) (fun cd39 => ?_) (fun cd39 => ?_)
  · refine xw_iloadn (aX4_readRange 8 rfl) rfl ?_
    refine hw_iflt (tgt := 24) (aX4_readRange 9 rfl) (by decide) rfl (fun cd40 => ?_) (fun cd40 => ?_)
    · refine hw_aloadn (aX4_readRange 13 rfl) rfl ?_
      refine hw_bp (v := (6 : Int32)) (aX4_readRange 14 rfl) (by decide) ?_
      refine hw_callV (Bs := [.int ((6 : Int32))]) (rest := []) (aX4_readRange 15 rfl) wc_RX4_69 (by decide) rfl wi_yX4_refuse wv_yX4_refuse (c110 hS) (s110 hS) rfl rfl rfl (Nat.le_of_ble_eq_true rfl) (Nat.le_of_ble_eq_true rfl) (k_refuse2 (d := d + 1) hS hF hI hR ((6 : Int32)) (by have := congrArg Int32.toInt (show FI 110 7 = x1 from h2); have := congrArg Int32.toInt (show FI 110 7 = x1 from h2); have := congrArg Int32.toInt (show FI 111 4 = x4 from h5); omega) (by have := congrArg Int32.toInt (show FI 110 5 = x7 from h8); have := congrArg Int32.toInt (show FI 110 8 = x9 from h10); omega) (by have := congrArg Int32.toInt (show FI 110 7 = x1 from h2); have := congrArg Int32.toInt (show FI 111 4 = x4 from h5); have := congrArg Int32.toInt (show FI 110 8 = x9 from h10); omega) (by have := ((by decide : (6 : Int32).toInt = 6) : ((6 : Int32)).toInt = 6); have := ((by decide : (6 : Int32).toInt = 6) : ((6 : Int32)).toInt = 6); omega)) (fun v41 sv42 p43 => ?_)
      have := congrArg Int32.toInt (show FI 110 5 = x7 from h8)
      have := congrArg Int32.toInt (show FI 110 5 = x7 from h8)
      obtain ⟨rfl, FI45, rfl, hI46, f47, t50, t51⟩ := p43
      obtain ⟨x54, h55⟩ : ∃ y, FI45 110 5 = y := ⟨_, rfl⟩
      have h55l := congrArg Int32.toInt h55
      have := i_rng x54
      obtain ⟨x56, h57⟩ : ∃ y, FI45 110 8 = y := ⟨_, rfl⟩
      have h57l := congrArg Int32.toInt h57
      have := i_rng x56
      show hw sk base _ _ _ _ _ [] _ _
      refine xw_vret (aX4_readRange 16 rfl) rfl ?_
      exact ⟨rfl, FI45, FL, rfl, hI46, (gf_tr ex_rf gf_rf f47 rfl rfl rfl), gf_rf, (by have := congrArg Int32.toInt (show FI45 110 7 = x1 from (gf_at f47 (c110 hS) (shd_f (by decide) (s110 hS)) rfl (h2))); omega), (by have := congrArg Int32.toInt (show FI45 110 5 = x54 from h55); have := congrArg Int32.toInt (show FI45 110 8 = x56 from h57); omega), (by have := congrArg Int32.toInt (show FI45 110 7 = x1 from (gf_at f47 (c110 hS) (shd_f (by decide) (s110 hS)) rfl (h2))); have := congrArg Int32.toInt (show FI45 110 8 = x56 from h57); omega), (by have := congrArg Int32.toInt (show FI45 110 7 = x1 from (gf_at f47 (c110 hS) (shd_f (by decide) (s110 hS)) rfl (h2))); omega), (by have := congrArg Int32.toInt (show FI45 110 5 = x54 from h55); omega)⟩
    · refine xw_iloadn (aX4_readRange 10 rfl) rfl ?_
      refine hw_bp (v := (8 : Int32)) (aX4_readRange 11 rfl) (by decide) ?_
      refine hw_iclt (tgt := 31) (aX4_readRange 12 rfl) (by decide) rfl (by decide : (8 : Int32).toInt = 8) (fun cd58 => ?_) (fun cd58 => ?_)
      · refine hw_aloadn (aX4_readRange 17 rfl) rfl ?_
        refine xw_iloadn (aX4_readRange 18 rfl) rfl ?_
        refine hw_ic (v := (1 : Int32)) (aX4_readRange 19 rfl) (by decide) ?_
        refine xw_iadd (aX4_readRange 20 rfl) ?_
        refine hw_tie (A := ((a2).toInt) + (1)) (i_add rfl (by decide : (1 : Int32).toInt = 1) (by omega) (by omega)) (fun x59 e60 => ?_)
        refine hv_puti (aX4_readRange 21 rfl) wf_RX4_108 ha1l ha1s (by decide) rfl rfl (fun FI61 u62 => ?_)
        have hI63 : g_I FI61 := gU_F hI u62 (g_hi (dyn_tag hS ha1s (by decide +kernel)))
        refine hw_aloadn (aX4_readRange 22 rfl) rfl ?_
        refine hw_get (v := .ref (base + r11)) (aX4_readRange 23 rfl) wf_RX4_111 ha1l ha1s (by decide) (congrArg (fun r => va_rf (h_rf base r)) (show FR a1 2 = some r11 from h15)) ?_
        refine xw_iloadn (aX4_readRange 24 rfl) rfl ?_
        refine hw_aloadn (aX4_readRange 25 rfl) rfl ?_
        obtain ⟨x64, h65⟩ : ∃ y, FL 110 9 = y := ⟨_, rfl⟩
        have h65l := congrArg Int64.toInt h65
        have := l_rng x64
        refine hw_get (v := .long (x64)) (aX4_readRange 26 rfl) wf_RX4_62 (c110 hS) (s110 hS) (by decide) (congrArg Value.long (show FL 110 9 = x64 from h65)) ?_
        refine hv_last (k := (a2).toNatClampNeg) (aX4_readRange 27 rfl) lt23 hz19 (h_in rfl (by omega) (by omega)) rfl (fun FL66 u67 => ?_)
        have : (x7).toInt = 0 := by omega
        refine hw_aloadn (aX4_readRange 28 rfl) rfl ?_
        refine hw_callV (Bs := []) (rest := []) (aX4_readRange 29 rfl) wc_RX4_48 (by decide) rfl wi_yX4_take wv_yX4_take (c110 hS) (s110 hS) rfl rfl rfl (Nat.le_of_ble_eq_true rfl) (Nat.le_of_ble_eq_true rfl) (k_take2 (d := d + 1) hS hF hI63 hR (by have := congrArg Int32.toInt (show FI61 110 7 = x1 from (up_c u62 (ne_tag (s110 hS) ha1s (by decide)) (h2))); have := congrArg Int32.toInt (show FI61 110 7 = x1 from (up_c u62 (ne_tag (s110 hS) ha1s (by decide)) (h2))); have := congrArg Int32.toInt (show FI61 111 4 = x4 from (up_c u62 (ne_tag (s111 hS) ha1s (by decide)) (h5))); omega) (by have := congrArg Int32.toInt (show FI61 110 5 = x7 from (up_c u62 (ne_tag (s110 hS) ha1s (by decide)) (h8))); have := congrArg Int32.toInt (show FI61 110 8 = x9 from (up_c u62 (ne_tag (s110 hS) ha1s (by decide)) (h10))); omega) (by have := congrArg Int32.toInt (show FI61 110 7 = x1 from (up_c u62 (ne_tag (s110 hS) ha1s (by decide)) (h2))); have := congrArg Int32.toInt (show FI61 111 4 = x4 from (up_c u62 (ne_tag (s111 hS) ha1s (by decide)) (h5))); have := congrArg Int32.toInt (show FI61 110 8 = x9 from (up_c u62 (ne_tag (s110 hS) ha1s (by decide)) (h10))); omega) (gK_mx (L := [(110, 5), (110, 6), (110, 7), (110, 8)]) (A := []) (T := [1010]) hS gg0 (gf_t gf_rf u62 (shd_d (dyn_tag hS ha1s (by decide +kernel)) ha1s) (by decide)) (by decide))) (fun v68 sv69 p70 => ?_)
        have := congrArg Int32.toInt (show FI61 111 4 = x4 from (up_c u62 (ne_tag (s111 hS) ha1s (by decide)) (h5)))
        have := congrArg Int32.toInt (show FI61 111 4 = x4 from (up_c u62 (ne_tag (s111 hS) ha1s (by decide)) (h5)))
        have := congrArg Int32.toInt (show FI61 110 7 = x1 from (up_c u62 (ne_tag (s110 hS) ha1s (by decide)) (h2)))
        have := congrArg Int32.toInt (show FI61 110 5 = x7 from (up_c u62 (ne_tag (s110 hS) ha1s (by decide)) (h8)))
        have := congrArg Int32.toInt (show FI61 110 5 = x7 from (up_c u62 (ne_tag (s110 hS) ha1s (by decide)) (h8)))
        have := congrArg Int32.toInt (show FI61 110 5 = x7 from (up_c u62 (ne_tag (s110 hS) ha1s (by decide)) (h8)))
        have := congrArg Int32.toInt (show FI61 110 5 = x7 from (up_c u62 (ne_tag (s110 hS) ha1s (by decide)) (h8)))
        have := congrArg Int32.toInt (show FI61 110 7 = x1 from (up_c u62 (ne_tag (s110 hS) ha1s (by decide)) (h2)))
        have := congrArg Int32.toInt (show FI61 111 4 = x4 from (up_c u62 (ne_tag (s111 hS) ha1s (by decide)) (h5)))
        have := congrArg Int32.toInt (show FI61 110 7 = x1 from (up_c u62 (ne_tag (s110 hS) ha1s (by decide)) (h2)))
        have := congrArg Int32.toInt (show FI61 110 7 = x1 from (up_c u62 (ne_tag (s110 hS) ha1s (by decide)) (h2)))
        have := congrArg Int32.toInt (show FI61 110 5 = x7 from (up_c u62 (ne_tag (s110 hS) ha1s (by decide)) (h8)))
        have := congrArg Int32.toInt (show FI61 110 8 = x9 from (up_c u62 (ne_tag (s110 hS) ha1s (by decide)) (h10)))
        obtain ⟨rfl, FI72, FL73, rfl, hI74, f75, f76, t79, t80, t81, t82, t83, t84, t85, t86, t87⟩ := p70
        replace t85 := (t85.resolve_left (by omega)).resolve_left (by omega)
        clear t87
        obtain ⟨x90, h91⟩ : ∃ y, FI72 110 7 = y := ⟨_, rfl⟩
        have h91l := congrArg Int32.toInt h91
        have b92 := gI_110_7 hI74; rw [h91] at b92
        obtain ⟨x93, h94⟩ : ∃ y, FI72 110 8 = y := ⟨_, rfl⟩
        have h94l := congrArg Int32.toInt h94
        have := i_rng x93
        show hw sk base _ _ _ _ _ [] _ _
        refine hw_aloadn (aX4_readRange 30 rfl) rfl ?_
        refine hw_bp (v := (17 : Int32)) (aX4_readRange 31 rfl) (by decide) ?_
        refine hw_callV (Bs := [.int ((17 : Int32))]) (rest := []) (aX4_readRange 32 rfl) wc_RX4_83 (by decide) rfl wi_yX4_expect wv_yX4_expect (c110 hS) (s110 hS) rfl rfl rfl (Nat.le_of_ble_eq_true rfl) (Nat.le_of_ble_eq_true rfl) (k_expect2 (d := d) hS hF hI74 hR ((17 : Int32)) (by have := congrArg Int32.toInt (show FI72 110 7 = x90 from h91); have := congrArg Int32.toInt (show FI72 110 7 = x90 from h91); have := congrArg Int32.toInt (show FI72 111 4 = x4 from (gf_at f75 (c111 hS) (shd_f (by decide) (s111 hS)) rfl ((up_c u62 (ne_tag (s111 hS) ha1s (by decide)) (h5))))); omega) (by have := congrArg Int32.toInt (show FI72 110 5 = x7 from (gf_at f75 (c110 hS) (shd_f (by decide) (s110 hS)) rfl ((up_c u62 (ne_tag (s110 hS) ha1s (by decide)) (h8))))); have := congrArg Int32.toInt (show FI72 110 8 = x93 from h94); omega) (by have := congrArg Int32.toInt (show FI72 110 7 = x90 from h91); have := congrArg Int32.toInt (show FI72 111 4 = x4 from (gf_at f75 (c111 hS) (shd_f (by decide) (s111 hS)) rfl ((up_c u62 (ne_tag (s111 hS) ha1s (by decide)) (h5))))); have := congrArg Int32.toInt (show FI72 110 8 = x93 from h94); omega) (gK_mx (L := [(110, 5), (110, 6), (110, 7), (110, 8)]) (A := []) (T := [1010]) hS gg0 (gf_tr ex_rf (gf_t gf_rf u62 (shd_d (dyn_tag hS ha1s (by decide +kernel)) ha1s) (by decide)) f75 rfl rfl rfl) (by decide))) (fun v95 sv96 p97 => ?_)
        have := congrArg Int32.toInt (show FI72 111 4 = x4 from (gf_at f75 (c111 hS) (shd_f (by decide) (s111 hS)) rfl ((up_c u62 (ne_tag (s111 hS) ha1s (by decide)) (h5)))))
        have := congrArg Int32.toInt (show FI72 111 4 = x4 from (gf_at f75 (c111 hS) (shd_f (by decide) (s111 hS)) rfl ((up_c u62 (ne_tag (s111 hS) ha1s (by decide)) (h5)))))
        have := congrArg Int32.toInt (show FI72 110 7 = x90 from h91)
        have := congrArg Int32.toInt (show FI72 110 5 = x7 from (gf_at f75 (c110 hS) (shd_f (by decide) (s110 hS)) rfl ((up_c u62 (ne_tag (s110 hS) ha1s (by decide)) (h8)))))
        have := congrArg Int32.toInt (show FI72 110 5 = x7 from (gf_at f75 (c110 hS) (shd_f (by decide) (s110 hS)) rfl ((up_c u62 (ne_tag (s110 hS) ha1s (by decide)) (h8)))))
        obtain ⟨rfl, FI99, FL100, rfl, hI101, f102, f103, t106, t107, t108, t109, t110⟩ := p97
        clear t80 t81
        obtain ⟨x113, h114⟩ : ∃ y, FI99 110 7 = y := ⟨_, rfl⟩
        have h114l := congrArg Int32.toInt h114
        have b115 := gI_110_7 hI101; rw [h114] at b115
        obtain ⟨x116, h117⟩ : ∃ y, FI99 110 5 = y := ⟨_, rfl⟩
        have h117l := congrArg Int32.toInt h117
        have := i_rng x116
        obtain ⟨x118, h119⟩ : ∃ y, FI99 110 8 = y := ⟨_, rfl⟩
        have h119l := congrArg Int32.toInt h119
        have := i_rng x118
        show hw sk base _ _ _ _ _ [] _ _
        refine hw_aloadn (aX4_readRange 33 rfl) rfl ?_
        refine hw_get (v := .int (x118)) (aX4_readRange 34 rfl) wf_RX4_51 (c110 hS) (s110 hS) (by decide) (congrArg Value.int (show FI99 110 8 = x118 from h119)) ?_
        refine hw_ic (v := (5 : Int32)) (aX4_readRange 35 rfl) (by decide) ?_
        refine hw_icne (tgt := 85) (aX4_readRange 36 rfl) (by decide) rfl (by decide : (5 : Int32).toInt = 5) (fun cd120 => ?_) (fun cd120 => ?_)
        · refine hw_aloadn (aX4_readRange 48 rfl) rfl ?_
          refine hw_get (v := .ref (base + r12)) (aX4_readRange 49 rfl) wf_RX4_114 ha1l ha1s (by decide) (congrArg (fun r => va_rf (h_rf base r)) (show FR a1 3 = some r12 from h16)) ?_
          refine xw_iloadn (aX4_readRange 50 rfl) rfl ?_
          refine hw_aloadn (aX4_readRange 51 rfl) rfl ?_
          obtain ⟨x121, h122⟩ : ∃ y, FL100 110 9 = y := ⟨_, rfl⟩
          have h122l := congrArg Int64.toInt h122
          have := l_rng x121
          refine hw_get (v := .long (x121)) (aX4_readRange 52 rfl) wf_RX4_62 (c110 hS) (s110 hS) (by decide) (congrArg Value.long (show FL100 110 9 = x121 from h122)) ?_
          refine hv_last (k := (a2).toNatClampNeg) (aX4_readRange 53 rfl) lt27 hz20 (h_in rfl (by omega) (by omega)) rfl (fun FL123 u124 => ?_)
          refine hw_aloadn (aX4_readRange 54 rfl) rfl ?_
          refine hw_ic (v := (5 : Int32)) (aX4_readRange 55 rfl) (by decide) ?_
          refine hw_callV (Bs := [.int ((5 : Int32))]) (rest := []) (aX4_readRange 56 rfl) wc_RX4_83 (by decide) rfl wi_yX4_expect wv_yX4_expect (c110 hS) (s110 hS) rfl rfl rfl (Nat.le_of_ble_eq_true rfl) (Nat.le_of_ble_eq_true rfl) (k_expect2 (d := d) hS hF hI101 hR ((5 : Int32)) (by have := congrArg Int32.toInt (show FI99 110 7 = x113 from h114); have := congrArg Int32.toInt (show FI99 110 7 = x113 from h114); have := congrArg Int32.toInt (show FI99 111 4 = x4 from (gf_at f102 (c111 hS) (shd_f (by decide) (s111 hS)) rfl ((gf_at f75 (c111 hS) (shd_f (by decide) (s111 hS)) rfl ((up_c u62 (ne_tag (s111 hS) ha1s (by decide)) (h5))))))); omega) (by have := congrArg Int32.toInt (show FI99 110 5 = x116 from h117); have := congrArg Int32.toInt (show FI99 110 8 = x118 from h119); omega) (by have := congrArg Int32.toInt (show FI99 110 7 = x113 from h114); have := congrArg Int32.toInt (show FI99 111 4 = x4 from (gf_at f102 (c111 hS) (shd_f (by decide) (s111 hS)) rfl ((gf_at f75 (c111 hS) (shd_f (by decide) (s111 hS)) rfl ((up_c u62 (ne_tag (s111 hS) ha1s (by decide)) (h5))))))); have := congrArg Int32.toInt (show FI99 110 8 = x118 from h119); omega) (gK_mx (L := [(110, 5), (110, 6), (110, 7), (110, 8)]) (A := []) (T := [1010]) hS gg0 (gf_tr ex_rf (gf_tr ex_rf (gf_t gf_rf u62 (shd_d (dyn_tag hS ha1s (by decide +kernel)) ha1s) (by decide)) f75 rfl rfl rfl) f102 rfl rfl rfl) (by decide))) (fun v125 sv126 p127 => ?_)
          have := congrArg Int32.toInt (show FI99 111 4 = x4 from (gf_at f102 (c111 hS) (shd_f (by decide) (s111 hS)) rfl ((gf_at f75 (c111 hS) (shd_f (by decide) (s111 hS)) rfl ((up_c u62 (ne_tag (s111 hS) ha1s (by decide)) (h5)))))))
          have := congrArg Int32.toInt (show FI99 111 4 = x4 from (gf_at f102 (c111 hS) (shd_f (by decide) (s111 hS)) rfl ((gf_at f75 (c111 hS) (shd_f (by decide) (s111 hS)) rfl ((up_c u62 (ne_tag (s111 hS) ha1s (by decide)) (h5)))))))
          have := congrArg Int32.toInt (show FI99 110 7 = x113 from h114)
          have := congrArg Int32.toInt (show FI99 110 5 = x116 from h117)
          have := congrArg Int32.toInt (show FI99 110 5 = x116 from h117)
          obtain ⟨rfl, FI129, FL130, rfl, hI131, f132, f133, t136, t137, t138, t139, t140⟩ := p127
          clear t107 t108
          obtain ⟨x143, h144⟩ : ∃ y, FI129 110 7 = y := ⟨_, rfl⟩
          have h144l := congrArg Int32.toInt h144
          have b145 := gI_110_7 hI131; rw [h144] at b145
          obtain ⟨x146, h147⟩ : ∃ y, FI129 110 5 = y := ⟨_, rfl⟩
          have h147l := congrArg Int32.toInt h147
          have := i_rng x146
          obtain ⟨x148, h149⟩ : ∃ y, FI129 110 8 = y := ⟨_, rfl⟩
          have h149l := congrArg Int32.toInt h149
          have := i_rng x148
          show hw sk base _ _ _ _ _ [] _ _
          refine hw_aloadn (aX4_readRange 57 rfl) rfl ?_
          refine hw_bp (v := (58 : Int32)) (aX4_readRange 58 rfl) (by decide) ?_
          refine hw_callV (Bs := [.int ((58 : Int32))]) (rest := []) (aX4_readRange 59 rfl) wc_RX4_83 (by decide) rfl wi_yX4_expect wv_yX4_expect (c110 hS) (s110 hS) rfl rfl rfl (Nat.le_of_ble_eq_true rfl) (Nat.le_of_ble_eq_true rfl) (k_expect2 (d := d) hS hF hI131 hR ((58 : Int32)) (by have := congrArg Int32.toInt (show FI129 110 7 = x143 from h144); have := congrArg Int32.toInt (show FI129 110 7 = x143 from h144); have := congrArg Int32.toInt (show FI129 111 4 = x4 from (gf_at f132 (c111 hS) (shd_f (by decide) (s111 hS)) rfl ((gf_at f102 (c111 hS) (shd_f (by decide) (s111 hS)) rfl ((gf_at f75 (c111 hS) (shd_f (by decide) (s111 hS)) rfl ((up_c u62 (ne_tag (s111 hS) ha1s (by decide)) (h5))))))))); omega) (by have := congrArg Int32.toInt (show FI129 110 5 = x146 from h147); have := congrArg Int32.toInt (show FI129 110 8 = x148 from h149); omega) (by have := congrArg Int32.toInt (show FI129 110 7 = x143 from h144); have := congrArg Int32.toInt (show FI129 111 4 = x4 from (gf_at f132 (c111 hS) (shd_f (by decide) (s111 hS)) rfl ((gf_at f102 (c111 hS) (shd_f (by decide) (s111 hS)) rfl ((gf_at f75 (c111 hS) (shd_f (by decide) (s111 hS)) rfl ((up_c u62 (ne_tag (s111 hS) ha1s (by decide)) (h5))))))))); have := congrArg Int32.toInt (show FI129 110 8 = x148 from h149); omega) (gK_mx (L := [(110, 5), (110, 6), (110, 7), (110, 8)]) (A := []) (T := [1010]) hS gg0 (gf_tr ex_rf (gf_tr ex_rf (gf_tr ex_rf (gf_t gf_rf u62 (shd_d (dyn_tag hS ha1s (by decide +kernel)) ha1s) (by decide)) f75 rfl rfl rfl) f102 rfl rfl rfl) f132 rfl rfl rfl) (by decide))) (fun v150 sv151 p152 => ?_)
          have := congrArg Int32.toInt (show FI129 111 4 = x4 from (gf_at f132 (c111 hS) (shd_f (by decide) (s111 hS)) rfl ((gf_at f102 (c111 hS) (shd_f (by decide) (s111 hS)) rfl ((gf_at f75 (c111 hS) (shd_f (by decide) (s111 hS)) rfl ((up_c u62 (ne_tag (s111 hS) ha1s (by decide)) (h5)))))))))
          have := congrArg Int32.toInt (show FI129 111 4 = x4 from (gf_at f132 (c111 hS) (shd_f (by decide) (s111 hS)) rfl ((gf_at f102 (c111 hS) (shd_f (by decide) (s111 hS)) rfl ((gf_at f75 (c111 hS) (shd_f (by decide) (s111 hS)) rfl ((up_c u62 (ne_tag (s111 hS) ha1s (by decide)) (h5)))))))))
          have := congrArg Int32.toInt (show FI129 110 7 = x143 from h144)
          have := congrArg Int32.toInt (show FI129 110 5 = x146 from h147)
          have := congrArg Int32.toInt (show FI129 110 5 = x146 from h147)
          obtain ⟨rfl, FI154, FL155, rfl, hI156, f157, f158, t161, t162, t163, t164, t165⟩ := p152
          clear t137 t138
          obtain ⟨x168, h169⟩ : ∃ y, FI154 110 7 = y := ⟨_, rfl⟩
          have h169l := congrArg Int32.toInt h169
          have b170 := gI_110_7 hI156; rw [h169] at b170
          obtain ⟨x171, h172⟩ : ∃ y, FI154 110 5 = y := ⟨_, rfl⟩
          have h172l := congrArg Int32.toInt h172
          have := i_rng x171
          obtain ⟨x173, h174⟩ : ∃ y, FI154 110 8 = y := ⟨_, rfl⟩
          have h174l := congrArg Int32.toInt h174
          have := i_rng x173
          show hw sk base _ _ _ _ _ [] _ _
          refine xw_vret (aX4_readRange 60 rfl) rfl ?_
          exact ⟨rfl, FI154, FL155, rfl, hI156, (gf_tr ex_rf (gf_tr ex_rf (gf_tr ex_rf (gf_tr ex_rf (gf_t gf_rf u62 (shd_d (dyn_tag hS ha1s (by decide +kernel)) ha1s) (by decide)) f75 rfl rfl rfl) f102 rfl rfl rfl) f132 rfl rfl rfl) f157 rfl rfl rfl), (gf_tr ex_rf (gf_tr ex_rf (gf_t (gf_tr ex_rf (gf_tr ex_rf (gf_t gf_rf u67 (shd_d dy26 hz19) (by decide)) f76 rfl rfl rfl) f103 rfl rfl rfl) u124 (shd_d dy30 hz20) (by decide)) f133 rfl rfl rfl) f158 rfl rfl rfl), (by have := congrArg Int32.toInt (show FI154 110 7 = x168 from h169); omega), (by have := congrArg Int32.toInt (show FI154 110 5 = x171 from h172); have := congrArg Int32.toInt (show FI154 110 8 = x173 from h174); omega), (by have := congrArg Int32.toInt (show FI154 110 7 = x168 from h169); have := congrArg Int32.toInt (show FI154 110 8 = x173 from h174); omega), (by have := congrArg Int32.toInt (show FI154 110 7 = x168 from h169); omega), (by have := congrArg Int32.toInt (show FI154 110 5 = x171 from h172); omega)⟩
        · refine hw_aloadn (aX4_readRange 37 rfl) rfl ?_
          obtain ⟨x175, h176⟩ : ∃ y, FL100 110 9 = y := ⟨_, rfl⟩
          have h176l := congrArg Int64.toInt h176
          have := l_rng x175
          refine hw_get (v := .long (x175)) (aX4_readRange 38 rfl) wf_RX4_62 (c110 hS) (s110 hS) (by decide) (congrArg Value.long (show FL100 110 9 = x175 from h176)) ?_
          refine hw_aloadn (aX4_readRange 39 rfl) rfl ?_
          refine hw_get (v := .ref (base + r11)) (aX4_readRange 40 rfl) wf_RX4_111 ha1l ha1s (by decide) (congrArg (fun r => va_rf (h_rf base r)) (show FR a1 2 = some r11 from h15)) ?_
          refine xw_iloadn (aX4_readRange 41 rfl) rfl ?_
          refine hw_lald (v := x64) (aX4_readRange 42 rfl) lt23 hz19 (h_in rfl (by omega) (by omega)) (show FL100 r11 (a2).toNatClampNeg = x64 from (gf_as hS f103 lt23 hz19 (shd_d dy26 hz19) (by decide +kernel) ((gf_as hS f76 lt23 hz19 (shd_d dy26 hz19) (by decide +kernel) (up_eq u67))))) ?_
          refine hw_lcgt (tgt := 85) (aX4_readRange 43 rfl) (aX4_readRange 44 rfl) (by decide) rfl rfl (fun cd177 => ?_) (fun cd177 => ?_)
          · refine hw_aloadn (aX4_readRange 48 rfl) rfl ?_
            refine hw_get (v := .ref (base + r12)) (aX4_readRange 49 rfl) wf_RX4_114 ha1l ha1s (by decide) (congrArg (fun r => va_rf (h_rf base r)) (show FR a1 3 = some r12 from h16)) ?_
            refine xw_iloadn (aX4_readRange 50 rfl) rfl ?_
            refine hw_aloadn (aX4_readRange 51 rfl) rfl ?_
            refine hw_get (v := .long (x175)) (aX4_readRange 52 rfl) wf_RX4_62 (c110 hS) (s110 hS) (by decide) (congrArg Value.long (show FL100 110 9 = x175 from h176)) ?_
            refine hv_last (k := (a2).toNatClampNeg) (aX4_readRange 53 rfl) lt27 hz20 (h_in rfl (by omega) (by omega)) rfl (fun FL178 u179 => ?_)
            refine hw_aloadn (aX4_readRange 54 rfl) rfl ?_
            refine hw_ic (v := (5 : Int32)) (aX4_readRange 55 rfl) (by decide) ?_
            refine hw_callV (Bs := [.int ((5 : Int32))]) (rest := []) (aX4_readRange 56 rfl) wc_RX4_83 (by decide) rfl wi_yX4_expect wv_yX4_expect (c110 hS) (s110 hS) rfl rfl rfl (Nat.le_of_ble_eq_true rfl) (Nat.le_of_ble_eq_true rfl) (k_expect2 (d := d) hS hF hI101 hR ((5 : Int32)) (by have := congrArg Int32.toInt (show FI99 110 7 = x113 from h114); have := congrArg Int32.toInt (show FI99 110 7 = x113 from h114); have := congrArg Int32.toInt (show FI99 111 4 = x4 from (gf_at f102 (c111 hS) (shd_f (by decide) (s111 hS)) rfl ((gf_at f75 (c111 hS) (shd_f (by decide) (s111 hS)) rfl ((up_c u62 (ne_tag (s111 hS) ha1s (by decide)) (h5))))))); omega) (by have := congrArg Int32.toInt (show FI99 110 5 = x116 from h117); have := congrArg Int32.toInt (show FI99 110 8 = x118 from h119); omega) (by have := congrArg Int32.toInt (show FI99 110 7 = x113 from h114); have := congrArg Int32.toInt (show FI99 111 4 = x4 from (gf_at f102 (c111 hS) (shd_f (by decide) (s111 hS)) rfl ((gf_at f75 (c111 hS) (shd_f (by decide) (s111 hS)) rfl ((up_c u62 (ne_tag (s111 hS) ha1s (by decide)) (h5))))))); have := congrArg Int32.toInt (show FI99 110 8 = x118 from h119); omega) (gK_mx (L := [(110, 5), (110, 6), (110, 7), (110, 8)]) (A := []) (T := [1010]) hS gg0 (gf_tr ex_rf (gf_tr ex_rf (gf_t gf_rf u62 (shd_d (dyn_tag hS ha1s (by decide +kernel)) ha1s) (by decide)) f75 rfl rfl rfl) f102 rfl rfl rfl) (by decide))) (fun v180 sv181 p182 => ?_)
            have := congrArg Int32.toInt (show FI99 111 4 = x4 from (gf_at f102 (c111 hS) (shd_f (by decide) (s111 hS)) rfl ((gf_at f75 (c111 hS) (shd_f (by decide) (s111 hS)) rfl ((up_c u62 (ne_tag (s111 hS) ha1s (by decide)) (h5)))))))
            have := congrArg Int32.toInt (show FI99 111 4 = x4 from (gf_at f102 (c111 hS) (shd_f (by decide) (s111 hS)) rfl ((gf_at f75 (c111 hS) (shd_f (by decide) (s111 hS)) rfl ((up_c u62 (ne_tag (s111 hS) ha1s (by decide)) (h5)))))))
            have := congrArg Int32.toInt (show FI99 110 7 = x113 from h114)
            have := congrArg Int32.toInt (show FI99 110 5 = x116 from h117)
            have := congrArg Int32.toInt (show FI99 110 5 = x116 from h117)
            obtain ⟨rfl, FI184, FL185, rfl, hI186, f187, f188, t191, t192, t193, t194, t195⟩ := p182
            clear t107 t108
            obtain ⟨x198, h199⟩ : ∃ y, FI184 110 7 = y := ⟨_, rfl⟩
            have h199l := congrArg Int32.toInt h199
            have b200 := gI_110_7 hI186; rw [h199] at b200
            obtain ⟨x201, h202⟩ : ∃ y, FI184 110 5 = y := ⟨_, rfl⟩
            have h202l := congrArg Int32.toInt h202
            have := i_rng x201
            obtain ⟨x203, h204⟩ : ∃ y, FI184 110 8 = y := ⟨_, rfl⟩
            have h204l := congrArg Int32.toInt h204
            have := i_rng x203
            show hw sk base _ _ _ _ _ [] _ _
            refine hw_aloadn (aX4_readRange 57 rfl) rfl ?_
            refine hw_bp (v := (58 : Int32)) (aX4_readRange 58 rfl) (by decide) ?_
            refine hw_callV (Bs := [.int ((58 : Int32))]) (rest := []) (aX4_readRange 59 rfl) wc_RX4_83 (by decide) rfl wi_yX4_expect wv_yX4_expect (c110 hS) (s110 hS) rfl rfl rfl (Nat.le_of_ble_eq_true rfl) (Nat.le_of_ble_eq_true rfl) (k_expect2 (d := d) hS hF hI186 hR ((58 : Int32)) (by have := congrArg Int32.toInt (show FI184 110 7 = x198 from h199); have := congrArg Int32.toInt (show FI184 110 7 = x198 from h199); have := congrArg Int32.toInt (show FI184 111 4 = x4 from (gf_at f187 (c111 hS) (shd_f (by decide) (s111 hS)) rfl ((gf_at f102 (c111 hS) (shd_f (by decide) (s111 hS)) rfl ((gf_at f75 (c111 hS) (shd_f (by decide) (s111 hS)) rfl ((up_c u62 (ne_tag (s111 hS) ha1s (by decide)) (h5))))))))); omega) (by have := congrArg Int32.toInt (show FI184 110 5 = x201 from h202); have := congrArg Int32.toInt (show FI184 110 8 = x203 from h204); omega) (by have := congrArg Int32.toInt (show FI184 110 7 = x198 from h199); have := congrArg Int32.toInt (show FI184 111 4 = x4 from (gf_at f187 (c111 hS) (shd_f (by decide) (s111 hS)) rfl ((gf_at f102 (c111 hS) (shd_f (by decide) (s111 hS)) rfl ((gf_at f75 (c111 hS) (shd_f (by decide) (s111 hS)) rfl ((up_c u62 (ne_tag (s111 hS) ha1s (by decide)) (h5))))))))); have := congrArg Int32.toInt (show FI184 110 8 = x203 from h204); omega) (gK_mx (L := [(110, 5), (110, 6), (110, 7), (110, 8)]) (A := []) (T := [1010]) hS gg0 (gf_tr ex_rf (gf_tr ex_rf (gf_tr ex_rf (gf_t gf_rf u62 (shd_d (dyn_tag hS ha1s (by decide +kernel)) ha1s) (by decide)) f75 rfl rfl rfl) f102 rfl rfl rfl) f187 rfl rfl rfl) (by decide))) (fun v205 sv206 p207 => ?_)
            have := congrArg Int32.toInt (show FI184 111 4 = x4 from (gf_at f187 (c111 hS) (shd_f (by decide) (s111 hS)) rfl ((gf_at f102 (c111 hS) (shd_f (by decide) (s111 hS)) rfl ((gf_at f75 (c111 hS) (shd_f (by decide) (s111 hS)) rfl ((up_c u62 (ne_tag (s111 hS) ha1s (by decide)) (h5)))))))))
            have := congrArg Int32.toInt (show FI184 111 4 = x4 from (gf_at f187 (c111 hS) (shd_f (by decide) (s111 hS)) rfl ((gf_at f102 (c111 hS) (shd_f (by decide) (s111 hS)) rfl ((gf_at f75 (c111 hS) (shd_f (by decide) (s111 hS)) rfl ((up_c u62 (ne_tag (s111 hS) ha1s (by decide)) (h5)))))))))
            have := congrArg Int32.toInt (show FI184 110 7 = x198 from h199)
            have := congrArg Int32.toInt (show FI184 110 5 = x201 from h202)
            have := congrArg Int32.toInt (show FI184 110 5 = x201 from h202)
            obtain ⟨rfl, FI209, FL210, rfl, hI211, f212, f213, t216, t217, t218, t219, t220⟩ := p207
            clear t192 t193
            obtain ⟨x223, h224⟩ : ∃ y, FI209 110 7 = y := ⟨_, rfl⟩
            have h224l := congrArg Int32.toInt h224
            have b225 := gI_110_7 hI211; rw [h224] at b225
            obtain ⟨x226, h227⟩ : ∃ y, FI209 110 5 = y := ⟨_, rfl⟩
            have h227l := congrArg Int32.toInt h227
            have := i_rng x226
            obtain ⟨x228, h229⟩ : ∃ y, FI209 110 8 = y := ⟨_, rfl⟩
            have h229l := congrArg Int32.toInt h229
            have := i_rng x228
            show hw sk base _ _ _ _ _ [] _ _
            refine xw_vret (aX4_readRange 60 rfl) rfl ?_
            exact ⟨rfl, FI209, FL210, rfl, hI211, (gf_tr ex_rf (gf_tr ex_rf (gf_tr ex_rf (gf_tr ex_rf (gf_t gf_rf u62 (shd_d (dyn_tag hS ha1s (by decide +kernel)) ha1s) (by decide)) f75 rfl rfl rfl) f102 rfl rfl rfl) f187 rfl rfl rfl) f212 rfl rfl rfl), (gf_tr ex_rf (gf_tr ex_rf (gf_t (gf_tr ex_rf (gf_tr ex_rf (gf_t gf_rf u67 (shd_d dy26 hz19) (by decide)) f76 rfl rfl rfl) f103 rfl rfl rfl) u179 (shd_d dy30 hz20) (by decide)) f188 rfl rfl rfl) f213 rfl rfl rfl), (by have := congrArg Int32.toInt (show FI209 110 7 = x223 from h224); omega), (by have := congrArg Int32.toInt (show FI209 110 5 = x226 from h227); have := congrArg Int32.toInt (show FI209 110 8 = x228 from h229); omega), (by have := congrArg Int32.toInt (show FI209 110 7 = x223 from h224); have := congrArg Int32.toInt (show FI209 110 8 = x228 from h229); omega), (by have := congrArg Int32.toInt (show FI209 110 7 = x223 from h224); omega), (by have := congrArg Int32.toInt (show FI209 110 5 = x226 from h227); omega)⟩
          · refine hw_aloadn (aX4_readRange 45 rfl) rfl ?_
            refine hw_ic (v := (3 : Int32)) (aX4_readRange 46 rfl) (by decide) ?_
            refine hw_callV (Bs := [.int ((3 : Int32))]) (rest := []) (aX4_readRange 47 rfl) wc_RX4_69 (by decide) rfl wi_yX4_refuse wv_yX4_refuse (c110 hS) (s110 hS) rfl rfl rfl (Nat.le_of_ble_eq_true rfl) (Nat.le_of_ble_eq_true rfl) (k_refuse2 (d := d + 1) hS hF hI101 hR ((3 : Int32)) (by have := congrArg Int32.toInt (show FI99 110 7 = x113 from h114); have := congrArg Int32.toInt (show FI99 110 7 = x113 from h114); have := congrArg Int32.toInt (show FI99 111 4 = x4 from (gf_at f102 (c111 hS) (shd_f (by decide) (s111 hS)) rfl ((gf_at f75 (c111 hS) (shd_f (by decide) (s111 hS)) rfl ((up_c u62 (ne_tag (s111 hS) ha1s (by decide)) (h5))))))); omega) (by have := congrArg Int32.toInt (show FI99 110 5 = x116 from h117); have := congrArg Int32.toInt (show FI99 110 8 = x118 from h119); omega) (by have := congrArg Int32.toInt (show FI99 110 7 = x113 from h114); have := congrArg Int32.toInt (show FI99 111 4 = x4 from (gf_at f102 (c111 hS) (shd_f (by decide) (s111 hS)) rfl ((gf_at f75 (c111 hS) (shd_f (by decide) (s111 hS)) rfl ((up_c u62 (ne_tag (s111 hS) ha1s (by decide)) (h5))))))); have := congrArg Int32.toInt (show FI99 110 8 = x118 from h119); omega) (by have := ((by decide : (3 : Int32).toInt = 3) : ((3 : Int32)).toInt = 3); have := ((by decide : (3 : Int32).toInt = 3) : ((3 : Int32)).toInt = 3); omega)) (fun v230 sv231 p232 => ?_)
            have := congrArg Int32.toInt (show FI99 110 5 = x116 from h117)
            have := congrArg Int32.toInt (show FI99 110 5 = x116 from h117)
            obtain ⟨rfl, FI234, rfl, hI235, f236, t239, t240⟩ := p232
            obtain ⟨x243, h244⟩ : ∃ y, FI234 110 5 = y := ⟨_, rfl⟩
            have h244l := congrArg Int32.toInt h244
            have := i_rng x243
            obtain ⟨x245, h246⟩ : ∃ y, FI234 110 8 = y := ⟨_, rfl⟩
            have h246l := congrArg Int32.toInt h246
            have := i_rng x245
            show hw sk base _ _ _ _ _ [] _ _
            refine hw_aloadn (aX4_readRange 48 rfl) rfl ?_
            refine hw_get (v := .ref (base + r12)) (aX4_readRange 49 rfl) wf_RX4_114 ha1l ha1s (by decide) (congrArg (fun r => va_rf (h_rf base r)) (show FR a1 3 = some r12 from h16)) ?_
            refine xw_iloadn (aX4_readRange 50 rfl) rfl ?_
            refine hw_aloadn (aX4_readRange 51 rfl) rfl ?_
            refine hw_get (v := .long (x175)) (aX4_readRange 52 rfl) wf_RX4_62 (c110 hS) (s110 hS) (by decide) (congrArg Value.long (show FL100 110 9 = x175 from h176)) ?_
            refine hv_last (k := (a2).toNatClampNeg) (aX4_readRange 53 rfl) lt27 hz20 (h_in rfl (by omega) (by omega)) rfl (fun FL247 u248 => ?_)
            refine hw_aloadn (aX4_readRange 54 rfl) rfl ?_
            refine hw_ic (v := (5 : Int32)) (aX4_readRange 55 rfl) (by decide) ?_
            refine hw_callV (Bs := [.int ((5 : Int32))]) (rest := []) (aX4_readRange 56 rfl) wc_RX4_83 (by decide) rfl wi_yX4_expect wv_yX4_expect (c110 hS) (s110 hS) rfl rfl rfl (Nat.le_of_ble_eq_true rfl) (Nat.le_of_ble_eq_true rfl) (k_expect2 (d := d) hS hF hI235 hR ((5 : Int32)) (by have := congrArg Int32.toInt (show FI234 110 7 = x113 from (gf_at f236 (c110 hS) (shd_f (by decide) (s110 hS)) rfl (h114))); have := congrArg Int32.toInt (show FI234 110 7 = x113 from (gf_at f236 (c110 hS) (shd_f (by decide) (s110 hS)) rfl (h114))); have := congrArg Int32.toInt (show FI234 111 4 = x4 from (gf_at f236 (c111 hS) (shd_f (by decide) (s111 hS)) rfl ((gf_at f102 (c111 hS) (shd_f (by decide) (s111 hS)) rfl ((gf_at f75 (c111 hS) (shd_f (by decide) (s111 hS)) rfl ((up_c u62 (ne_tag (s111 hS) ha1s (by decide)) (h5))))))))); omega) (by have := congrArg Int32.toInt (show FI234 110 5 = x243 from h244); have := congrArg Int32.toInt (show FI234 110 8 = x245 from h246); omega) (by have := congrArg Int32.toInt (show FI234 110 7 = x113 from (gf_at f236 (c110 hS) (shd_f (by decide) (s110 hS)) rfl (h114))); have := congrArg Int32.toInt (show FI234 111 4 = x4 from (gf_at f236 (c111 hS) (shd_f (by decide) (s111 hS)) rfl ((gf_at f102 (c111 hS) (shd_f (by decide) (s111 hS)) rfl ((gf_at f75 (c111 hS) (shd_f (by decide) (s111 hS)) rfl ((up_c u62 (ne_tag (s111 hS) ha1s (by decide)) (h5))))))))); have := congrArg Int32.toInt (show FI234 110 8 = x245 from h246); omega) (gK_mx (L := [(110, 5), (110, 6), (110, 7), (110, 8)]) (A := []) (T := [1010]) hS gg0 (gf_tr ex_rf (gf_tr ex_rf (gf_tr ex_rf (gf_t gf_rf u62 (shd_d (dyn_tag hS ha1s (by decide +kernel)) ha1s) (by decide)) f75 rfl rfl rfl) f102 rfl rfl rfl) f236 rfl rfl rfl) (by decide))) (fun v249 sv250 p251 => ?_)
            have := congrArg Int32.toInt (show FI234 111 4 = x4 from (gf_at f236 (c111 hS) (shd_f (by decide) (s111 hS)) rfl ((gf_at f102 (c111 hS) (shd_f (by decide) (s111 hS)) rfl ((gf_at f75 (c111 hS) (shd_f (by decide) (s111 hS)) rfl ((up_c u62 (ne_tag (s111 hS) ha1s (by decide)) (h5)))))))))
            have := congrArg Int32.toInt (show FI234 111 4 = x4 from (gf_at f236 (c111 hS) (shd_f (by decide) (s111 hS)) rfl ((gf_at f102 (c111 hS) (shd_f (by decide) (s111 hS)) rfl ((gf_at f75 (c111 hS) (shd_f (by decide) (s111 hS)) rfl ((up_c u62 (ne_tag (s111 hS) ha1s (by decide)) (h5)))))))))
            have := congrArg Int32.toInt (show FI234 110 7 = x113 from (gf_at f236 (c110 hS) (shd_f (by decide) (s110 hS)) rfl (h114)))
            have := congrArg Int32.toInt (show FI234 110 5 = x243 from h244)
            have := congrArg Int32.toInt (show FI234 110 5 = x243 from h244)
            obtain ⟨rfl, FI253, FL254, rfl, hI255, f256, f257, t260, t261, t262, t263, t264⟩ := p251
            clear t107 t108
            obtain ⟨x267, h268⟩ : ∃ y, FI253 110 7 = y := ⟨_, rfl⟩
            have h268l := congrArg Int32.toInt h268
            have b269 := gI_110_7 hI255; rw [h268] at b269
            obtain ⟨x270, h271⟩ : ∃ y, FI253 110 5 = y := ⟨_, rfl⟩
            have h271l := congrArg Int32.toInt h271
            have := i_rng x270
            obtain ⟨x272, h273⟩ : ∃ y, FI253 110 8 = y := ⟨_, rfl⟩
            have h273l := congrArg Int32.toInt h273
            have := i_rng x272
            show hw sk base _ _ _ _ _ [] _ _
            refine hw_aloadn (aX4_readRange 57 rfl) rfl ?_
            refine hw_bp (v := (58 : Int32)) (aX4_readRange 58 rfl) (by decide) ?_
            refine hw_callV (Bs := [.int ((58 : Int32))]) (rest := []) (aX4_readRange 59 rfl) wc_RX4_83 (by decide) rfl wi_yX4_expect wv_yX4_expect (c110 hS) (s110 hS) rfl rfl rfl (Nat.le_of_ble_eq_true rfl) (Nat.le_of_ble_eq_true rfl) (k_expect2 (d := d) hS hF hI255 hR ((58 : Int32)) (by have := congrArg Int32.toInt (show FI253 110 7 = x267 from h268); have := congrArg Int32.toInt (show FI253 110 7 = x267 from h268); have := congrArg Int32.toInt (show FI253 111 4 = x4 from (gf_at f256 (c111 hS) (shd_f (by decide) (s111 hS)) rfl ((gf_at f236 (c111 hS) (shd_f (by decide) (s111 hS)) rfl ((gf_at f102 (c111 hS) (shd_f (by decide) (s111 hS)) rfl ((gf_at f75 (c111 hS) (shd_f (by decide) (s111 hS)) rfl ((up_c u62 (ne_tag (s111 hS) ha1s (by decide)) (h5))))))))))); omega) (by have := congrArg Int32.toInt (show FI253 110 5 = x270 from h271); have := congrArg Int32.toInt (show FI253 110 8 = x272 from h273); omega) (by have := congrArg Int32.toInt (show FI253 110 7 = x267 from h268); have := congrArg Int32.toInt (show FI253 111 4 = x4 from (gf_at f256 (c111 hS) (shd_f (by decide) (s111 hS)) rfl ((gf_at f236 (c111 hS) (shd_f (by decide) (s111 hS)) rfl ((gf_at f102 (c111 hS) (shd_f (by decide) (s111 hS)) rfl ((gf_at f75 (c111 hS) (shd_f (by decide) (s111 hS)) rfl ((up_c u62 (ne_tag (s111 hS) ha1s (by decide)) (h5))))))))))); have := congrArg Int32.toInt (show FI253 110 8 = x272 from h273); omega) (gK_mx (L := [(110, 5), (110, 6), (110, 7), (110, 8)]) (A := []) (T := [1010]) hS gg0 (gf_tr ex_rf (gf_tr ex_rf (gf_tr ex_rf (gf_tr ex_rf (gf_t gf_rf u62 (shd_d (dyn_tag hS ha1s (by decide +kernel)) ha1s) (by decide)) f75 rfl rfl rfl) f102 rfl rfl rfl) f236 rfl rfl rfl) f256 rfl rfl rfl) (by decide))) (fun v274 sv275 p276 => ?_)
            have := congrArg Int32.toInt (show FI253 111 4 = x4 from (gf_at f256 (c111 hS) (shd_f (by decide) (s111 hS)) rfl ((gf_at f236 (c111 hS) (shd_f (by decide) (s111 hS)) rfl ((gf_at f102 (c111 hS) (shd_f (by decide) (s111 hS)) rfl ((gf_at f75 (c111 hS) (shd_f (by decide) (s111 hS)) rfl ((up_c u62 (ne_tag (s111 hS) ha1s (by decide)) (h5)))))))))))
            have := congrArg Int32.toInt (show FI253 111 4 = x4 from (gf_at f256 (c111 hS) (shd_f (by decide) (s111 hS)) rfl ((gf_at f236 (c111 hS) (shd_f (by decide) (s111 hS)) rfl ((gf_at f102 (c111 hS) (shd_f (by decide) (s111 hS)) rfl ((gf_at f75 (c111 hS) (shd_f (by decide) (s111 hS)) rfl ((up_c u62 (ne_tag (s111 hS) ha1s (by decide)) (h5)))))))))))
            have := congrArg Int32.toInt (show FI253 110 7 = x267 from h268)
            have := congrArg Int32.toInt (show FI253 110 5 = x270 from h271)
            have := congrArg Int32.toInt (show FI253 110 5 = x270 from h271)
            obtain ⟨rfl, FI278, FL279, rfl, hI280, f281, f282, t285, t286, t287, t288, t289⟩ := p276
            clear t261 t262
            obtain ⟨x292, h293⟩ : ∃ y, FI278 110 7 = y := ⟨_, rfl⟩
            have h293l := congrArg Int32.toInt h293
            have b294 := gI_110_7 hI280; rw [h293] at b294
            obtain ⟨x295, h296⟩ : ∃ y, FI278 110 5 = y := ⟨_, rfl⟩
            have h296l := congrArg Int32.toInt h296
            have := i_rng x295
            obtain ⟨x297, h298⟩ : ∃ y, FI278 110 8 = y := ⟨_, rfl⟩
            have h298l := congrArg Int32.toInt h298
            have := i_rng x297
            show hw sk base _ _ _ _ _ [] _ _
            refine xw_vret (aX4_readRange 60 rfl) rfl ?_
            exact ⟨rfl, FI278, FL279, rfl, hI280, (gf_tr ex_rf (gf_tr ex_rf (gf_tr ex_rf (gf_tr ex_rf (gf_tr ex_rf (gf_t gf_rf u62 (shd_d (dyn_tag hS ha1s (by decide +kernel)) ha1s) (by decide)) f75 rfl rfl rfl) f102 rfl rfl rfl) f236 rfl rfl rfl) f256 rfl rfl rfl) f281 rfl rfl rfl), (gf_tr ex_rf (gf_tr ex_rf (gf_t (gf_tr ex_rf (gf_tr ex_rf (gf_t gf_rf u67 (shd_d dy26 hz19) (by decide)) f76 rfl rfl rfl) f103 rfl rfl rfl) u248 (shd_d dy30 hz20) (by decide)) f257 rfl rfl rfl) f282 rfl rfl rfl), (by have := congrArg Int32.toInt (show FI278 110 7 = x292 from h293); omega), (by have := congrArg Int32.toInt (show FI278 110 5 = x295 from h296); have := congrArg Int32.toInt (show FI278 110 8 = x297 from h298); omega), (by have := congrArg Int32.toInt (show FI278 110 7 = x292 from h293); have := congrArg Int32.toInt (show FI278 110 8 = x297 from h298); omega), (by have := congrArg Int32.toInt (show FI278 110 7 = x292 from h293); omega), (by have := congrArg Int32.toInt (show FI278 110 5 = x295 from h296); omega)⟩
      · refine hw_aloadn (aX4_readRange 13 rfl) rfl ?_
        refine hw_bp (v := (6 : Int32)) (aX4_readRange 14 rfl) (by decide) ?_
        refine hw_callV (Bs := [.int ((6 : Int32))]) (rest := []) (aX4_readRange 15 rfl) wc_RX4_69 (by decide) rfl wi_yX4_refuse wv_yX4_refuse (c110 hS) (s110 hS) rfl rfl rfl (Nat.le_of_ble_eq_true rfl) (Nat.le_of_ble_eq_true rfl) (k_refuse2 (d := d + 1) hS hF hI hR ((6 : Int32)) (by have := congrArg Int32.toInt (show FI 110 7 = x1 from h2); have := congrArg Int32.toInt (show FI 110 7 = x1 from h2); have := congrArg Int32.toInt (show FI 111 4 = x4 from h5); omega) (by have := congrArg Int32.toInt (show FI 110 5 = x7 from h8); have := congrArg Int32.toInt (show FI 110 8 = x9 from h10); omega) (by have := congrArg Int32.toInt (show FI 110 7 = x1 from h2); have := congrArg Int32.toInt (show FI 111 4 = x4 from h5); have := congrArg Int32.toInt (show FI 110 8 = x9 from h10); omega) (by have := ((by decide : (6 : Int32).toInt = 6) : ((6 : Int32)).toInt = 6); have := ((by decide : (6 : Int32).toInt = 6) : ((6 : Int32)).toInt = 6); omega)) (fun v299 sv300 p301 => ?_)
        have := congrArg Int32.toInt (show FI 110 5 = x7 from h8)
        have := congrArg Int32.toInt (show FI 110 5 = x7 from h8)
        obtain ⟨rfl, FI303, rfl, hI304, f305, t308, t309⟩ := p301
        obtain ⟨x312, h313⟩ : ∃ y, FI303 110 5 = y := ⟨_, rfl⟩
        have h313l := congrArg Int32.toInt h313
        have := i_rng x312
        obtain ⟨x314, h315⟩ : ∃ y, FI303 110 8 = y := ⟨_, rfl⟩
        have h315l := congrArg Int32.toInt h315
        have := i_rng x314
        show hw sk base _ _ _ _ _ [] _ _
        refine xw_vret (aX4_readRange 16 rfl) rfl ?_
        exact ⟨rfl, FI303, FL, rfl, hI304, (gf_tr ex_rf gf_rf f305 rfl rfl rfl), gf_rf, (by have := congrArg Int32.toInt (show FI303 110 7 = x1 from (gf_at f305 (c110 hS) (shd_f (by decide) (s110 hS)) rfl (h2))); omega), (by have := congrArg Int32.toInt (show FI303 110 5 = x312 from h313); have := congrArg Int32.toInt (show FI303 110 8 = x314 from h315); omega), (by have := congrArg Int32.toInt (show FI303 110 7 = x1 from (gf_at f305 (c110 hS) (shd_f (by decide) (s110 hS)) rfl (h2))); have := congrArg Int32.toInt (show FI303 110 8 = x314 from h315); omega), (by have := congrArg Int32.toInt (show FI303 110 7 = x1 from (gf_at f305 (c110 hS) (shd_f (by decide) (s110 hS)) rfl (h2))); omega), (by have := congrArg Int32.toInt (show FI303 110 5 = x312 from h313); omega)⟩
  · refine hw_aloadn (aX4_readRange 4 rfl) rfl ?_
    refine hw_ic (v := (1 : Int32)) (aX4_readRange 5 rfl) (by decide) ?_
    refine hw_callV (Bs := [.int ((1 : Int32))]) (rest := []) (aX4_readRange 6 rfl) wc_RX4_69 (by decide) rfl wi_yX4_refuse wv_yX4_refuse (c110 hS) (s110 hS) rfl rfl rfl (Nat.le_of_ble_eq_true rfl) (Nat.le_of_ble_eq_true rfl) (k_refuse2 (d := d + 1) hS hF hI hR ((1 : Int32)) (by have := congrArg Int32.toInt (show FI 110 7 = x1 from h2); have := congrArg Int32.toInt (show FI 110 7 = x1 from h2); have := congrArg Int32.toInt (show FI 111 4 = x4 from h5); omega) (by have := congrArg Int32.toInt (show FI 110 5 = x7 from h8); have := congrArg Int32.toInt (show FI 110 8 = x9 from h10); omega) (by have := congrArg Int32.toInt (show FI 110 7 = x1 from h2); have := congrArg Int32.toInt (show FI 111 4 = x4 from h5); have := congrArg Int32.toInt (show FI 110 8 = x9 from h10); omega) (by have := ((by decide : (1 : Int32).toInt = 1) : ((1 : Int32)).toInt = 1); have := ((by decide : (1 : Int32).toInt = 1) : ((1 : Int32)).toInt = 1); omega)) (fun v316 sv317 p318 => ?_)
    have := congrArg Int32.toInt (show FI 110 5 = x7 from h8)
    have := congrArg Int32.toInt (show FI 110 5 = x7 from h8)
    obtain ⟨rfl, FI320, rfl, hI321, f322, t325, t326⟩ := p318
    obtain ⟨x329, h330⟩ : ∃ y, FI320 110 5 = y := ⟨_, rfl⟩
    have h330l := congrArg Int32.toInt h330
    have := i_rng x329
    obtain ⟨x331, h332⟩ : ∃ y, FI320 110 8 = y := ⟨_, rfl⟩
    have h332l := congrArg Int32.toInt h332
    have := i_rng x331
    show hw sk base _ _ _ _ _ [] _ _
    refine xw_vret (aX4_readRange 7 rfl) rfl ?_
    exact ⟨rfl, FI320, FL, rfl, hI321, (gf_tr ex_rf gf_rf f322 rfl rfl rfl), gf_rf, (by have := congrArg Int32.toInt (show FI320 110 7 = x1 from (gf_at f322 (c110 hS) (shd_f (by decide) (s110 hS)) rfl (h2))); omega), (by have := congrArg Int32.toInt (show FI320 110 5 = x329 from h330); have := congrArg Int32.toInt (show FI320 110 8 = x331 from h332); omega), (by have := congrArg Int32.toInt (show FI320 110 7 = x1 from (gf_at f322 (c110 hS) (shd_f (by decide) (s110 hS)) rfl (h2))); have := congrArg Int32.toInt (show FI320 110 8 = x331 from h332); omega), (by have := congrArg Int32.toInt (show FI320 110 7 = x1 from (gf_at f322 (c110 hS) (shd_f (by decide) (s110 hS)) rfl (h2))); omega), (by have := congrArg Int32.toInt (show FI320 110 5 = x329 from h330); omega)⟩
