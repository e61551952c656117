section
def nX4_readRange : Nat := 0xb15300b63a102a5300b6082a503e00b42a1c7200b42b4500b6062a08009d942f1c6f00b42b3e00b42a1600a0083300b42a5300b611102a3000b62a503e00b42a1c6f00b42b6c00b560041c2bb14500b606102a0a00a108101c09009b1cb14500b6042a09009f083300b42a
theorem bX4_readRange : cX4_readRange.data.toList.map UInt8.toNat = x_un nX4_readRange 107 := by decide +kernel
def iX4_readRange : List (Nat × Jvm.ClassFile.Instr × Nat) := [(0, .aload_n 0, 1), (1, .getfield 51, 3), (4, .iconst 5, 1), (5, .if_icmp .eq 9, 3), (8, .aload_n 0, 1), (9, .iconst 1, 1), (10, .invokevirtual 69, 3), (13, .return_, 1), (14, .iload_n 2, 1), (15, .ifCond .lt 9, 3), (18, .iload_n 2, 1), (19, .bipush 8, 2), (21, .if_icmp .lt 10, 3), (24, .aload_n 0, 1), (25, .bipush 6, 2), (27, .invokevirtual 69, 3), (30, .return_, 1), (31, .aload_n 1, 1), (32, .iload_n 2, 1), (33, .iconst 1, 1), (34, .iadd, 1), (35, .putfield 108, 3), (38, .aload_n 1, 1), (39, .getfield 111, 3), (42, .iload_n 2, 1), (43, .aload_n 0, 1), (44, .getfield 62, 3), (47, .lastore, 1), (48, .aload_n 0, 1), (49, .invokevirtual 48, 3), (52, .aload_n 0, 1), (53, .bipush 17, 2), (55, .invokevirtual 83, 3), (58, .aload_n 0, 1), (59, .getfield 51, 3), (62, .iconst 5, 1), (63, .if_icmp .ne 22, 3), (66, .aload_n 0, 1), (67, .getfield 62, 3), (70, .aload_n 1, 1), (71, .getfield 111, 3), (74, .iload_n 2, 1), (75, .laload, 1), (76, .lcmp, 1), (77, .ifCond .gt 8, 3), (80, .aload_n 0, 1), (81, .iconst 3, 1), (82, .invokevirtual 69, 3), (85, .aload_n 1, 1), (86, .getfield 114, 3), (89, .iload_n 2, 1), (90, .aload_n 0, 1), (91, .getfield 62, 3), (94, .lastore, 1), (95, .aload_n 0, 1), (96, .iconst 5, 1), (97, .invokevirtual 83, 3), (100, .aload_n 0, 1), (101, .bipush 58, 2), (103, .invokevirtual 83, 3), (106, .return_, 1)]
theorem dX4_readRange : x_il nX4_readRange 107 iX4_readRange = true := by decide +kernel
theorem aX4_readRange (k : Nat) {pc : Nat} {i : Jvm.ClassFile.Instr} {len : Nat} (hk : iX4_readRange[k]? = some (pc, i, len)) : x_at xMM 46 pc i len yX4_readRange 3 none := ⟨cX4_readRange, rfl, x_il_ok bX4_readRange dX4_readRange k hk⟩
set_option maxHeartbeats 4000000 in
set_option maxRecDepth 100000 in
theorem k_readRange {sk : xK} {base d n sl : Nat} {SH : Nat → Nat × Nat} {FI : Nat → Nat → Int32} {FL : Nat → Nat → Int64} {FR : Nat → Nat → Option Nat} (hS : h_S n SH) (hF : h_FR FR) (hI : g_I FI) (hR : g_R n SH FR) (a1 : Nat) {z1 : Nat} (ha1l : a1 < n) (ha1s : SH a1 = (10, z1)) (ha1o : own a1) (a2 : Int32) (g0 : 0 ≤ (FI 110 7).toInt ∧ (FI 110 7).toInt < (FI 111 4).toInt) (g1 : (FI 110 5).toInt = 0 ∨ (FI 110 8).toInt = 1) (g2 : (FI 110 7).toInt + 1 < (FI 111 4).toInt ∨ (FI 110 8).toInt ≤ 3) (gg0 : g_K FI) (gg1 : g_Vv SH FR a1) : hw sk base (d + 2) none 46 0 [(0, .ref (base + 110)), (1, .ref (base + a1)), (2, .int (a2))] [] (n, sl, SH, FI, FL, FR) (h_V (fun s => ∃ FI' FL', s = (n, sl, SH, FI', FL', FR) ∧ g_I FI' ∧ g_fr n (shd SH) [(110, 5), (110, 6), (110, 7), (110, 8)] [] [1010] FI FI' ∧ g_fr n (shd SH) [(110, 9)] [] [1101] FL FL' ∧ (0 ≤ (FI' 110 7).toInt ∧ (FI' 110 7).toInt < (FI 111 4).toInt) ∧ ((FI' 110 5).toInt = 0 ∨ (FI' 110 8).toInt = 1) ∧ ((FI' 110 7).toInt + 1 < (FI 111 4).toInt ∨ (FI' 110 8).toInt ≤ 3) ∧ ((FI 110 7).toInt ≤ (FI' 110 7).toInt) ∧ ((FI 110 5).toInt = 0 ∨ (FI' 110 5).toInt = (FI 110 5).toInt))) := by
  have rg_a2 := i_rng a2
  obtain ⟨x1, h2⟩ : ∃ y, FI 110 7 = y := ⟨_, rfl⟩
  have h2l := congrArg Int32.toInt h2
  have b3 := gI_110_7 hI; rw [h2] at b3
  obtain ⟨x4, h5⟩ : ∃ y, FI 111 4 = y := ⟨_, rfl⟩
  have h5l := congrArg Int32.toInt h5
  have b6 := gI_111_4 hI; rw [h5] at b6
  obtain ⟨x7, h8⟩ : ∃ y, FI 110 5 = y := ⟨_, rfl⟩
  have h8l := congrArg Int32.toInt h8
  have := i_rng x7
  obtain ⟨x9, h10⟩ : ∃ y, FI 110 8 = y := ⟨_, rfl⟩
  have h10l := congrArg Int32.toInt h10
  have := i_rng x9
  obtain ⟨⟨r11, h15, hz19⟩, ⟨r12, h16, hz20⟩, ⟨r13, h17, hz21⟩, ⟨r14, h18⟩⟩ := gg1
  obtain ⟨lt23, ow24, sh25⟩ := gR_get hR ha1l ha1o ha1s h15
  have dy26 := gR_dyn hR ha1l (dyn_tag hS ha1s (by decide +kernel)) h15
  obtain ⟨lt27, ow28, sh29⟩ := gR_get hR ha1l ha1o ha1s h16
  have dy30 := gR_dyn hR ha1l (dyn_tag hS ha1s (by decide +kernel)) h16
  obtain ⟨lt31, ow32, sh33⟩ := gR_get hR ha1l ha1o ha1s h17
  have dy34 := gR_dyn hR ha1l (dyn_tag hS ha1s (by decide +kernel)) h17
  obtain ⟨lt35, ow36, sh37⟩ := gR_get hR ha1l ha1o ha1s h18
  have dy38 := gR_dyn hR ha1l (dyn_tag hS ha1s (by decide +kernel)) h18
  refine hw_aloadn (aX4_readRange 0 rfl) rfl ?_
  refine hw_get (v := .int (x9)) (aX4_readRange 1 rfl) wf_RX4_51 (c110 hS) (s110 hS) (by decide) (congrArg Value.int (show FI 110 8 = x9 from h10)) ?_
  refine hw_ic (v := (5 : Int32)) (aX4_readRange 2 rfl) (by decide) ?_
  refine hw_iceq (tgt := 14) (aX4_readRange 3 rfl) (by decide) rfl (by decide : (5 : Int32).toInt = 5) (fun cd39 => ?_) (fun cd39 => ?_)
  · refine xw_iloadn (aX4_readRange 8 rfl) rfl ?_
    refine hw_iflt (tgt := 24) (aX4_readRange 9 rfl) (by decide) rfl (fun cd40 => ?_) (fun cd40 => ?_)
    · refine hw_aloadn (aX4_readRange 13 rfl) rfl ?_
      refine hw_bp (v := (6 : Int32)) (aX4_readRange 14 rfl) (by decide) ?_
      refine hw_callV (Bs := [.int ((6 : Int32))]) (rest := []) (aX4_readRange 15 rfl) wc_RX4_69 (by decide) rfl wi_yX4_refuse wv_yX4_refuse (c110 hS) (s110 hS) rfl rfl rfl (Nat.le_of_ble_eq_true rfl) (Nat.le_of_ble_eq_true rfl) (k_refuse2 (d := d + 1) hS hF hI hR ((6 : Int32)) (by have := congrArg Int32.toInt (show FI 110 7 = x1 from h2); have := congrArg Int32.toInt (show FI 110 7 = x1 from h2); have := congrArg Int32.toInt (show FI 111 4 = x4 from h5); omega) (by have := congrArg Int32.toInt (show FI 110 5 = x7 from h8); have := congrArg Int32.toInt (show FI 110 8 = x9 from h10); omega) (by have := congrArg Int32.toInt (show FI 110 7 = x1 from h2); have := congrArg Int32.toInt (show FI 111 4 = x4 from h5); have := congrArg Int32.toInt (show FI 110 8 = x9 from h10); omega) (by have := ((by decide : (6 : Int32).toInt = 6) : ((6 : Int32)).toInt = 6); have := ((by decide : (6 : Int32).toInt = 6) : ((6 : Int32)).toInt = 6); omega)) (fun v41 sv42 p43 => ?_)
      have := congrArg Int32.toInt (show FI 110 5 = x7 from h8)
      have := congrArg Int32.toInt (show FI 110 5 = x7 from h8)
      obtain ⟨rfl, FI45, rfl, hI46, f47, t50, t51⟩ := p43
      obtain ⟨x54, h55⟩ : ∃ y, FI45 110 5 = y := ⟨_, rfl⟩
      have h55l := congrArg Int32.toInt h55
      have := i_rng x54
      obtain ⟨x56, h57⟩ : ∃ y, FI45 110 8 = y := ⟨_, rfl⟩
      have h57l := congrArg Int32.toInt h57
      have := i_rng x56
      show hw sk base _ _ _ _ _ [] _ _
      refine xw_vret (aX4_readRange 16 rfl) rfl ?_
      exact ⟨rfl, FI45, FL, rfl, hI46, (gf_tr ex_rf gf_rf f47 rfl rfl rfl), gf_rf, (by have := congrArg Int32.toInt (show FI45 110 7 = x1 from (gf_at f47 (c110 hS) (shd_f (by decide) (s110 hS)) rfl (h2))); omega), (by have := congrArg Int32.toInt (show FI45 110 5 = x54 from h55); have := congrArg Int32.toInt (show FI45 110 8 = x56 from h57); omega), (by have := congrArg Int32.toInt (show FI45 110 7 = x1 from (gf_at f47 (c110 hS) (shd_f (by decide) (s110 hS)) rfl (h2))); have := congrArg Int32.toInt (show FI45 110 8 = x56 from h57); omega), (by have := congrArg Int32.toInt (show FI45 110 7 = x1 from (gf_at f47 (c110 hS) (shd_f (by decide) (s110 hS)) rfl (h2))); omega), (by have := congrArg Int32.toInt (show FI45 110 5 = x54 from h55); omega)⟩
    · refine xw_iloadn (aX4_readRange 10 rfl) rfl ?_
      refine hw_bp (v := (8 : Int32)) (aX4_readRange 11 rfl) (by decide) ?_
      refine hw_iclt (tgt := 31) (aX4_readRange 12 rfl) (by decide) rfl (by decide : (8 : Int32).toInt = 8) (fun cd58 => ?_) (fun cd58 => ?_)
      · refine hw_aloadn (aX4_readRange 17 rfl) rfl ?_
        refine xw_iloadn (aX4_readRange 18 rfl) rfl ?_
        refine hw_ic (v := (1 : Int32)) (aX4_readRange 19 rfl) (by decide) ?_
        refine xw_iadd (aX4_readRange 20 rfl) ?_
        refine hw_tie (A := ((a2).toInt) + (1)) (i_add rfl (by decide : (1 : Int32).toInt = 1) (by omega) (by omega)) (fun x59 e60 => ?_)
        refine hv_puti (aX4_readRange 21 rfl) wf_RX4_108 ha1l ha1s (by decide) rfl rfl (fun FI61 u62 => ?_)
        have hI63 : g_I FI61 := gU_F hI u62 (g_hi (dyn_tag hS ha1s (by decide +kernel)))
        refine hw_aloadn (aX4_readRange 22 rfl) rfl ?_
        refine hw_get (v := .ref (base + r11)) (aX4_readRange 23 rfl) wf_RX4_111 ha1l ha1s (by decide) (congrArg (fun r => va_rf (h_rf base r)) (show FR a1 2 = some r11 from h15)) ?_
        refine xw_iloadn (aX4_readRange 24 rfl) rfl ?_
        refine hw_aloadn (aX4_readRange 25 rfl) rfl ?_
        obtain ⟨x64, h65⟩ : ∃ y, FL 110 9 = y := ⟨_, rfl⟩
        have h65l := congrArg Int64.toInt h65
        have := l_rng x64
        refine hw_get (v := .long (x64)) (aX4_readRange 26 rfl) wf_RX4_62 (c110 hS) (s110 hS) (by decide) (congrArg Value.long (show FL 110 9 = x64 from h65)) ?_
        refine hv_last (k := (a2).toNatClampNeg) (aX4_readRange 27 rfl) lt23 hz19 (h_in rfl (by omega) (by omega)) rfl (fun FL66 u67 => ?_)
        have : (x7).toInt = 0 := by omega
        refine hw_aloadn (aX4_readRange 28 rfl) rfl ?_
        refine hw_callV (Bs := []) (rest := []) (aX4_readRange 29 rfl) wc_RX4_48 (by decide) rfl wi_yX4_take wv_yX4_take (c110 hS) (s110 hS) rfl rfl rfl (Nat.le_of_ble_eq_true rfl) (Nat.le_of_ble_eq_true rfl) (k_take2 (d := d + 1) hS hF hI63 hR (by have := congrArg Int32.toInt (show FI61 110 7 = x1 from (up_c u62 (ne_tag (s110 hS) ha1s (by decide)) (h2))); have := congrArg Int32.toInt (show FI61 110 7 = x1 from (up_c u62 (ne_tag (s110 hS) ha1s (by decide)) (h2))); have := congrArg Int32.toInt (show FI61 111 4 = x4 from (up_c u62 (ne_tag (s111 hS) ha1s (by decide)) (h5))); omega) (by have := congrArg Int32.toInt (show FI61 110 5 = x7 from (up_c u62 (ne_tag (s110 hS) ha1s (by decide)) (h8))); have := congrArg Int32.toInt (show FI61 110 8 = x9 from (up_c u62 (ne_tag (s110 hS) ha1s (by decide)) (h10))); omega) (by have := congrArg Int32.toInt (show FI61 110 7 = x1 from (up_c u62 (ne_tag (s110 hS) ha1s (by decide)) (h2))); have := congrArg Int32.toInt (show FI61 111 4 = x4 from (up_c u62 (ne_tag (s111 hS) ha1s (by decide)) (h5))); have := congrArg Int32.toInt (show FI61 110 8 = x9 from (up_c u62 (ne_tag (s110 hS) ha1s (by decide)) (h10))); omega) (gK_mx (L := [(110, 5), (110, 6), (110, 7), (110, 8)]) (A := []) (T := [1010]) hS gg0 (gf_t gf_rf u62 (shd_d (dyn_tag hS ha1s (by decide +kernel)) ha1s) (by decide)) (by decide))) (fun v68 sv69 p70 => ?_)
        have := congrArg Int32.toInt (show FI61 111 4 = x4 from (up_c u62 (ne_tag (s111 hS) ha1s (by decide)) (h5)))
        have := congrArg Int32.toInt (show FI61 111 4 = x4 from (up_c u62 (ne_tag (s111 hS) ha1s (by decide)) (h5)))
        have := congrArg Int32.toInt (show FI61 110 7 = x1 from (up_c u62 (ne_tag (s110 hS) ha1s (by decide)) (h2)))
        have := congrArg Int32.toInt (show FI61 110 5 = x7 from (up_c u62 (ne_tag (s110 hS) ha1s (by decide)) (h8)))
        have := congrArg Int32.toInt (show FI61 110 5 = x7 from (up_c u62 (ne_tag (s110 hS) ha1s (by decide)) (h8)))
        have := congrArg Int32.toInt (show FI61 110 5 = x7 from (up_c u62 (ne_tag (s110 hS) ha1s (by decide)) (h8)))
        have := congrArg Int32.toInt (show FI61 110 5 = x7 from (up_c u62 (ne_tag (s110 hS) ha1s (by decide)) (h8)))
        have := congrArg Int32.toInt (show FI61 110 7 = x1 from (up_c u62 (ne_tag (s110 hS) ha1s (by decide)) (h2)))
        have := congrArg Int32.toInt (show FI61 111 4 = x4 from (up_c u62 (ne_tag (s111 hS) ha1s (by decide)) (h5)))
        have := congrArg Int32.toInt (show FI61 110 7 = x1 from (up_c u62 (ne_tag (s110 hS) ha1s (by decide)) (h2)))
        have := congrArg Int32.toInt (show FI61 110 7 = x1 from (up_c u62 (ne_tag (s110 hS) ha1s (by decide)) (h2)))
        have := congrArg Int32.toInt (show FI61 110 5 = x7 from (up_c u62 (ne_tag (s110 hS) ha1s (by decide)) (h8)))
        have := congrArg Int32.toInt (show FI61 110 8 = x9 from (up_c u62 (ne_tag (s110 hS) ha1s (by decide)) (h10)))
        obtain ⟨rfl, FI72, FL73, rfl, hI74, f75, f76, t79, t80, t81, t82, t83, t84, t85, t86, t87⟩ := p70
        replace t85 := (t85.resolve_left (by omega)).resolve_left (by omega)
        clear t87
        obtain ⟨x90, h91⟩ : ∃ y, FI72 110 7 = y := ⟨_, rfl⟩
        have h91l := congrArg Int32.toInt h91
        have b92 := gI_110_7 hI74; rw [h91] at b92
        obtain ⟨x93, h94⟩ : ∃ y, FI72 110 8 = y := ⟨_, rfl⟩
        have h94l := congrArg Int32.toInt h94
        have := i_rng x93
        show hw sk base _ _ _ _ _ [] _ _
        refine hw_aloadn (aX4_readRange 30 rfl) rfl ?_
        refine hw_bp (v := (17 : Int32)) (aX4_readRange 31 rfl) (by decide) ?_
        refine hw_callV (Bs := [.int ((17 : Int32))]) (rest := []) (aX4_readRange 32 rfl) wc_RX4_83 (by decide) rfl wi_yX4_expect wv_yX4_expect (c110 hS) (s110 hS) rfl rfl rfl (Nat.le_of_ble_eq_true rfl) (Nat.le_of_ble_eq_true rfl) (k_expect2 (d := d) hS hF hI74 hR ((17 : Int32)) (by have := congrArg Int32.toInt (show FI72 110 7 = x90 from h91); have := congrArg Int32.toInt (show FI72 110 7 = x90 from h91); have := congrArg Int32.toInt (show FI72 111 4 = x4 from (gf_at f75 (c111 hS) (shd_f (by decide) (s111 hS)) rfl ((up_c u62 (ne_tag (s111 hS) ha1s (by decide)) (h5))))); omega) (by have := congrArg Int32.toInt (show FI72 110 5 = x7 from (gf_at f75 (c110 hS) (shd_f (by decide) (s110 hS)) rfl ((up_c u62 (ne_tag (s110 hS) ha1s (by decide)) (h8))))); have := congrArg Int32.toInt (show FI72 110 8 = x93 from h94); omega) (by have := congrArg Int32.toInt (show FI72 110 7 = x90 from h91); have := congrArg Int32.toInt (show FI72 111 4 = x4 from (gf_at f75 (c111 hS) (shd_f (by decide) (s111 hS)) rfl ((up_c u62 (ne_tag (s111 hS) ha1s (by decide)) (h5))))); have := congrArg Int32.toInt (show FI72 110 8 = x93 from h94); omega) (gK_mx (L := [(110, 5), (110, 6), (110, 7), (110, 8)]) (A := []) (T := [1010]) hS gg0 (gf_tr ex_rf (gf_t gf_rf u62 (shd_d (dyn_tag hS ha1s (by decide +kernel)) ha1s) (by decide)) f75 rfl rfl rfl) (by decide))) (fun v95 sv96 p97 => ?_)
        have := congrArg Int32.toInt (show FI72 111 4 = x4 from (gf_at f75 (c111 hS) (shd_f (by decide) (s111 hS)) rfl ((up_c u62 (ne_tag (s111 hS) ha1s (by decide)) (h5)))))
        have := congrArg Int32.toInt (show FI72 111 4 = x4 from (gf_at f75 (c111 hS) (shd_f (by decide) (s111 hS)) rfl ((up_c u62 (ne_tag (s111 hS) ha1s (by decide)) (h5)))))
        have := congrArg Int32.toInt (show FI72 110 7 = x90 from h91)
        have := congrArg Int32.toInt (show FI72 110 5 = x7 from (gf_at f75 (c110 hS) (shd_f (by decide) (s110 hS)) rfl ((up_c u62 (ne_tag (s110 hS) ha1s (by decide)) (h8)))))
        have := congrArg Int32.toInt (show FI72 110 5 = x7 from (gf_at f75 (c110 hS) (shd_f (by decide) (s110 hS)) rfl ((up_c u62 (ne_tag (s110 hS) ha1s (by decide)) (h8)))))
        obtain ⟨rfl, FI99, FL100, rfl, hI101, f102, f103, t106, t107, t108, t109, t110⟩ := p97
        clear t80 t81
        obtain ⟨x113, h114⟩ : ∃ y, FI99 110 7 = y := ⟨_, rfl⟩
        have h114l := congrArg Int32.toInt h114
        have b115 := gI_110_7 hI101; rw [h114] at b115
        obtain ⟨x116, h117⟩ : ∃ y, FI99 110 5 = y := ⟨_, rfl⟩
        have h117l := congrArg Int32.toInt h117
        have := i_rng x116
        obtain ⟨x118, h119⟩ : ∃ y, FI99 110 8 = y := ⟨_, rfl⟩
        have h119l := congrArg Int32.toInt h119
        have := i_rng x118
        show hw sk base _ _ _ _ _ [] _ _
        refine hw_aloadn (aX4_readRange 33 rfl) rfl ?_
        refine hw_get (v := .int (x118)) (aX4_readRange 34 rfl) wf_RX4_51 (c110 hS) (s110 hS) (by decide) (congrArg Value.int (show FI99 110 8 = x118 from h119)) ?_
        refine hw_ic (v := (5 : Int32)) (aX4_readRange 35 rfl) (by decide) ?_
        refine hw_icne (tgt := 85) (aX4_readRange 36 rfl) (by decide) rfl (by decide : (5 : Int32).toInt = 5) (fun cd120 => ?_) (fun cd120 => ?_)
        · refine hw_aloadn (aX4_readRange 48 rfl) rfl ?_
          refine hw_get (v := .ref (base + r12)) (aX4_readRange 49 rfl) wf_RX4_114 ha1l ha1s (by decide) (congrArg (fun r => va_rf (h_rf base r)) (show FR a1 3 = some r12 from h16)) ?_
          refine xw_iloadn (aX4_readRange 50 rfl) rfl ?_
          refine hw_aloadn (aX4_readRange 51 rfl) rfl ?_
          obtain ⟨x121, h122⟩ : ∃ y, FL100 110 9 = y := ⟨_, rfl⟩
          have h122l := congrArg Int64.toInt h122
          have := l_rng x121
          refine hw_get (v := .long (x121)) (aX4_readRange 52 rfl) wf_RX4_62 (c110 hS) (s110 hS) (by decide) (congrArg Value.long (show FL100 110 9 = x121 from h122)) ?_
          refine hv_last (k := (a2).toNatClampNeg) (aX4_readRange 53 rfl) lt27 hz20 (h_in rfl (by omega) (by omega)) rfl (fun FL123 u124 => ?_)
          refine hw_aloadn (aX4_readRange 54 rfl) rfl ?_
          refine hw_ic (v := (5 : Int32)) (aX4_readRange 55 rfl) (by decide) ?_
          refine hw_callV (Bs := [.int ((5 : Int32))]) (rest := []) (aX4_readRange 56 rfl) wc_RX4_83 (by decide) rfl wi_yX4_expect wv_yX4_expect (c110 hS) (s110 hS) rfl rfl rfl (Nat.le_of_ble_eq_true rfl) (Nat.le_of_ble_eq_true rfl) (k_expect2 (d := d) hS hF hI101 hR ((5 : Int32)) (by have := congrArg Int32.toInt (show FI99 110 7 = x113 from h114); have := congrArg Int32.toInt (show FI99 110 7 = x113 from h114); have := congrArg Int32.toInt (show FI99 111 4 = x4 from (gf_at f102 (c111 hS) (shd_f (by decide) (s111 hS)) rfl ((gf_at f75 (c111 hS) (shd_f (by decide) (s111 hS)) rfl ((up_c u62 (ne_tag (s111 hS) ha1s (by decide)) (h5))))))); omega) (by have := congrArg Int32.toInt (show FI99 110 5 = x116 from h117); have := congrArg Int32.toInt (show FI99 110 8 = x118 from h119); omega) (by have := congrArg Int32.toInt (show FI99 110 7 = x113 from h114); have := congrArg Int32.toInt (show FI99 111 4 = x4 from (gf_at f102 (c111 hS) (shd_f (by decide) (s111 hS)) rfl ((gf_at f75 (c111 hS) (shd_f (by decide) (s111 hS)) rfl ((up_c u62 (ne_tag (s111 hS) ha1s (by decide)) (h5))))))); have := congrArg Int32.toInt (show FI99 110 8 = x118 from h119); omega) (gK_mx (L := [(110, 5), (110, 6), (110, 7), (110, 8)]) (A := []) (T := [1010]) hS gg0 (gf_tr ex_rf (gf_tr ex_rf (gf_t gf_rf u62 (shd_d (dyn_tag hS ha1s (by decide +kernel)) ha1s) (by decide)) f75 rfl rfl rfl) f102 rfl rfl rfl) (by decide))) (fun v125 sv126 p127 => ?_)
          have := congrArg Int32.toInt (show FI99 111 4 = x4 from (gf_at f102 (c111 hS) (shd_f (by decide) (s111 hS)) rfl ((gf_at f75 (c111 hS) (shd_f (by decide) (s111 hS)) rfl ((up_c u62 (ne_tag (s111 hS) ha1s (by decide)) (h5)))))))
          have := congrArg Int32.toInt (show FI99 111 4 = x4 from (gf_at f102 (c111 hS) (shd_f (by decide) (s111 hS)) rfl ((gf_at f75 (c111 hS) (shd_f (by decide) (s111 hS)) rfl ((up_c u62 (ne_tag (s111 hS) ha1s (by decide)) (h5)))))))
          have := congrArg Int32.toInt (show FI99 110 7 = x113 from h114)
          have := congrArg Int32.toInt (show FI99 110 5 = x116 from h117)
          have := congrArg Int32.toInt (show FI99 110 5 = x116 from h117)
          obtain ⟨rfl, FI129, FL130, rfl, hI131, f132, f133, t136, t137, t138, t139, t140⟩ := p127
          clear t107 t108
          obtain ⟨x143, h144⟩ : ∃ y, FI129 110 7 = y := ⟨_, rfl⟩
          have h144l := congrArg Int32.toInt h144
          have b145 := gI_110_7 hI131; rw [h144] at b145
          obtain ⟨x146, h147⟩ : ∃ y, FI129 110 5 = y := ⟨_, rfl⟩
          have h147l := congrArg Int32.toInt h147
          have := i_rng x146
          obtain ⟨x148, h149⟩ : ∃ y, FI129 110 8 = y := ⟨_, rfl⟩
          have h149l := congrArg Int32.toInt h149
          have := i_rng x148
          show hw sk base _ _ _ _ _ [] _ _
          refine hw_aloadn (aX4_readRange 57 rfl) rfl ?_
          refine hw_bp (v := (58 : Int32)) (aX4_readRange 58 rfl) (by decide) ?_
          refine hw_callV (Bs := [.int ((58 : Int32))]) (rest := []) (aX4_readRange 59 rfl) wc_RX4_83 (by decide) rfl wi_yX4_expect wv_yX4_expect (c110 hS) (s110 hS) rfl rfl rfl (Nat.le_of_ble_eq_true rfl) (Nat.le_of_ble_eq_true rfl) (k_expect2 (d := d) hS hF hI131 hR ((58 : Int32)) (by have := congrArg Int32.toInt (show FI129 110 7 = x143 from h144); have := congrArg Int32.toInt (show FI129 110 7 = x143 from h144); have := congrArg Int32.toInt (show FI129 111 4 = x4 from (gf_at f132 (c111 hS) (shd_f (by decide) (s111 hS)) rfl ((gf_at f102 (c111 hS) (shd_f (by decide) (s111 hS)) rfl ((gf_at f75 (c111 hS) (shd_f (by decide) (s111 hS)) rfl ((up_c u62 (ne_tag (s111 hS) ha1s (by decide)) (h5))))))))); omega) (by have := congrArg Int32.toInt (show FI129 110 5 = x146 from h147); have := congrArg Int32.toInt (show FI129 110 8 = x148 from h149); omega) (by have := congrArg Int32.toInt (show FI129 110 7 = x143 from h144); have := congrArg Int32.toInt (show FI129 111 4 = x4 from (gf_at f132 (c111 hS) (shd_f (by decide) (s111 hS)) rfl ((gf_at f102 (c111 hS) (shd_f (by decide) (s111 hS)) rfl ((gf_at f75 (c111 hS) (shd_f (by decide) (s111 hS)) rfl ((up_c u62 (ne_tag (s111 hS) ha1s (by decide)) (h5))))))))); have := congrArg Int32.toInt (show FI129 110 8 = x148 from h149); omega) (gK_mx (L := [(110, 5), (110, 6), (110, 7), (110, 8)]) (A := []) (T := [1010]) hS gg0 (gf_tr ex_rf (gf_tr ex_rf (gf_tr ex_rf (gf_t gf_rf u62 (shd_d (dyn_tag hS ha1s (by decide +kernel)) ha1s) (by decide)) f75 rfl rfl rfl) f102 rfl rfl rfl) f132 rfl rfl rfl) (by decide))) (fun v150 sv151 p152 => ?_)
          have := congrArg Int32.toInt (show FI129 111 4 = x4 from (gf_at f132 (c111 hS) (shd_f (by decide) (s111 hS)) rfl ((gf_at f102 (c111 hS) (shd_f (by decide) (s111 hS)) rfl ((gf_at f75 (c111 hS) (shd_f (by decide) (s111 hS)) rfl ((up_c u62 (ne_tag (s111 hS) ha1s (by decide)) (h5)))))))))
          have := congrArg Int32.toInt (show FI129 111 4 = x4 from (gf_at f132 (c111 hS) (shd_f (by decide) (s111 hS)) rfl ((gf_at f102 (c111 hS) (shd_f (by decide) (s111 hS)) rfl ((gf_at f75 (c111 hS) (shd_f (by decide) (s111 hS)) rfl ((up_c u62 (ne_tag (s111 hS) ha1s (by decide)) (h5)))))))))
          have := congrArg Int32.toInt (show FI129 110 7 = x143 from h144)
          have := congrArg Int32.toInt (show FI129 110 5 = x146 from h147)
          have := congrArg Int32.toInt (show FI129 110 5 = x146 from h147)
          obtain ⟨rfl, FI154, FL155, rfl, hI156, f157, f158, t161, t162, t163, t164, t165⟩ := p152
          clear t137 t138
          obtain ⟨x168, h169⟩ : ∃ y, FI154 110 7 = y := ⟨_, rfl⟩
          have h169l := congrArg Int32.toInt h169
          have b170 := gI_110_7 hI156; rw [h169] at b170
          obtain ⟨x171, h172⟩ : ∃ y, FI154 110 5 = y := ⟨_, rfl⟩
          have h172l := congrArg Int32.toInt h172
          have := i_rng x171
          obtain ⟨x173, h174⟩ : ∃ y, FI154 110 8 = y := ⟨_, rfl⟩
          have h174l := congrArg Int32.toInt h174
          have := i_rng x173
          show hw sk base _ _ _ _ _ [] _ _
          refine xw_vret (aX4_readRange 60 rfl) rfl ?_
          exact ⟨rfl, FI154, FL155, rfl, hI156, (gf_tr ex_rf (gf_tr ex_rf (gf_tr ex_rf (gf_tr ex_rf (gf_t gf_rf u62 (shd_d (dyn_tag hS ha1s (by decide +kernel)) ha1s) (by decide)) f75 rfl rfl rfl) f102 rfl rfl rfl) f132 rfl rfl rfl) f157 rfl rfl rfl), (gf_tr ex_rf (gf_tr ex_rf (gf_t (gf_tr ex_rf (gf_tr ex_rf (gf_t gf_rf u67 (shd_d dy26 hz19) (by decide)) f76 rfl rfl rfl) f103 rfl rfl rfl) u124 (shd_d dy30 hz20) (by decide)) f133 rfl rfl rfl) f158 rfl rfl rfl), (by have := congrArg Int32.toInt (show FI154 110 7 = x168 from h169); omega), (by have := congrArg Int32.toInt (show FI154 110 5 = x171 from h172); have := congrArg Int32.toInt (show FI154 110 8 = x173 from h174); omega), (by have := congrArg Int32.toInt (show FI154 110 7 = x168 from h169); have := congrArg Int32.toInt (show FI154 110 8 = x173 from h174); omega), (by have := congrArg Int32.toInt (show FI154 110 7 = x168 from h169); omega), (by have := congrArg Int32.toInt (show FI154 110 5 = x171 from h172); omega)⟩
        · refine hw_aloadn (aX4_readRange 37 rfl) rfl ?_
          obtain ⟨x175, h176⟩ : ∃ y, FL100 110 9 = y := ⟨_, rfl⟩
          have h176l := congrArg Int64.toInt h176
          have := l_rng x175
          refine hw_get (v := .long (x175)) (aX4_readRange 38 rfl) wf_RX4_62 (c110 hS) (s110 hS) (by decide) (congrArg Value.long (show FL100 110 9 = x175 from h176)) ?_
          refine hw_aloadn (aX4_readRange 39 rfl) rfl ?_
          refine hw_get (v := .ref (base + r11)) (aX4_readRange 40 rfl) wf_RX4_111 ha1l ha1s (by decide) (congrArg (fun r => va_rf (h_rf base r)) (show FR a1 2 = some r11 from h15)) ?_
          refine xw_iloadn (aX4_readRange 41 rfl) rfl ?_
          refine hw_lald (v := x64) (aX4_readRange 42 rfl) lt23 hz19 (h_in rfl (by omega) (by omega)) (show FL100 r11 (a2).toNatClampNeg = x64 from (gf_as hS f103 lt23 hz19 (shd_d dy26 hz19) (by decide +kernel) ((gf_as hS f76 lt23 hz19 (shd_d dy26 hz19) (by decide +kernel) (up_eq u67))))) ?_
          refine hw_lcgt (tgt := 85) (aX4_readRange 43 rfl) (aX4_readRange 44 rfl) (by decide) rfl rfl (fun cd177 => ?_) (fun cd177 => ?_)
          · refine hw_aloadn (aX4_readRange 48 rfl) rfl ?_
            refine hw_get (v := .ref (base + r12)) (aX4_readRange 49 rfl) wf_RX4_114 ha1l ha1s (by decide) (congrArg (fun r => va_rf (h_rf base r)) (show FR a1 3 = some r12 from h16)) ?_
            refine xw_iloadn (aX4_readRange 50 rfl) rfl ?_
            refine hw_aloadn (aX4_readRange 51 rfl) rfl ?_
            refine hw_get (v := .long (x175)) (aX4_readRange 52 rfl) wf_RX4_62 (c110 hS) (s110 hS) (by decide) (congrArg Value.long (show FL100 110 9 = x175 from h176)) ?_
            refine hv_last (k := (a2).toNatClampNeg) (aX4_readRange 53 rfl) lt27 hz20 (h_in rfl (by omega) (by omega)) rfl (fun FL178 u179 => ?_)
            refine hw_aloadn (aX4_readRange 54 rfl) rfl ?_
            refine hw_ic (v := (5 : Int32)) (aX4_readRange 55 rfl) (by decide) ?_
            refine hw_callV (Bs := [.int ((5 : Int32))]) (rest := []) (aX4_readRange 56 rfl) wc_RX4_83 (by decide) rfl wi_yX4_expect wv_yX4_expect (c110 hS) (s110 hS) rfl rfl rfl (Nat.le_of_ble_eq_true rfl) (Nat.le_of_ble_eq_true rfl) (k_expect2 (d := d) hS hF hI101 hR ((5 : Int32)) (by have := congrArg Int32.toInt (show FI99 110 7 = x113 from h114); have := congrArg Int32.toInt (show FI99 110 7 = x113 from h114); have := congrArg Int32.toInt (show FI99 111 4 = x4 from (gf_at f102 (c111 hS) (shd_f (by decide) (s111 hS)) rfl ((gf_at f75 (c111 hS) (shd_f (by decide) (s111 hS)) rfl ((up_c u62 (ne_tag (s111 hS) ha1s (by decide)) (h5))))))); omega) (by have := congrArg Int32.toInt (show FI99 110 5 = x116 from h117); have := congrArg Int32.toInt (show FI99 110 8 = x118 from h119); omega) (by have := congrArg Int32.toInt (show FI99 110 7 = x113 from h114); have := congrArg Int32.toInt (show FI99 111 4 = x4 from (gf_at f102 (c111 hS) (shd_f (by decide) (s111 hS)) rfl ((gf_at f75 (c111 hS) (shd_f (by decide) (s111 hS)) rfl ((up_c u62 (ne_tag (s111 hS) ha1s (by decide)) (h5))))))); have := congrArg Int32.toInt (show FI99 110 8 = x118 from h119); omega) (gK_mx (L := [(110, 5), (110, 6), (110, 7), (110, 8)]) (A := []) (T := [1010]) hS gg0 (gf_tr ex_rf (gf_tr ex_rf (gf_t gf_rf u62 (shd_d (dyn_tag hS ha1s (by decide +kernel)) ha1s) (by decide)) f75 rfl rfl rfl) f102 rfl rfl rfl) (by decide))) (fun v180 sv181 p182 => ?_)
            have := congrArg Int32.toInt (show FI99 111 4 = x4 from (gf_at f102 (c111 hS) (shd_f (by decide) (s111 hS)) rfl ((gf_at f75 (c111 hS) (shd_f (by decide) (s111 hS)) rfl ((up_c u62 (ne_tag (s111 hS) ha1s (by decide)) (h5)))))))
            have := congrArg Int32.toInt (show FI99 111 4 = x4 from (gf_at f102 (c111 hS) (shd_f (by decide) (s111 hS)) rfl ((gf_at f75 (c111 hS) (shd_f (by decide) (s111 hS)) rfl ((up_c u62 (ne_tag (s111 hS) ha1s (by decide)) (h5)))))))
            have := congrArg Int32.toInt (show FI99 110 7 = x113 from h114)
            have := congrArg Int32.toInt (show FI99 110 5 = x116 from h117)
            have := congrArg Int32.toInt (show FI99 110 5 = x116 from h117)
            obtain ⟨rfl, FI184, FL185, rfl, hI186, f187, f188, t191, t192, t193, t194, t195⟩ := p182
            clear t107 t108
            obtain ⟨x198, h199⟩ : ∃ y, FI184 110 7 = y := ⟨_, rfl⟩
            have h199l := congrArg Int32.toInt h199
            have b200 := gI_110_7 hI186; rw [h199] at b200
            obtain ⟨x201, h202⟩ : ∃ y, FI184 110 5 = y := ⟨_, rfl⟩
            have h202l := congrArg Int32.toInt h202
            have := i_rng x201
            obtain ⟨x203, h204⟩ : ∃ y, FI184 110 8 = y := ⟨_, rfl⟩
            have h204l := congrArg Int32.toInt h204
            have := i_rng x203
            show hw sk base _ _ _ _ _ [] _ _
            refine hw_aloadn (aX4_readRange 57 rfl) rfl ?_
            refine hw_bp (v := (58 : Int32)) (aX4_readRange 58 rfl) (by decide) ?_
            refine hw_callV (Bs := [.int ((58 : Int32))]) (rest := []) (aX4_readRange 59 rfl) wc_RX4_83 (by decide) rfl wi_yX4_expect wv_yX4_expect (c110 hS) (s110 hS) rfl rfl rfl (Nat.le_of_ble_eq_true rfl) (Nat.le_of_ble_eq_true rfl) (k_expect2 (d := d) hS hF hI186 hR ((58 : Int32)) (by have := congrArg Int32.toInt (show FI184 110 7 = x198 from h199); have := congrArg Int32.toInt (show FI184 110 7 = x198 from h199); have := congrArg Int32.toInt (show FI184 111 4 = x4 from (gf_at f187 (c111 hS) (shd_f (by decide) (s111 hS)) rfl ((gf_at f102 (c111 hS) (shd_f (by decide) (s111 hS)) rfl ((gf_at f75 (c111 hS) (shd_f (by decide) (s111 hS)) rfl ((up_c u62 (ne_tag (s111 hS) ha1s (by decide)) (h5))))))))); omega) (by have := congrArg Int32.toInt (show FI184 110 5 = x201 from h202); have := congrArg Int32.toInt (show FI184 110 8 = x203 from h204); omega) (by have := congrArg Int32.toInt (show FI184 110 7 = x198 from h199); have := congrArg Int32.toInt (show FI184 111 4 = x4 from (gf_at f187 (c111 hS) (shd_f (by decide) (s111 hS)) rfl ((gf_at f102 (c111 hS) (shd_f (by decide) (s111 hS)) rfl ((gf_at f75 (c111 hS) (shd_f (by decide) (s111 hS)) rfl ((up_c u62 (ne_tag (s111 hS) ha1s (by decide)) (h5))))))))); have := congrArg Int32.toInt (show FI184 110 8 = x203 from h204); omega) (gK_mx (L := [(110, 5), (110, 6), (110, 7), (110, 8)]) (A := []) (T := [1010]) hS gg0 (gf_tr ex_rf (gf_tr ex_rf (gf_tr ex_rf (gf_t gf_rf u62 (shd_d (dyn_tag hS ha1s (by decide +kernel)) ha1s) (by decide)) f75 rfl rfl rfl) f102 rfl rfl rfl) f187 rfl rfl rfl) (by decide))) (fun v205 sv206 p207 => ?_)
            have := congrArg Int32.toInt (show FI184 111 4 = x4 from (gf_at f187 (c111 hS) (shd_f (by decide) (s111 hS)) rfl ((gf_at f102 (c111 hS) (shd_f (by decide) (s111 hS)) rfl ((gf_at f75 (c111 hS) (shd_f (by decide) (s111 hS)) rfl ((up_c u62 (ne_tag (s111 hS) ha1s (by decide)) (h5)))))))))
            have := congrArg Int32.toInt (show FI184 111 4 = x4 from (gf_at f187 (c111 hS) (shd_f (by decide) (s111 hS)) rfl ((gf_at f102 (c111 hS) (shd_f (by decide) (s111 hS)) rfl ((gf_at f75 (c111 hS) (shd_f (by decide) (s111 hS)) rfl ((up_c u62 (ne_tag (s111 hS) ha1s (by decide)) (h5)))))))))
            have := congrArg Int32.toInt (show FI184 110 7 = x198 from h199)
            have := congrArg Int32.toInt (show FI184 110 5 = x201 from h202)
            have := congrArg Int32.toInt (show FI184 110 5 = x201 from h202)
            obtain ⟨rfl, FI209, FL210, rfl, hI211, f212, f213, t216, t217, t218, t219, t220⟩ := p207
            clear t192 t193
            obtain ⟨x223, h224⟩ : ∃ y, FI209 110 7 = y := ⟨_, rfl⟩
            have h224l := congrArg Int32.toInt h224
            have b225 := gI_110_7 hI211; rw [h224] at b225
            obtain ⟨x226, h227⟩ : ∃ y, FI209 110 5 = y := ⟨_, rfl⟩
            have h227l := congrArg Int32.toInt h227
            have := i_rng x226
            obtain ⟨x228, h229⟩ : ∃ y, FI209 110 8 = y := ⟨_, rfl⟩
            have h229l := congrArg Int32.toInt h229
            have := i_rng x228
            show hw sk base _ _ _ _ _ [] _ _
            refine xw_vret (aX4_readRange 60 rfl) rfl ?_
            exact ⟨rfl, FI209, FL210, rfl, hI211, (gf_tr ex_rf (gf_tr ex_rf (gf_tr ex_rf (gf_tr ex_rf (gf_t gf_rf u62 (shd_d (dyn_tag hS ha1s (by decide +kernel)) ha1s) (by decide)) f75 rfl rfl rfl) f102 rfl rfl rfl) f187 rfl rfl rfl) f212 rfl rfl rfl), (gf_tr ex_rf (gf_tr ex_rf (gf_t (gf_tr ex_rf (gf_tr ex_rf (gf_t gf_rf u67 (shd_d dy26 hz19) (by decide)) f76 rfl rfl rfl) f103 rfl rfl rfl) u179 (shd_d dy30 hz20) (by decide)) f188 rfl rfl rfl) f213 rfl rfl rfl), (by have := congrArg Int32.toInt (show FI209 110 7 = x223 from h224); omega), (by have := congrArg Int32.toInt (show FI209 110 5 = x226 from h227); have := congrArg Int32.toInt (show FI209 110 8 = x228 from h229); omega), (by have := congrArg Int32.toInt (show FI209 110 7 = x223 from h224); have := congrArg Int32.toInt (show FI209 110 8 = x228 from h229); omega), (by have := congrArg Int32.toInt (show FI209 110 7 = x223 from h224); omega), (by have := congrArg Int32.toInt (show FI209 110 5 = x226 from h227); omega)⟩
          · refine hw_aloadn (aX4_readRange 45 rfl) rfl ?_
            refine hw_ic (v := (3 : Int32)) (aX4_readRange 46 rfl) (by decide) ?_
            refine hw_callV (Bs := [.int ((3 : Int32))]) (rest := []) (aX4_readRange 47 rfl) wc_RX4_69 (by decide) rfl wi_yX4_refuse wv_yX4_refuse (c110 hS) (s110 hS) rfl rfl rfl (Nat.le_of_ble_eq_true rfl) (Nat.le_of_ble_eq_true rfl) (k_refuse2 (d := d + 1) hS hF hI101 hR ((3 : Int32)) (by have := congrArg Int32.toInt (show FI99 110 7 = x113 from h114); have := congrArg Int32.toInt (show FI99 110 7 = x113 from h114); have := congrArg Int32.toInt (show FI99 111 4 = x4 from (gf_at f102 (c111 hS) (shd_f (by decide) (s111 hS)) rfl ((gf_at f75 (c111 hS) (shd_f (by decide) (s111 hS)) rfl ((up_c u62 (ne_tag (s111 hS) ha1s (by decide)) (h5))))))); omega) (by have := congrArg Int32.toInt (show FI99 110 5 = x116 from h117); have := congrArg Int32.toInt (show FI99 110 8 = x118 from h119); omega) (by have := congrArg Int32.toInt (show FI99 110 7 = x113 from h114); have := congrArg Int32.toInt (show FI99 111 4 = x4 from (gf_at f102 (c111 hS) (shd_f (by decide) (s111 hS)) rfl ((gf_at f75 (c111 hS) (shd_f (by decide) (s111 hS)) rfl ((up_c u62 (ne_tag (s111 hS) ha1s (by decide)) (h5))))))); have := congrArg Int32.toInt (show FI99 110 8 = x118 from h119); omega) (by have := ((by decide : (3 : Int32).toInt = 3) : ((3 : Int32)).toInt = 3); have := ((by decide : (3 : Int32).toInt = 3) : ((3 : Int32)).toInt = 3); omega)) (fun v230 sv231 p232 => ?_)
            have := congrArg Int32.toInt (show FI99 110 5 = x116 from h117)
            have := congrArg Int32.toInt (show FI99 110 5 = x116 from h117)
            obtain ⟨rfl, FI234, rfl, hI235, f236, t239, t240⟩ := p232
            obtain ⟨x243, h244⟩ : ∃ y, FI234 110 5 = y := ⟨_, rfl⟩
            have h244l := congrArg Int32.toInt h244
            have := i_rng x243
            obtain ⟨x245, h246⟩ : ∃ y, FI234 110 8 = y := ⟨_, rfl⟩
            have h246l := congrArg Int32.toInt h246
            have := i_rng x245
            show hw sk base _ _ _ _ _ [] _ _
            refine hw_aloadn (aX4_readRange 48 rfl) rfl ?_
            refine hw_get (v := .ref (base + r12)) (aX4_readRange 49 rfl) wf_RX4_114 ha1l ha1s (by decide) (congrArg (fun r => va_rf (h_rf base r)) (show FR a1 3 = some r12 from h16)) ?_
            refine xw_iloadn (aX4_readRange 50 rfl) rfl ?_
            refine hw_aloadn (aX4_readRange 51 rfl) rfl ?_
            refine hw_get (v := .long (x175)) (aX4_readRange 52 rfl) wf_RX4_62 (c110 hS) (s110 hS) (by decide) (congrArg Value.long (show FL100 110 9 = x175 from h176)) ?_
            refine hv_last (k := (a2).toNatClampNeg) (aX4_readRange 53 rfl) lt27 hz20 (h_in rfl (by omega) (by omega)) rfl (fun FL247 u248 => ?_)
            refine hw_aloadn (aX4_readRange 54 rfl) rfl ?_
            refine hw_ic (v := (5 : Int32)) (aX4_readRange 55 rfl) (by decide) ?_
            refine hw_callV (Bs := [.int ((5 : Int32))]) (rest := []) (aX4_readRange 56 rfl) wc_RX4_83 (by decide) rfl wi_yX4_expect wv_yX4_expect (c110 hS) (s110 hS) rfl rfl rfl (Nat.le_of_ble_eq_true rfl) (Nat.le_of_ble_eq_true rfl) (k_expect2 (d := d) hS hF hI235 hR ((5 : Int32)) (by have := congrArg Int32.toInt (show FI234 110 7 = x113 from (gf_at f236 (c110 hS) (shd_f (by decide) (s110 hS)) rfl (h114))); have := congrArg Int32.toInt (show FI234 110 7 = x113 from (gf_at f236 (c110 hS) (shd_f (by decide) (s110 hS)) rfl (h114))); have := congrArg Int32.toInt (show FI234 111 4 = x4 from (gf_at f236 (c111 hS) (shd_f (by decide) (s111 hS)) rfl ((gf_at f102 (c111 hS) (shd_f (by decide) (s111 hS)) rfl ((gf_at f75 (c111 hS) (shd_f (by decide) (s111 hS)) rfl ((up_c u62 (ne_tag (s111 hS) ha1s (by decide)) (h5))))))))); omega) (by have := congrArg Int32.toInt (show FI234 110 5 = x243 from h244); have := congrArg Int32.toInt (show FI234 110 8 = x245 from h246); omega) (by have := congrArg Int32.toInt (show FI234 110 7 = x113 from (gf_at f236 (c110 hS) (shd_f (by decide) (s110 hS)) rfl (h114))); have := congrArg Int32.toInt (show FI234 111 4 = x4 from (gf_at f236 (c111 hS) (shd_f (by decide) (s111 hS)) rfl ((gf_at f102 (c111 hS) (shd_f (by decide) (s111 hS)) rfl ((gf_at f75 (c111 hS) (shd_f (by decide) (s111 hS)) rfl ((up_c u62 (ne_tag (s111 hS) ha1s (by decide)) (h5))))))))); have := congrArg Int32.toInt (show FI234 110 8 = x245 from h246); omega) (gK_mx (L := [(110, 5), (110, 6), (110, 7), (110, 8)]) (A := []) (T := [1010]) hS gg0 (gf_tr ex_rf (gf_tr ex_rf (gf_tr ex_rf (gf_t gf_rf u62 (shd_d (dyn_tag hS ha1s (by decide +kernel)) ha1s) (by decide)) f75 rfl rfl rfl) f102 rfl rfl rfl) f236 rfl rfl rfl) (by decide))) (fun v249 sv250 p251 => ?_)
            have := congrArg Int32.toInt (show FI234 111 4 = x4 from (gf_at f236 (c111 hS) (shd_f (by decide) (s111 hS)) rfl ((gf_at f102 (c111 hS) (shd_f (by decide) (s111 hS)) rfl ((gf_at f75 (c111 hS) (shd_f (by decide) (s111 hS)) rfl ((up_c u62 (ne_tag (s111 hS) ha1s (by decide)) (h5)))))))))
            have := congrArg Int32.toInt (show FI234 111 4 = x4 from (gf_at f236 (c111 hS) (shd_f (by decide) (s111 hS)) rfl ((gf_at f102 (c111 hS) (shd_f (by decide) (s111 hS)) rfl ((gf_at f75 (c111 hS) (shd_f (by decide) (s111 hS)) rfl ((up_c u62 (ne_tag (s111 hS) ha1s (by decide)) (h5)))))))))
            have := congrArg Int32.toInt (show FI234 110 7 = x113 from (gf_at f236 (c110 hS) (shd_f (by decide) (s110 hS)) rfl (h114)))
            have := congrArg Int32.toInt (show FI234 110 5 = x243 from h244)
            have := congrArg Int32.toInt (show FI234 110 5 = x243 from h244)
            obtain ⟨rfl, FI253, FL254, rfl, hI255, f256, f257, t260, t261, t262, t263, t264⟩ := p251
            clear t107 t108
            obtain ⟨x267, h268⟩ : ∃ y, FI253 110 7 = y := ⟨_, rfl⟩
            have h268l := congrArg Int32.toInt h268
            have b269 := gI_110_7 hI255; rw [h268] at b269
            obtain ⟨x270, h271⟩ : ∃ y, FI253 110 5 = y := ⟨_, rfl⟩
            have h271l := congrArg Int32.toInt h271
            have := i_rng x270
            obtain ⟨x272, h273⟩ : ∃ y, FI253 110 8 = y := ⟨_, rfl⟩
            have h273l := congrArg Int32.toInt h273
            have := i_rng x272
            show hw sk base _ _ _ _ _ [] _ _
            refine hw_aloadn (aX4_readRange 57 rfl) rfl ?_
            refine hw_bp (v := (58 : Int32)) (aX4_readRange 58 rfl) (by decide) ?_
            refine hw_callV (Bs := [.int ((58 : Int32))]) (rest := []) (aX4_readRange 59 rfl) wc_RX4_83 (by decide) rfl wi_yX4_expect wv_yX4_expect (c110 hS) (s110 hS) rfl rfl rfl (Nat.le_of_ble_eq_true rfl) (Nat.le_of_ble_eq_true rfl) (k_expect2 (d := d) hS hF hI255 hR ((58 : Int32)) (by have := congrArg Int32.toInt (show FI253 110 7 = x267 from h268); have := congrArg Int32.toInt (show FI253 110 7 = x267 from h268); have := congrArg Int32.toInt (show FI253 111 4 = x4 from (gf_at f256 (c111 hS) (shd_f (by decide) (s111 hS)) rfl ((gf_at f236 (c111 hS) (shd_f (by decide) (s111 hS)) rfl ((gf_at f102 (c111 hS) (shd_f (by decide) (s111 hS)) rfl ((gf_at f75 (c111 hS) (shd_f (by decide) (s111 hS)) rfl ((up_c u62 (ne_tag (s111 hS) ha1s (by decide)) (h5))))))))))); omega) (by have := congrArg Int32.toInt (show FI253 110 5 = x270 from h271); have := congrArg Int32.toInt (show FI253 110 8 = x272 from h273); omega) (by have := congrArg Int32.toInt (show FI253 110 7 = x267 from h268); have := congrArg Int32.toInt (show FI253 111 4 = x4 from (gf_at f256 (c111 hS) (shd_f (by decide) (s111 hS)) rfl ((gf_at f236 (c111 hS) (shd_f (by decide) (s111 hS)) rfl ((gf_at f102 (c111 hS) (shd_f (by decide) (s111 hS)) rfl ((gf_at f75 (c111 hS) (shd_f (by decide) (s111 hS)) rfl ((up_c u62 (ne_tag (s111 hS) ha1s (by decide)) (h5))))))))))); have := congrArg Int32.toInt (show FI253 110 8 = x272 from h273); omega) (gK_mx (L := [(110, 5), (110, 6), (110, 7), (110, 8)]) (A := []) (T := [1010]) hS gg0 (gf_tr ex_rf (gf_tr ex_rf (gf_tr ex_rf (gf_tr ex_rf (gf_t gf_rf u62 (shd_d (dyn_tag hS ha1s (by decide +kernel)) ha1s) (by decide)) f75 rfl rfl rfl) f102 rfl rfl rfl) f236 rfl rfl rfl) f256 rfl rfl rfl) (by decide))) (fun v274 sv275 p276 => ?_)
            have := congrArg Int32.toInt (show FI253 111 4 = x4 from (gf_at f256 (c111 hS) (shd_f (by decide) (s111 hS)) rfl ((gf_at f236 (c111 hS) (shd_f (by decide) (s111 hS)) rfl ((gf_at f102 (c111 hS) (shd_f (by decide) (s111 hS)) rfl ((gf_at f75 (c111 hS) (shd_f (by decide) (s111 hS)) rfl ((up_c u62 (ne_tag (s111 hS) ha1s (by decide)) (h5)))))))))))
            have := congrArg Int32.toInt (show FI253 111 4 = x4 from (gf_at f256 (c111 hS) (shd_f (by decide) (s111 hS)) rfl ((gf_at f236 (c111 hS) (shd_f (by decide) (s111 hS)) rfl ((gf_at f102 (c111 hS) (shd_f (by decide) (s111 hS)) rfl ((gf_at f75 (c111 hS) (shd_f (by decide) (s111 hS)) rfl ((up_c u62 (ne_tag (s111 hS) ha1s (by decide)) (h5)))))))))))
            have := congrArg Int32.toInt (show FI253 110 7 = x267 from h268)
            have := congrArg Int32.toInt (show FI253 110 5 = x270 from h271)
            have := congrArg Int32.toInt (show FI253 110 5 = x270 from h271)
            obtain ⟨rfl, FI278, FL279, rfl, hI280, f281, f282, t285, t286, t287, t288, t289⟩ := p276
            clear t261 t262
            obtain ⟨x292, h293⟩ : ∃ y, FI278 110 7 = y := ⟨_, rfl⟩
            have h293l := congrArg Int32.toInt h293
            have b294 := gI_110_7 hI280; rw [h293] at b294
            obtain ⟨x295, h296⟩ : ∃ y, FI278 110 5 = y := ⟨_, rfl⟩
            have h296l := congrArg Int32.toInt h296
            have := i_rng x295
            obtain ⟨x297, h298⟩ : ∃ y, FI278 110 8 = y := ⟨_, rfl⟩
            have h298l := congrArg Int32.toInt h298
            have := i_rng x297
            show hw sk base _ _ _ _ _ [] _ _
            refine xw_vret (aX4_readRange 60 rfl) rfl ?_
            exact ⟨rfl, FI278, FL279, rfl, hI280, (gf_tr ex_rf (gf_tr ex_rf (gf_tr ex_rf (gf_tr ex_rf (gf_tr ex_rf (gf_t gf_rf u62 (shd_d (dyn_tag hS ha1s (by decide +kernel)) ha1s) (by decide)) f75 rfl rfl rfl) f102 rfl rfl rfl) f236 rfl rfl rfl) f256 rfl rfl rfl) f281 rfl rfl rfl), (gf_tr ex_rf (gf_tr ex_rf (gf_t (gf_tr ex_rf (gf_tr ex_rf (gf_t gf_rf u67 (shd_d dy26 hz19) (by decide)) f76 rfl rfl rfl) f103 rfl rfl rfl) u248 (shd_d dy30 hz20) (by decide)) f257 rfl rfl rfl) f282 rfl rfl rfl), (by have := congrArg Int32.toInt (show FI278 110 7 = x292 from h293); omega), (by have := congrArg Int32.toInt (show FI278 110 5 = x295 from h296); have := congrArg Int32.toInt (show FI278 110 8 = x297 from h298); omega), (by have := congrArg Int32.toInt (show FI278 110 7 = x292 from h293); have := congrArg Int32.toInt (show FI278 110 8 = x297 from h298); omega), (by have := congrArg Int32.toInt (show FI278 110 7 = x292 from h293); omega), (by have := congrArg Int32.toInt (show FI278 110 5 = x295 from h296); omega)⟩
      · refine hw_aloadn (aX4_readRange 13 rfl) rfl ?_
        refine hw_bp (v := (6 : Int32)) (aX4_readRange 14 rfl) (by decide) ?_
        refine hw_callV (Bs := [.int ((6 : Int32))]) (rest := []) (aX4_readRange 15 rfl) wc_RX4_69 (by decide) rfl wi_yX4_refuse wv_yX4_refuse (c110 hS) (s110 hS) rfl rfl rfl (Nat.le_of_ble_eq_true rfl) (Nat.le_of_ble_eq_true rfl) (k_refuse2 (d := d + 1) hS hF hI hR ((6 : Int32)) (by have := congrArg Int32.toInt (show FI 110 7 = x1 from h2); have := congrArg Int32.toInt (show FI 110 7 = x1 from h2); have := congrArg Int32.toInt (show FI 111 4 = x4 from h5); omega) (by have := congrArg Int32.toInt (show FI 110 5 = x7 from h8); have := congrArg Int32.toInt (show FI 110 8 = x9 from h10); omega) (by have := congrArg Int32.toInt (show FI 110 7 = x1 from h2); have := congrArg Int32.toInt (show FI 111 4 = x4 from h5); have := congrArg Int32.toInt (show FI 110 8 = x9 from h10); omega) (by have := ((by decide : (6 : Int32).toInt = 6) : ((6 : Int32)).toInt = 6); have := ((by decide : (6 : Int32).toInt = 6) : ((6 : Int32)).toInt = 6); omega)) (fun v299 sv300 p301 => ?_)
        have := congrArg Int32.toInt (show FI 110 5 = x7 from h8)
        have := congrArg Int32.toInt (show FI 110 5 = x7 from h8)
        obtain ⟨rfl, FI303, rfl, hI304, f305, t308, t309⟩ := p301
        obtain ⟨x312, h313⟩ : ∃ y, FI303 110 5 = y := ⟨_, rfl⟩
        have h313l := congrArg Int32.toInt h313
        have := i_rng x312
        obtain ⟨x314, h315⟩ : ∃ y, FI303 110 8 = y := ⟨_, rfl⟩
        have h315l := congrArg Int32.toInt h315
        have := i_rng x314
        show hw sk base _ _ _ _ _ [] _ _
        refine xw_vret (aX4_readRange 16 rfl) rfl ?_
        exact ⟨rfl, FI303, FL, rfl, hI304, (gf_tr ex_rf gf_rf f305 rfl rfl rfl), gf_rf, (by have := congrArg Int32.toInt (show FI303 110 7 = x1 from (gf_at f305 (c110 hS) (shd_f (by decide) (s110 hS)) rfl (h2))); omega), (by have := congrArg Int32.toInt (show FI303 110 5 = x312 from h313); have := congrArg Int32.toInt (show FI303 110 8 = x314 from h315); omega), (by have := congrArg Int32.toInt (show FI303 110 7 = x1 from (gf_at f305 (c110 hS) (shd_f (by decide) (s110 hS)) rfl (h2))); have := congrArg Int32.toInt (show FI303 110 8 = x314 from h315); omega), (by have := congrArg Int32.toInt (show FI303 110 7 = x1 from (gf_at f305 (c110 hS) (shd_f (by decide) (s110 hS)) rfl (h2))); omega), (by have := congrArg Int32.toInt (show FI303 110 5 = x312 from h313); omega)⟩
  · refine hw_aloadn (aX4_readRange 4 rfl) rfl ?_
    refine hw_ic (v := (1 : Int32)) (aX4_readRange 5 rfl) (by decide) ?_
    refine hw_callV (Bs := [.int ((1 : Int32))]) (rest := []) (aX4_readRange 6 rfl) wc_RX4_69 (by decide) rfl wi_yX4_refuse wv_yX4_refuse (c110 hS) (s110 hS) rfl rfl rfl (Nat.le_of_ble_eq_true rfl) (Nat.le_of_ble_eq_true rfl) (k_refuse2 (d := d + 1) hS hF hI hR ((1 : Int32)) (by have := congrArg Int32.toInt (show FI 110 7 = x1 from h2); have := congrArg Int32.toInt (show FI 110 7 = x1 from h2); have := congrArg Int32.toInt (show FI 111 4 = x4 from h5); omega) (by have := congrArg Int32.toInt (show FI 110 5 = x7 from h8); have := congrArg Int32.toInt (show FI 110 8 = x9 from h10); omega) (by have := congrArg Int32.toInt (show FI 110 7 = x1 from h2); have := congrArg Int32.toInt (show FI 111 4 = x4 from h5); have := congrArg Int32.toInt (show FI 110 8 = x9 from h10); omega) (by have := ((by decide : (1 : Int32).toInt = 1) : ((1 : Int32)).toInt = 1); have := ((by decide : (1 : Int32).toInt = 1) : ((1 : Int32)).toInt = 1); omega)) (fun v316 sv317 p318 => ?_)
    have := congrArg Int32.toInt (show FI 110 5 = x7 from h8)
    have := congrArg Int32.toInt (show FI 110 5 = x7 from h8)
    obtain ⟨rfl, FI320, rfl, hI321, f322, t325, t326⟩ := p318
    obtain ⟨x329, h330⟩ : ∃ y, FI320 110 5 = y := ⟨_, rfl⟩
    have h330l := congrArg Int32.toInt h330
    have := i_rng x329
    obtain ⟨x331, h332⟩ : ∃ y, FI320 110 8 = y := ⟨_, rfl⟩
    have h332l := congrArg Int32.toInt h332
    have := i_rng x331
    show hw sk base _ _ _ _ _ [] _ _
    refine xw_vret (aX4_readRange 7 rfl) rfl ?_
    exact ⟨rfl, FI320, FL, rfl, hI321, (gf_tr ex_rf gf_rf f322 rfl rfl rfl), gf_rf, (by have := congrArg Int32.toInt (show FI320 110 7 = x1 from (gf_at f322 (c110 hS) (shd_f (by decide) (s110 hS)) rfl (h2))); omega), (by have := congrArg Int32.toInt (show FI320 110 5 = x329 from h330); have := congrArg Int32.toInt (show FI320 110 8 = x331 from h332); omega), (by have := congrArg Int32.toInt (show FI320 110 7 = x1 from (gf_at f322 (c110 hS) (shd_f (by decide) (s110 hS)) rfl (h2))); have := congrArg Int32.toInt (show FI320 110 8 = x331 from h332); omega), (by have := congrArg Int32.toInt (show FI320 110 7 = x1 from (gf_at f322 (c110 hS) (shd_f (by decide) (s110 hS)) rfl (h2))); omega), (by have := congrArg Int32.toInt (show FI320 110 5 = x329 from h330); omega)⟩
end
section
def nX4_readRows : Nat := 0xb1d4ffa7010284535d00b62a1c5a00b42b0d00a208101c6800b61c2b2a3000b62a2300a02c103300b42a2c00a308101c3d04535d00b62a035a00b42b6800b6032b2a
theorem bX4_readRows : cX4_readRows.data.toList.map UInt8.toNat = x_un nX4_readRows 66 := by decide +kernel
def iX4_readRows : List (Nat × Jvm.ClassFile.Instr × Nat) := [(0, .aload_n 0, 1), (1, .aload_n 1, 1), (2, .iconst 0, 1), (3, .invokevirtual 104, 3), (6, .aload_n 1, 1), (7, .getfield 90, 3), (10, .iconst 0, 1), (11, .aload_n 0, 1), (12, .invokevirtual 93, 3), (15, .aastore, 1), (16, .iconst 1, 1), (17, .istore_n 2, 1), (18, .iload_n 2, 1), (19, .bipush 8, 2), (21, .if_icmp .gt 44, 3), (24, .aload_n 0, 1), (25, .getfield 51, 3), (28, .bipush 44, 2), (30, .if_icmp .ne 35, 3), (33, .aload_n 0, 1), (34, .invokevirtual 48, 3), (37, .aload_n 0, 1), (38, .aload_n 1, 1), (39, .iload_n 2, 1), (40, .invokevirtual 104, 3), (43, .iload_n 2, 1), (44, .bipush 8, 2), (46, .if_icmp .ge 13, 3), (49, .aload_n 1, 1), (50, .getfield 90, 3), (53, .iload_n 2, 1), (54, .aload_n 0, 1), (55, .invokevirtual 93, 3), (58, .aastore, 1), (59, .iinc 2 1, 3), (62, .goto (-44), 3), (65, .return_, 1)]
theorem dX4_readRows : x_il nX4_readRows 66 iX4_readRows = true := by decide +kernel
theorem aX4_readRows (k : Nat) {pc : Nat} {i : Jvm.ClassFile.Instr} {len : Nat} (hk : iX4_readRows[k]? = some (pc, i, len)) : x_at xMM 45 pc i len yX4_readRows 3 none := ⟨cX4_readRows, rfl, x_il_ok bX4_readRows dX4_readRows k hk⟩
set_option maxHeartbeats 4000000 in
set_option maxRecDepth 100000 in
theorem k_readRows {sk : xK} {base d n sl : Nat} {SH : Nat → Nat × Nat} {FI : Nat → Nat → Int32} {FL : Nat → Nat → Int64} {FR : Nat → Nat → Option Nat} (hS : h_S n SH) (hF : h_FR FR) (hI : g_I FI) (hR : g_R n SH FR) (a1 : Nat) {z1 : Nat} (ha1l : a1 < n) (ha1s : SH a1 = (10, z1)) (ha1o : own a1) (gp : Nat → Nat) (gw : Nat → Nat) (gs : Nat → Nat) (g0 : 0 ≤ (FI 110 7).toInt ∧ (FI 110 7).toInt < (FI 111 4).toInt) (g1 : (FI 110 5).toInt = 0 ∨ (FI 110 8).toInt = 1) (g2 : (FI 110 7).toInt + 1 < (FI 111 4).toInt ∨ (FI 110 8).toInt ≤ 3) (g3 : (FI 110 5).toInt ≠ 0 ∨ (FI 110 4).toInt ≤ 12) (g4 : (FI 110 5).toInt ≠ 0 ∨ 0 ≤ (FI 110 4).toInt) (gg0 : g_T n SH FI FR gp gw gs) (gg1 : g_K FI) (gg2 : g_Vv SH FR a1) : hw sk base (d + 144) none 45 0 [(0, .ref (base + 110)), (1, .ref (base + a1))] [] (n, sl, SH, FI, FL, FR) (h_V (fun s => ∃ n' sl' SH' FI' FL' FR', s = (n', sl', SH', FI', FL', FR') ∧ g_ex n SH n' SH' ∧ h_S n' SH' ∧ g_I FI' ∧ g_fr n (shd SH) [(110, 4), (110, 5), (110, 6), (110, 7), (110, 8)] [117] [1006, 1010] FI FI' ∧ g_fr n (shd SH) [(110, 9)] [] [1101] FL FL' ∧ g_fr n (shd SH) [] [] [1105] FR FR' ∧ h_FR FR' ∧ g_R n' SH' FR' ∧ (0 ≤ (FI' 110 7).toInt ∧ (FI' 110 7).toInt < (FI 111 4).toInt) ∧ ((FI' 110 5).toInt = 0 ∨ (FI' 110 8).toInt = 1) ∧ ((FI' 110 7).toInt + 1 < (FI 111 4).toInt ∨ (FI' 110 8).toInt ≤ 3) ∧ ((FI 110 7).toInt ≤ (FI' 110 7).toInt) ∧ ((FI 110 5).toInt = 0 ∨ (FI' 110 5).toInt = (FI 110 5).toInt) ∧ ((FI' 110 5).toInt ≠ 0 ∨ (FI' 110 4).toInt = (FI 110 4).toInt) ∧ ((n' : Int) ≤ n + 17 * ((FI' 110 7).toInt - (FI 110 7).toInt) + 9) ∧ ((sl' : Int) ≤ sl + 7 * ((n' : Int) - n) + ((FI' 110 7).toInt - (FI 110 7).toInt)) ∧ ((n : Int) ≤ n') ∧ (∃ gp2 gw2 gs2, g_T n' SH' FI' FR' gp2 gw2 gs2 ∧ (∀ c, c < n → gp2 c = gp c ∧ gw2 c = gw c ∧ gs2 c = gs c) ∧ True))) := by
  have hk0 : ∀ c, c < n → gp c = gp c ∧ gw c = gw c ∧ gs c = gs c := fun _ _ => ⟨rfl, rfl, rfl⟩
  obtain ⟨x1, h2⟩ : ∃ y, FI 110 7 = y := ⟨_, rfl⟩
  have h2l := congrArg Int32.toInt h2
  have b3 := gI_110_7 hI; rw [h2] at b3
  obtain ⟨x4, h5⟩ : ∃ y, FI 111 4 = y := ⟨_, rfl⟩
  have h5l := congrArg Int32.toInt h5
  have b6 := gI_111_4 hI; rw [h5] at b6
  obtain ⟨x7, h8⟩ : ∃ y, FI 110 5 = y := ⟨_, rfl⟩
  have h8l := congrArg Int32.toInt h8
  have := i_rng x7
  obtain ⟨x9, h10⟩ : ∃ y, FI 110 8 = y := ⟨_, rfl⟩
  have h10l := congrArg Int32.toInt h10
  have := i_rng x9
  obtain ⟨x11, h12⟩ : ∃ y, FI 110 4 = y := ⟨_, rfl⟩
  have h12l := congrArg Int32.toInt h12
  have := i_rng x11
  obtain ⟨⟨r13, h17, hz21⟩, ⟨r14, h18, hz22⟩, ⟨r15, h19, hz23⟩, ⟨r16, h20⟩⟩ := gg2
  obtain ⟨lt25, ow26, sh27⟩ := gR_get hR ha1l ha1o ha1s h17
  have dy28 := gR_dyn hR ha1l (dyn_tag hS ha1s (by decide +kernel)) h17
  obtain ⟨lt29, ow30, sh31⟩ := gR_get hR ha1l ha1o ha1s h18
  have dy32 := gR_dyn hR ha1l (dyn_tag hS ha1s (by decide +kernel)) h18
  obtain ⟨lt33, ow34, sh35⟩ := gR_get hR ha1l ha1o ha1s h19
  have dy36 := gR_dyn hR ha1l (dyn_tag hS ha1s (by decide +kernel)) h19
  obtain ⟨lt37, ow38, sh39⟩ := gR_get hR ha1l ha1o ha1s h20
  have dy40 := gR_dyn hR ha1l (dyn_tag hS ha1s (by decide +kernel)) h20
  refine hw_aloadn (aX4_readRows 0 rfl) rfl ?_
  refine hw_aloadn (aX4_readRows 1 rfl) rfl ?_
  refine hw_ic (v := (0 : Int32)) (aX4_readRows 2 rfl) (by decide) ?_
  refine hw_callV (Bs := [.ref (base + a1), .int ((0 : Int32))]) (rest := []) (aX4_readRows 3 rfl) wc_RX4_104 (by decide) rfl wi_yX4_readRange wv_yX4_readRange (c110 hS) (s110 hS) rfl rfl rfl (Nat.le_of_ble_eq_true rfl) (Nat.le_of_ble_eq_true rfl) (k_readRange (d := d + 141) hS hF hI hR (a1) ha1l ha1s ha1o ((0 : Int32)) (by have := congrArg Int32.toInt (show FI 110 7 = x1 from h2); have := congrArg Int32.toInt (show FI 110 7 = x1 from h2); have := congrArg Int32.toInt (show FI 111 4 = x4 from h5); omega) (by have := congrArg Int32.toInt (show FI 110 5 = x7 from h8); have := congrArg Int32.toInt (show FI 110 8 = x9 from h10); omega) (by have := congrArg Int32.toInt (show FI 110 7 = x1 from h2); have := congrArg Int32.toInt (show FI 111 4 = x4 from h5); have := congrArg Int32.toInt (show FI 110 8 = x9 from h10); omega) (gK_mx (L := [(110, 4), (110, 5), (110, 6), (110, 7), (110, 8)]) (A := [117]) (T := [1006, 1010]) hS gg1 gf_rf (by decide)) ((show g_Vv SH FR a1 from ⟨⟨_, h17, hz21⟩, ⟨_, h18, hz22⟩, ⟨_, h19, hz23⟩, ⟨_, h20⟩⟩))) (fun v41 sv42 p43 => ?_)
  have := congrArg Int32.toInt (show FI 111 4 = x4 from h5)
  have := congrArg Int32.toInt (show FI 111 4 = x4 from h5)
  have := congrArg Int32.toInt (show FI 110 7 = x1 from h2)
  have := congrArg Int32.toInt (show FI 110 5 = x7 from h8)
  have := congrArg Int32.toInt (show FI 110 5 = x7 from h8)
  obtain ⟨rfl, FI45, FL46, rfl, hI47, f48, f49, t52, t53, t54, t55, t56⟩ := p43
  have hT59 : g_T n SH FI45 FR gp gw gs := gT_mw (L := [(110, 5), (110, 6), (110, 7), (110, 8)]) (A := []) (T := [1010]) (L2 := []) (A2 := []) (T2 := []) hS gg0 f48 gf_rf (by decide) (by decide)
  obtain ⟨x60, h61⟩ : ∃ y, FI45 110 7 = y := ⟨_, rfl⟩
  have h61l := congrArg Int32.toInt h61
  have b62 := gI_110_7 hI47; rw [h61] at b62
  obtain ⟨x63, h64⟩ : ∃ y, FI45 110 5 = y := ⟨_, rfl⟩
  have h64l := congrArg Int32.toInt h64
  have := i_rng x63
  obtain ⟨x65, h66⟩ : ∃ y, FI45 110 8 = y := ⟨_, rfl⟩
  have h66l := congrArg Int32.toInt h66
  have := i_rng x65
  show hw sk base _ _ _ _ _ [] _ _
  refine hw_aloadn (aX4_readRows 4 rfl) rfl ?_
  refine hw_get (v := .ref (base + r15)) (aX4_readRows 5 rfl) wf_RX4_90 ha1l ha1s (by decide) (congrArg (fun r => va_rf (h_rf base r)) (show FR a1 4 = some r15 from h19)) ?_
  refine hw_ic (v := (0 : Int32)) (aX4_readRows 6 rfl) (by decide) ?_
  refine hw_aloadn (aX4_readRows 7 rfl) rfl ?_
  refine hw_callV (Bs := []) (rest := [.int ((0 : Int32)), .ref (base + r15)]) (aX4_readRows 8 rfl) wc_RX4_93 (by decide) rfl wi_yX4_readLocation wv_yX4_readLocation (c110 hS) (s110 hS) rfl rfl rfl (Nat.le_of_ble_eq_true rfl) (Nat.le_of_ble_eq_true rfl) (k_readLocation (d := d) hS hF hI47 hR (gp) (gw) (gs) (by have := congrArg Int32.toInt (show FI45 110 7 = x60 from h61); have := congrArg Int32.toInt (show FI45 110 7 = x60 from h61); have := congrArg Int32.toInt (show FI45 111 4 = x4 from (gf_at f48 (c111 hS) (shd_f (by decide) (s111 hS)) rfl (h5))); omega) (by have := congrArg Int32.toInt (show FI45 110 5 = x63 from h64); have := congrArg Int32.toInt (show FI45 110 8 = x65 from h66); omega) (by have := congrArg Int32.toInt (show FI45 110 7 = x60 from h61); have := congrArg Int32.toInt (show FI45 111 4 = x4 from (gf_at f48 (c111 hS) (shd_f (by decide) (s111 hS)) rfl (h5))); have := congrArg Int32.toInt (show FI45 110 8 = x65 from h66); omega) (by have := congrArg Int32.toInt (show FI45 110 5 = x63 from h64); have := congrArg Int32.toInt (show FI45 110 4 = x11 from (gf_at f48 (c110 hS) (shd_f (by decide) (s110 hS)) rfl (h12))); omega) (by have := congrArg Int32.toInt (show FI45 110 5 = x63 from h64); have := congrArg Int32.toInt (show FI45 110 4 = x11 from (gf_at f48 (c110 hS) (shd_f (by decide) (s110 hS)) rfl (h12))); omega) (hT59) (gK_mx (L := [(110, 4), (110, 5), (110, 6), (110, 7), (110, 8)]) (A := [117]) (T := [1006, 1010]) hS gg1 (gf_tr ex_rf gf_rf f48 rfl rfl rfl) (by decide))) (fun v67 sv68 p69 => ?_)
  have := congrArg Int32.toInt (show FI45 111 4 = x4 from (gf_at f48 (c111 hS) (shd_f (by decide) (s111 hS)) rfl (h5)))
  have := congrArg Int32.toInt (show FI45 111 4 = x4 from (gf_at f48 (c111 hS) (shd_f (by decide) (s111 hS)) rfl (h5)))
  have := congrArg Int32.toInt (show FI45 110 7 = x60 from h61)
  have := congrArg Int32.toInt (show FI45 110 5 = x63 from h64)
  have := congrArg Int32.toInt (show FI45 110 5 = x63 from h64)
  have := congrArg Int32.toInt (show FI45 110 4 = x11 from (gf_at f48 (c110 hS) (shd_f (by decide) (s110 hS)) rfl (h12)))
  have := congrArg Int32.toInt (show FI45 110 7 = x60 from h61)
  have := congrArg Int32.toInt (show FI45 110 7 = x60 from h61)
  obtain ⟨r70, rfl, n92, sl93, SH94, FI71, FL72, FR73, rfl, ex95, hS96, hI74, f75, f76, f77, hF78, hR79, t80, t81, t82, t83, t84, t85, t86, t87, t88, u89, ht90, nn91, hfr97⟩ := p69
  clear t53 t54
  obtain ⟨gp98, gw99, gs100, hT101, hkp102, hq103⟩ := u89
  have hk104 : ∀ c, c < n → gp98 c = gp c ∧ gw99 c = gw c ∧ gs100 c = gs c := fun c hc => by obtain ⟨k1, k2, k3⟩ := hk0 c hc; obtain ⟨m1, m2, m3⟩ := hkp102 c (Nat.lt_of_lt_of_le hc (Nat.le_refl _)); exact ⟨m1.trans k1, m2.trans k2, m3.trans k3⟩
  have lt105 := ex_lt ex95 ha1l
  have sh106 := ex_sh ex95 ha1l ha1s
  have lt107 := ex_lt ex95 lt25
  have sh108 := ex_sh ex95 lt25 hz21
  have lt109 := ex_lt ex95 lt29
  have sh110 := ex_sh ex95 lt29 hz22
  have lt111 := ex_lt ex95 lt33
  have sh112 := ex_sh ex95 lt33 hz23
  have lt113 := ex_lt ex95 lt37
  have sh114 := ex_sh ex95 lt37 sh39
  obtain ⟨r115, rfl⟩ : ∃ q, r70 = some q := Option.ne_none_iff_exists'.mp nn91
  have fq116 := hfr97 r115 rfl
  have dq117 : 176 ≤ r115 := Nat.le_trans hS.1 fq116
  obtain ⟨lt119, ow120, sh121⟩ := ht90 r115 rfl
  obtain ⟨x122, h123⟩ : ∃ y, FI71 110 7 = y := ⟨_, rfl⟩
  have h123l := congrArg Int32.toInt h123
  have b124 := gI_110_7 hI74; rw [h123] at b124
  obtain ⟨x125, h126⟩ : ∃ y, FI71 110 5 = y := ⟨_, rfl⟩
  have h126l := congrArg Int32.toInt h126
  have := i_rng x125
  obtain ⟨x127, h128⟩ : ∃ y, FI71 110 8 = y := ⟨_, rfl⟩
  have h128l := congrArg Int32.toInt h128
  have := i_rng x127
  obtain ⟨x129, h130⟩ : ∃ y, FI71 110 4 = y := ⟨_, rfl⟩
  have h130l := congrArg Int32.toInt h130
  have := i_rng x129
  show hw sk base _ _ _ _ _ [.ref (base + r115), .int ((0 : Int32)), .ref (base + r15)] _ _
  refine hv_aast (k := 5) (i2 := 0) (aX4_readRows 9 rfl) lt111 sh112 rfl (by decide) lt119 sh121 rfl (h_in (by decide : (0 : Int32).toInt = 0) (by omega) (by omega)) (by decide) (fun FR131 u132 => ?_)
  have hT133 : g_T n92 SH94 FI71 FR131 gp98 gw99 gs100 := gT_wo hT101 (by rw [sh112]; decide) (by rw [sh112]; decide) u132
  have hF134 : h_FR FR131 := hF_ua hS96 hF78 u132 sh112 (by decide +kernel)
  have hR135 : g_R n92 SH94 FR131 := gR_up hR79 u132 sh112 (fun r e => by cases e; exact ⟨lt119, ow120, by rw [sh121]; rfl⟩) (fun _ r e => by cases e; exact (dyn_tag hS96 sh121 (by decide +kernel))) (fun _ => by simp) (fun h => absurd h.1 (ne_tag sh112 (s49 hS96) (by decide)))
  refine hw_ic (v := (1 : Int32)) (aX4_readRows 10 rfl) (by decide) ?_
  refine xw_istoren (L2 := [(2, .int ((1 : Int32))), (0, .ref (base + 110)), (1, .ref (base + a1))]) (aX4_readRows 11 rfl) (by decide) rfl ?_
  have lp170 : ∀ (m : Nat) (y2 : Int32) (FIv141 : Nat → Nat → Int32) (FLv142 : Nat → Nat → Int64) (FRv143 : Nat → Nat → Option Nat) (n136 sl137 : Nat) (SH138 : Nat → Nat × Nat) (gp144 gw145 gs146 : Nat → Nat), (g_ex n92 SH94 n136 SH138) → (h_S n136 SH138) → (g_T n136 SH138 FIv141 FRv143 gp144 gw145 gs146) → (∀ c, c < n → gp144 c = gp c ∧ gw145 c = gw c ∧ gs146 c = gs c) → (g_fr n (shd SH) [(110, 4), (110, 5), (110, 6), (110, 7), (110, 8)] [117] [1006, 1010] FI FIv141) → (g_fr n (shd SH) [(110, 9)] [] [1101] FL FLv142) → (g_fr n (shd SH) [] [] [1105] FR FRv143) → (g_I FIv141) → (h_FR FRv143) → (g_R n136 SH138 FRv143) → (FIv141 111 4 = x4) → (FRv143 a1 2 = r13) → (FRv143 a1 3 = r14) → (FRv143 a1 4 = r15) → (FRv143 a1 0 = r16) → (1 ≤ (y2).toInt ∧ (y2).toInt ≤ 9) → (0 ≤ (FIv141 110 7).toInt ∧ (FIv141 110 7).toInt < (FI 111 4).toInt) → ((FIv141 110 5).toInt = 0 ∨ (FIv141 110 8).toInt = 1) → ((FIv141 110 7).toInt + 1 < (FI 111 4).toInt ∨ (FIv141 110 8).toInt ≤ 3) → ((FI 110 7).toInt ≤ (FIv141 110 7).toInt) → ((FI 110 5).toInt = 0 ∨ (FIv141 110 5).toInt = (FI 110 5).toInt) → ((FIv141 110 5).toInt ≠ 0 ∨ (FIv141 110 4).toInt = (FI 110 4).toInt) → ((n136 : Int) ≤ n + 17 * ((FIv141 110 7).toInt - (FI 110 7).toInt) + 9) → ((sl137 : Int) ≤ sl + 7 * ((n136 : Int) - n) + ((FIv141 110 7).toInt - (FI 110 7).toInt)) → ((n : Int) ≤ n136) → 9 - (y2).toInt < m → hw sk base (d + 144) none 45 18 [(2, .int (y2)), (0, .ref (base + 110)), (1, .ref (base + a1))] [] (n136, sl137, SH138, FIv141, FLv142, FRv143) (h_V (fun s => ∃ n' sl' SH' FI' FL' FR', s = (n', sl', SH', FI', FL', FR') ∧ g_ex n SH n' SH' ∧ h_S n' SH' ∧ g_I FI' ∧ g_fr n (shd SH) [(110, 4), (110, 5), (110, 6), (110, 7), (110, 8)] [117] [1006, 1010] FI FI' ∧ g_fr n (shd SH) [(110, 9)] [] [1101] FL FL' ∧ g_fr n (shd SH) [] [] [1105] FR FR' ∧ h_FR FR' ∧ g_R n' SH' FR' ∧ (0 ≤ (FI' 110 7).toInt ∧ (FI' 110 7).toInt < (FI 111 4).toInt) ∧ ((FI' 110 5).toInt = 0 ∨ (FI' 110 8).toInt = 1) ∧ ((FI' 110 7).toInt + 1 < (FI 111 4).toInt ∨ (FI' 110 8).toInt ≤ 3) ∧ ((FI 110 7).toInt ≤ (FI' 110 7).toInt) ∧ ((FI 110 5).toInt = 0 ∨ (FI' 110 5).toInt = (FI 110 5).toInt) ∧ ((FI' 110 5).toInt ≠ 0 ∨ (FI' 110 4).toInt = (FI 110 4).toInt) ∧ ((n' : Int) ≤ n + 17 * ((FI' 110 7).toInt - (FI 110 7).toInt) + 9) ∧ ((sl' : Int) ≤ sl + 7 * ((n' : Int) - n) + ((FI' 110 7).toInt - (FI 110 7).toInt)) ∧ ((n : Int) ≤ n') ∧ (∃ gp2 gw2 gs2, g_T n' SH' FI' FR' gp2 gw2 gs2 ∧ (∀ c, c < n → gp2 c = gp c ∧ gw2 c = gw c ∧ gs2 c = gs c) ∧ True))) := by
    intro m
    induction m with
    | zero => intro y2 FIv141 FLv142 FRv143 n136 sl137 SH138 gp144 gw145 gs146 ex139 hS140 hT147 hk148 fr149 fr150 fr151 hI152 hF153 hR154 kp155 kp156 kp157 kp158 kp159 iv160 iv161 iv162 iv163 iv164 iv165 iv166 iv167 iv168 iv169 hm; omega
    | succ m ih =>
      intro y2 FIv141 FLv142 FRv143 n136 sl137 SH138 gp144 gw145 gs146 ex139 hS140 hT147 hk148 fr149 fr150 fr151 hI152 hF153 hR154 kp155 kp156 kp157 kp158 kp159 iv160 iv161 iv162 iv163 iv164 iv165 iv166 iv167 iv168 iv169 hm
      have rg_y2 := i_rng y2
      have := congrArg Int32.toInt kp155
      have lt171 := ex_lt ex139 lt105
      have sh172 := ex_sh ex139 lt105 sh106
      have lt173 := ex_lt ex139 lt107
      have sh174 := ex_sh ex139 lt107 sh108
      have lt175 := ex_lt ex139 lt109
      have sh176 := ex_sh ex139 lt109 sh110
      have lt177 := ex_lt ex139 lt111
      have sh178 := ex_sh ex139 lt111 sh112
      have lt179 := ex_lt ex139 lt113
      have sh180 := ex_sh ex139 lt113 sh114
      have ex181 := ex_tr ex95 ex139
      obtain ⟨x182, h183⟩ : ∃ y, FIv141 110 7 = y := ⟨_, rfl⟩
      have h183l := congrArg Int32.toInt h183
      have b184 := gI_110_7 hI152; rw [h183] at b184
      obtain ⟨x185, h186⟩ : ∃ y, FIv141 110 5 = y := ⟨_, rfl⟩
      have h186l := congrArg Int32.toInt h186
      have := i_rng x185
      obtain ⟨x187, h188⟩ : ∃ y, FIv141 110 8 = y := ⟨_, rfl⟩
      have h188l := congrArg Int32.toInt h188
      have := i_rng x187
      obtain ⟨x189, h190⟩ : ∃ y, FIv141 110 4 = y := ⟨_, rfl⟩
      have h190l := congrArg Int32.toInt h190
      have := i_rng x189
      refine xw_iloadn (aX4_readRows 12 rfl) rfl ?_
      refine hw_bp (v := (8 : Int32)) (aX4_readRows 13 rfl) (by decide) ?_
      refine hw_icgt (tgt := 65) (aX4_readRows 14 rfl) (by decide) rfl (by decide : (8 : Int32).toInt = 8) (fun cd191 => ?_) (fun cd191 => ?_)
      · refine xw_vret (aX4_readRows 36 rfl) rfl ?_
        exact ⟨rfl, n136, sl137, SH138, FIv141, FLv142, FRv143, rfl, ex181, hS140, hI152, fr149, fr150, fr151, hF153, hR154, (by have := congrArg Int32.toInt (show FIv141 110 7 = x182 from h183); omega), (by have := congrArg Int32.toInt (show FIv141 110 5 = x185 from h186); have := congrArg Int32.toInt (show FIv141 110 8 = x187 from h188); omega), (by have := congrArg Int32.toInt (show FIv141 110 7 = x182 from h183); have := congrArg Int32.toInt (show FIv141 110 8 = x187 from h188); omega), (by have := congrArg Int32.toInt (show FIv141 110 7 = x182 from h183); omega), (by have := congrArg Int32.toInt (show FIv141 110 5 = x185 from h186); omega), (by have := congrArg Int32.toInt (show FIv141 110 4 = x189 from h190); have := congrArg Int32.toInt (show FIv141 110 5 = x185 from h186); omega), (by have := congrArg Int32.toInt (show FIv141 110 7 = x182 from h183); omega), (by have := congrArg Int32.toInt (show FIv141 110 7 = x182 from h183); omega), (by omega), (by exact ⟨gp144, gw145, gs146, hT147, hk148, trivial⟩)⟩
      · refine hw_aloadn (aX4_readRows 15 rfl) rfl ?_
        refine hw_get (v := .int (x187)) (aX4_readRows 16 rfl) wf_RX4_51 (c110 hS140) (s110 hS140) (by decide) (congrArg Value.int (show FIv141 110 8 = x187 from h188)) ?_
        refine hw_bp (v := (44 : Int32)) (aX4_readRows 17 rfl) (by decide) ?_
        refine hw_icne (tgt := 65) (aX4_readRows 18 rfl) (by decide) rfl (by decide : (44 : Int32).toInt = 44) (fun cd192 => ?_) (fun cd192 => ?_)
        · refine xw_vret (aX4_readRows 36 rfl) rfl ?_
          exact ⟨rfl, n136, sl137, SH138, FIv141, FLv142, FRv143, rfl, ex181, hS140, hI152, fr149, fr150, fr151, hF153, hR154, (by have := congrArg Int32.toInt (show FIv141 110 7 = x182 from h183); omega), (by have := congrArg Int32.toInt (show FIv141 110 5 = x185 from h186); have := congrArg Int32.toInt (show FIv141 110 8 = x187 from h188); omega), (by have := congrArg Int32.toInt (show FIv141 110 7 = x182 from h183); have := congrArg Int32.toInt (show FIv141 110 8 = x187 from h188); omega), (by have := congrArg Int32.toInt (show FIv141 110 7 = x182 from h183); omega), (by have := congrArg Int32.toInt (show FIv141 110 5 = x185 from h186); omega), (by have := congrArg Int32.toInt (show FIv141 110 4 = x189 from h190); have := congrArg Int32.toInt (show FIv141 110 5 = x185 from h186); omega), (by have := congrArg Int32.toInt (show FIv141 110 7 = x182 from h183); omega), (by have := congrArg Int32.toInt (show FIv141 110 7 = x182 from h183); omega), (by omega), (by exact ⟨gp144, gw145, gs146, hT147, hk148, trivial⟩)⟩
        · have : (x185).toInt = 0 := by omega
          refine hw_aloadn (aX4_readRows 19 rfl) rfl ?_
          refine hw_callV (Bs := []) (rest := []) (aX4_readRows 20 rfl) wc_RX4_48 (by decide) rfl wi_yX4_take wv_yX4_take (c110 hS140) (s110 hS140) rfl rfl rfl (Nat.le_of_ble_eq_true rfl) (Nat.le_of_ble_eq_true rfl) (k_take2 (d := d + 143) hS140 hF153 hI152 hR154 (by have := congrArg Int32.toInt (show FIv141 110 7 = x182 from h183); have := congrArg Int32.toInt (show FIv141 110 7 = x182 from h183); have := congrArg Int32.toInt (show FIv141 111 4 = x4 from kp155); omega) (by have := congrArg Int32.toInt (show FIv141 110 5 = x185 from h186); have := congrArg Int32.toInt (show FIv141 110 8 = x187 from h188); omega) (by have := congrArg Int32.toInt (show FIv141 110 7 = x182 from h183); have := congrArg Int32.toInt (show FIv141 111 4 = x4 from kp155); have := congrArg Int32.toInt (show FIv141 110 8 = x187 from h188); omega) (gK_mx (L := [(110, 4), (110, 5), (110, 6), (110, 7), (110, 8)]) (A := [117]) (T := [1006, 1010]) hS gg1 fr149 (by decide))) (fun v193 sv194 p195 => ?_)
          have := congrArg Int32.toInt (show FIv141 111 4 = x4 from kp155)
          have := congrArg Int32.toInt (show FIv141 111 4 = x4 from kp155)
          have := congrArg Int32.toInt (show FIv141 110 7 = x182 from h183)
          have := congrArg Int32.toInt (show FIv141 110 5 = x185 from h186)
          have := congrArg Int32.toInt (show FIv141 110 5 = x185 from h186)
          have := congrArg Int32.toInt (show FIv141 110 5 = x185 from h186)
          have := congrArg Int32.toInt (show FIv141 110 5 = x185 from h186)
          have := congrArg Int32.toInt (show FIv141 110 7 = x182 from h183)
          have := congrArg Int32.toInt (show FIv141 111 4 = x4 from kp155)
          have := congrArg Int32.toInt (show FIv141 110 7 = x182 from h183)
          have := congrArg Int32.toInt (show FIv141 110 7 = x182 from h183)
          have := congrArg Int32.toInt (show FIv141 110 5 = x185 from h186)
          have := congrArg Int32.toInt (show FIv141 110 8 = x187 from h188)
          obtain ⟨rfl, FI197, FL198, rfl, hI199, f200, f201, t204, t205, t206, t207, t208, t209, t210, t211, t212⟩ := p195
          replace t210 := (t210.resolve_left (by omega)).resolve_left (by omega)
          clear t81 t82 t212
          have hT215 : g_T n136 SH138 FI197 FRv143 gp144 gw145 gs146 := gT_mw (L := [(110, 7), (110, 8)]) (A := []) (T := []) (L2 := []) (A2 := []) (T2 := []) hS140 hT147 f200 gf_rf (by decide) (by decide)
          obtain ⟨x216, h217⟩ : ∃ y, FI197 110 7 = y := ⟨_, rfl⟩
          have h217l := congrArg Int32.toInt h217
          have b218 := gI_110_7 hI199; rw [h217] at b218
          obtain ⟨x219, h220⟩ : ∃ y, FI197 110 8 = y := ⟨_, rfl⟩
          have h220l := congrArg Int32.toInt h220
          have := i_rng x219
          show hw sk base _ _ _ _ _ [] _ _
          refine hw_aloadn (aX4_readRows 21 rfl) rfl ?_
          refine hw_aloadn (aX4_readRows 22 rfl) rfl ?_
          refine xw_iloadn (aX4_readRows 23 rfl) rfl ?_
          refine hw_callV (Bs := [.ref (base + a1), .int (y2)]) (rest := []) (aX4_readRows 24 rfl) wc_RX4_104 (by decide) rfl wi_yX4_readRange wv_yX4_readRange (c110 hS140) (s110 hS140) rfl rfl rfl (Nat.le_of_ble_eq_true rfl) (Nat.le_of_ble_eq_true rfl) (k_readRange (d := d + 141) hS140 hF153 hI199 hR154 (a1) lt171 sh172 ha1o (y2) (by have := congrArg Int32.toInt (show FI197 110 7 = x216 from h217); have := congrArg Int32.toInt (show FI197 110 7 = x216 from h217); have := congrArg Int32.toInt (show FI197 111 4 = x4 from (gf_at f200 (c111 hS140) (shd_f (by decide) (s111 hS140)) rfl (kp155))); omega) (by have := congrArg Int32.toInt (show FI197 110 5 = x185 from (gf_at f200 (c110 hS140) (shd_f (by decide) (s110 hS140)) rfl (h186))); have := congrArg Int32.toInt (show FI197 110 8 = x219 from h220); omega) (by have := congrArg Int32.toInt (show FI197 110 7 = x216 from h217); have := congrArg Int32.toInt (show FI197 111 4 = x4 from (gf_at f200 (c111 hS140) (shd_f (by decide) (s111 hS140)) rfl (kp155))); have := congrArg Int32.toInt (show FI197 110 8 = x219 from h220); omega) (gK_mx (L := [(110, 4), (110, 5), (110, 6), (110, 7), (110, 8)]) (A := [117]) (T := [1006, 1010]) hS gg1 (gf_tr (ex_shd ex181) fr149 f200 rfl rfl rfl) (by decide)) ((show g_Vv SH138 FRv143 a1 from ⟨⟨_, kp156, sh174⟩, ⟨_, kp157, sh176⟩, ⟨_, kp158, sh178⟩, ⟨_, kp159⟩⟩))) (fun v221 sv222 p223 => ?_)
          have := congrArg Int32.toInt (show FI197 111 4 = x4 from (gf_at f200 (c111 hS140) (shd_f (by decide) (s111 hS140)) rfl (kp155)))
          have := congrArg Int32.toInt (show FI197 111 4 = x4 from (gf_at f200 (c111 hS140) (shd_f (by decide) (s111 hS140)) rfl (kp155)))
          have := congrArg Int32.toInt (show FI197 110 7 = x216 from h217)
          have := congrArg Int32.toInt (show FI197 110 5 = x185 from (gf_at f200 (c110 hS140) (shd_f (by decide) (s110 hS140)) rfl (h186)))
          have := congrArg Int32.toInt (show FI197 110 5 = x185 from (gf_at f200 (c110 hS140) (shd_f (by decide) (s110 hS140)) rfl (h186)))
          obtain ⟨rfl, FI225, FL226, rfl, hI227, f228, f229, t232, t233, t234, t235, t236⟩ := p223
          clear t205 t206
          have hT239 : g_T n136 SH138 FI225 FRv143 gp144 gw145 gs146 := gT_mw (L := [(110, 5), (110, 6), (110, 7), (110, 8)]) (A := []) (T := [1010]) (L2 := []) (A2 := []) (T2 := []) hS140 hT215 f228 gf_rf (by decide) (by decide)
          obtain ⟨x240, h241⟩ : ∃ y, FI225 110 7 = y := ⟨_, rfl⟩
          have h241l := congrArg Int32.toInt h241
          have b242 := gI_110_7 hI227; rw [h241] at b242
          obtain ⟨x243, h244⟩ : ∃ y, FI225 110 5 = y := ⟨_, rfl⟩
          have h244l := congrArg Int32.toInt h244
          have := i_rng x243
          obtain ⟨x245, h246⟩ : ∃ y, FI225 110 8 = y := ⟨_, rfl⟩
          have h246l := congrArg Int32.toInt h246
          have := i_rng x245
          show hw sk base _ _ _ _ _ [] _ _
          refine xw_iloadn (aX4_readRows 25 rfl) rfl ?_
          refine hw_bp (v := (8 : Int32)) (aX4_readRows 26 rfl) (by decide) ?_
          refine hw_icge (tgt := 59) (aX4_readRows 27 rfl) (by decide) rfl (by decide : (8 : Int32).toInt = 8) (fun cd247 => ?_) (fun cd247 => ?_)
          · obtain ⟨x248, q250⟩ : ∃ y : Int32, (y2) + Int32.ofInt (1) = y := ⟨_, rfl⟩
            have e249 : (x248).toInt = (y2).toInt + (1) := by rw [← q250]; exact i_add rfl (by decide) (by omega) (by omega)
            refine xw_iinc (L2 := [(2, .int (x248)), (0, .ref (base + 110)), (1, .ref (base + a1))]) (aX4_readRows 34 rfl) rfl (by decide) (by rw [q250]; rfl) ?_
            refine xw_goto (tgt := 18) (aX4_readRows 35 rfl) (by decide) ?_
            exact hw_L (ih (x248) FI225 FL226 FRv143 n136 sl137 SH138 gp144 gw145 gs146 ex139 hS140 hT239 hk148 (gf_tr (ex_shd ex181) (gf_tr (ex_shd ex181) fr149 f200 rfl rfl rfl) f228 rfl rfl rfl) (gf_tr (ex_shd ex181) (gf_tr (ex_shd ex181) fr150 f201 rfl rfl rfl) f229 rfl rfl rfl) fr151 hI227 hF153 hR154 (show FI225 111 4 = x4 from (gf_at f228 (c111 hS140) (shd_f (by decide) (s111 hS140)) rfl ((gf_at f200 (c111 hS140) (shd_f (by decide) (s111 hS140)) rfl (kp155))))) (show FRv143 a1 2 = r13 from kp156) (show FRv143 a1 3 = r14 from kp157) (show FRv143 a1 4 = r15 from kp158) (show FRv143 a1 0 = r16 from kp159) (by have := (e249 : (x248).toInt = (y2).toInt + (1)); omega) (by have := (e249 : (x248).toInt = (y2).toInt + (1)); have := congrArg Int32.toInt (show FI225 110 7 = x240 from h241); omega) (by have := (e249 : (x248).toInt = (y2).toInt + (1)); have := congrArg Int32.toInt (show FI225 110 5 = x243 from h244); have := congrArg Int32.toInt (show FI225 110 8 = x245 from h246); omega) (by have := (e249 : (x248).toInt = (y2).toInt + (1)); have := congrArg Int32.toInt (show FI225 110 7 = x240 from h241); have := congrArg Int32.toInt (show FI225 110 8 = x245 from h246); omega) (by have := (e249 : (x248).toInt = (y2).toInt + (1)); have := congrArg Int32.toInt (show FI225 110 7 = x240 from h241); omega) (by have := (e249 : (x248).toInt = (y2).toInt + (1)); have := congrArg Int32.toInt (show FI225 110 5 = x243 from h244); omega) (by have := (e249 : (x248).toInt = (y2).toInt + (1)); have := congrArg Int32.toInt (show FI225 110 4 = x189 from (gf_at f228 (c110 hS140) (shd_f (by decide) (s110 hS140)) rfl ((gf_at f200 (c110 hS140) (shd_f (by decide) (s110 hS140)) rfl (h190))))); have := congrArg Int32.toInt (show FI225 110 5 = x243 from h244); omega) (by have := (e249 : (x248).toInt = (y2).toInt + (1)); have := congrArg Int32.toInt (show FI225 110 7 = x240 from h241); omega) (by have := (e249 : (x248).toInt = (y2).toInt + (1)); have := congrArg Int32.toInt (show FI225 110 7 = x240 from h241); omega) (by have := (e249 : (x248).toInt = (y2).toInt + (1)); omega) (by have := (e249 : (x248).toInt = (y2).toInt + (1)); omega)) ⟨rfl, rfl, rfl, trivial⟩
          · refine hw_aloadn (aX4_readRows 28 rfl) rfl ?_
            refine hw_get (v := .ref (base + r15)) (aX4_readRows 29 rfl) wf_RX4_90 lt171 sh172 (by decide) (congrArg (fun r => va_rf (h_rf base r)) (show FRv143 a1 4 = some r15 from kp158)) ?_
            refine xw_iloadn (aX4_readRows 30 rfl) rfl ?_
            refine hw_aloadn (aX4_readRows 31 rfl) rfl ?_
            refine hw_callV (Bs := []) (rest := [.int (y2), .ref (base + r15)]) (aX4_readRows 32 rfl) wc_RX4_93 (by decide) rfl wi_yX4_readLocation wv_yX4_readLocation (c110 hS140) (s110 hS140) rfl rfl rfl (Nat.le_of_ble_eq_true rfl) (Nat.le_of_ble_eq_true rfl) (k_readLocation (d := d) hS140 hF153 hI227 hR154 (gp144) (gw145) (gs146) (by have := congrArg Int32.toInt (show FI225 110 7 = x240 from h241); have := congrArg Int32.toInt (show FI225 110 7 = x240 from h241); have := congrArg Int32.toInt (show FI225 111 4 = x4 from (gf_at f228 (c111 hS140) (shd_f (by decide) (s111 hS140)) rfl ((gf_at f200 (c111 hS140) (shd_f (by decide) (s111 hS140)) rfl (kp155))))); omega) (by have := congrArg Int32.toInt (show FI225 110 5 = x243 from h244); have := congrArg Int32.toInt (show FI225 110 8 = x245 from h246); omega) (by have := congrArg Int32.toInt (show FI225 110 7 = x240 from h241); have := congrArg Int32.toInt (show FI225 111 4 = x4 from (gf_at f228 (c111 hS140) (shd_f (by decide) (s111 hS140)) rfl ((gf_at f200 (c111 hS140) (shd_f (by decide) (s111 hS140)) rfl (kp155))))); have := congrArg Int32.toInt (show FI225 110 8 = x245 from h246); omega) (by have := congrArg Int32.toInt (show FI225 110 5 = x243 from h244); have := congrArg Int32.toInt (show FI225 110 4 = x189 from (gf_at f228 (c110 hS140) (shd_f (by decide) (s110 hS140)) rfl ((gf_at f200 (c110 hS140) (shd_f (by decide) (s110 hS140)) rfl (h190))))); omega) (by have := congrArg Int32.toInt (show FI225 110 5 = x243 from h244); have := congrArg Int32.toInt (show FI225 110 4 = x189 from (gf_at f228 (c110 hS140) (shd_f (by decide) (s110 hS140)) rfl ((gf_at f200 (c110 hS140) (shd_f (by decide) (s110 hS140)) rfl (h190))))); omega) (hT239) (gK_mx (L := [(110, 4), (110, 5), (110, 6), (110, 7), (110, 8)]) (A := [117]) (T := [1006, 1010]) hS gg1 (gf_tr (ex_shd ex181) (gf_tr (ex_shd ex181) fr149 f200 rfl rfl rfl) f228 rfl rfl rfl) (by decide))) (fun v251 sv252 p253 => ?_)
            have := congrArg Int32.toInt (show FI225 111 4 = x4 from (gf_at f228 (c111 hS140) (shd_f (by decide) (s111 hS140)) rfl ((gf_at f200 (c111 hS140) (shd_f (by decide) (s111 hS140)) rfl (kp155)))))
            have := congrArg Int32.toInt (show FI225 111 4 = x4 from (gf_at f228 (c111 hS140) (shd_f (by decide) (s111 hS140)) rfl ((gf_at f200 (c111 hS140) (shd_f (by decide) (s111 hS140)) rfl (kp155)))))
            have := congrArg Int32.toInt (show FI225 110 7 = x240 from h241)
            have := congrArg Int32.toInt (show FI225 110 5 = x243 from h244)
            have := congrArg Int32.toInt (show FI225 110 5 = x243 from h244)
            have := congrArg Int32.toInt (show FI225 110 4 = x189 from (gf_at f228 (c110 hS140) (shd_f (by decide) (s110 hS140)) rfl ((gf_at f200 (c110 hS140) (shd_f (by decide) (s110 hS140)) rfl (h190)))))
            have := congrArg Int32.toInt (show FI225 110 7 = x240 from h241)
            have := congrArg Int32.toInt (show FI225 110 7 = x240 from h241)
            obtain ⟨r254, rfl, n276, sl277, SH278, FI255, FL256, FR257, rfl, ex279, hS280, hI258, f259, f260, f261, hF262, hR263, t264, t265, t266, t267, t268, t269, t270, t271, t272, u273, ht274, nn275, hfr281⟩ := p253
            clear t233 t234
            obtain ⟨gp282, gw283, gs284, hT285, hkp286, hq287⟩ := u273
            have hk288 : ∀ c, c < n → gp282 c = gp c ∧ gw283 c = gw c ∧ gs284 c = gs c := fun c hc => by obtain ⟨k1, k2, k3⟩ := hk148 c hc; obtain ⟨m1, m2, m3⟩ := hkp286 c (Nat.lt_of_lt_of_le hc (ex181).1); exact ⟨m1.trans k1, m2.trans k2, m3.trans k3⟩
            have lt289 := ex_lt ex279 lt171
            have sh290 := ex_sh ex279 lt171 sh172
            have lt291 := ex_lt ex279 lt173
            have sh292 := ex_sh ex279 lt173 sh174
            have lt293 := ex_lt ex279 lt175
            have sh294 := ex_sh ex279 lt175 sh176
            have lt295 := ex_lt ex279 lt177
            have sh296 := ex_sh ex279 lt177 sh178
            have lt297 := ex_lt ex279 lt179
            have sh298 := ex_sh ex279 lt179 sh180
            have ex299 := ex_tr ex139 ex279
            have ex300 := ex_tr ex181 ex279
            obtain ⟨r301, rfl⟩ : ∃ q, r254 = some q := Option.ne_none_iff_exists'.mp nn275
            have fq302 := hfr281 r301 rfl
            have dq303 : 176 ≤ r301 := Nat.le_trans hS140.1 fq302
            obtain ⟨lt305, ow306, sh307⟩ := ht274 r301 rfl
            obtain ⟨x308, h309⟩ : ∃ y, FI255 110 7 = y := ⟨_, rfl⟩
            have h309l := congrArg Int32.toInt h309
            have b310 := gI_110_7 hI258; rw [h309] at b310
            obtain ⟨x311, h312⟩ : ∃ y, FI255 110 5 = y := ⟨_, rfl⟩
            have h312l := congrArg Int32.toInt h312
            have := i_rng x311
            obtain ⟨x313, h314⟩ : ∃ y, FI255 110 8 = y := ⟨_, rfl⟩
            have h314l := congrArg Int32.toInt h314
            have := i_rng x313
            obtain ⟨x315, h316⟩ : ∃ y, FI255 110 4 = y := ⟨_, rfl⟩
            have h316l := congrArg Int32.toInt h316
            have := i_rng x315
            show hw sk base _ _ _ _ _ [.ref (base + r301), .int (y2), .ref (base + r15)] _ _
            refine hv_aast (k := 5) (i2 := (y2).toNatClampNeg) (aX4_readRows 33 rfl) lt295 sh296 rfl (by decide) lt305 sh307 rfl (h_in rfl (by omega) (by omega)) rfl (fun FR317 u318 => ?_)
            have hT319 : g_T n276 SH278 FI255 FR317 gp282 gw283 gs284 := gT_wo hT285 (by rw [sh296]; decide) (by rw [sh296]; decide) u318
            have hF320 : h_FR FR317 := hF_ua hS280 hF262 u318 sh296 (by decide +kernel)
            have hR321 : g_R n276 SH278 FR317 := gR_up hR263 u318 sh296 (fun r e => by cases e; exact ⟨lt305, ow306, by rw [sh307]; rfl⟩) (fun _ r e => by cases e; exact (dyn_tag hS280 sh307 (by decide +kernel))) (fun _ => by simp) (fun h => absurd h.1 (ne_tag sh296 (s49 hS280) (by decide)))
            obtain ⟨x322, q324⟩ : ∃ y : Int32, (y2) + Int32.ofInt (1) = y := ⟨_, rfl⟩
            have e323 : (x322).toInt = (y2).toInt + (1) := by rw [← q324]; exact i_add rfl (by decide) (by omega) (by omega)
            refine xw_iinc (L2 := [(2, .int (x322)), (0, .ref (base + 110)), (1, .ref (base + a1))]) (aX4_readRows 34 rfl) rfl (by decide) (by rw [q324]; rfl) ?_
            refine xw_goto (tgt := 18) (aX4_readRows 35 rfl) (by decide) ?_
            exact hw_L (ih (x322) FI255 FL256 FR317 n276 sl277 SH278 gp282 gw283 gs284 ex299 hS280 hT319 hk288 (gf_tr (ex_shd ex181) (gf_tr (ex_shd ex181) (gf_tr (ex_shd ex181) fr149 f200 rfl rfl rfl) f228 rfl rfl rfl) f259 rfl rfl rfl) (gf_tr (ex_shd ex181) (gf_tr (ex_shd ex181) (gf_tr (ex_shd ex181) fr150 f201 rfl rfl rfl) f229 rfl rfl rfl) f260 rfl rfl rfl) (gf_tx (ex_shd ex300) (gf_tr (ex_shd ex181) fr151 f261 rfl rfl rfl) u318 (shd_d (dyn_tag hS280 sh296 (by decide +kernel)) sh296) (by decide)) hI258 hF320 hR321 (show FI255 111 4 = x4 from (gf_at f259 (c111 hS140) (shd_f (by decide) (s111 hS140)) rfl ((gf_at f228 (c111 hS140) (shd_f (by decide) (s111 hS140)) rfl ((gf_at f200 (c111 hS140) (shd_f (by decide) (s111 hS140)) rfl (kp155))))))) (show FR317 a1 2 = r13 from (up_c u318 (ne_tag sh290 sh296 (by decide)) ((gf_at f261 lt171 (shd_d (dyn_tag hS140 sh172 (by decide +kernel)) sh172) rfl (kp156))))) (show FR317 a1 3 = r14 from (up_c u318 (ne_tag sh290 sh296 (by decide)) ((gf_at f261 lt171 (shd_d (dyn_tag hS140 sh172 (by decide +kernel)) sh172) rfl (kp157))))) (show FR317 a1 4 = r15 from (up_c u318 (ne_tag sh290 sh296 (by decide)) ((gf_at f261 lt171 (shd_d (dyn_tag hS140 sh172 (by decide +kernel)) sh172) rfl (kp158))))) (show FR317 a1 0 = r16 from (up_c u318 (ne_tag sh290 sh296 (by decide)) ((gf_at f261 lt171 (shd_d (dyn_tag hS140 sh172 (by decide +kernel)) sh172) rfl (kp159))))) (by have := (e323 : (x322).toInt = (y2).toInt + (1)); omega) (by have := (e323 : (x322).toInt = (y2).toInt + (1)); have := congrArg Int32.toInt (show FI255 110 7 = x308 from h309); omega) (by have := (e323 : (x322).toInt = (y2).toInt + (1)); have := congrArg Int32.toInt (show FI255 110 5 = x311 from h312); have := congrArg Int32.toInt (show FI255 110 8 = x313 from h314); omega) (by have := (e323 : (x322).toInt = (y2).toInt + (1)); have := congrArg Int32.toInt (show FI255 110 7 = x308 from h309); have := congrArg Int32.toInt (show FI255 110 8 = x313 from h314); omega) (by have := (e323 : (x322).toInt = (y2).toInt + (1)); have := congrArg Int32.toInt (show FI255 110 7 = x308 from h309); omega) (by have := (e323 : (x322).toInt = (y2).toInt + (1)); have := congrArg Int32.toInt (show FI255 110 5 = x311 from h312); omega) (by have := (e323 : (x322).toInt = (y2).toInt + (1)); have := congrArg Int32.toInt (show FI255 110 4 = x315 from h316); have := congrArg Int32.toInt (show FI255 110 5 = x311 from h312); omega) (by have := (e323 : (x322).toInt = (y2).toInt + (1)); have := congrArg Int32.toInt (show FI255 110 7 = x308 from h309); omega) (by have := (e323 : (x322).toInt = (y2).toInt + (1)); have := congrArg Int32.toInt (show FI255 110 7 = x308 from h309); omega) (by have := (e323 : (x322).toInt = (y2).toInt + (1)); omega) (by have := (e323 : (x322).toInt = (y2).toInt + (1)); omega)) ⟨rfl, rfl, rfl, trivial⟩
  exact hw_L (lp170 ((9 - 1 : Int).toNat + 1) ((1 : Int32)) FI71 FL72 FR131 n92 sl93 SH94 gp98 gw99 gs100 ex_rf hS96 hT133 hk104 (gf_tr ex_rf (gf_tr ex_rf gf_rf f48 rfl rfl rfl) f75 rfl rfl rfl) (gf_tr ex_rf (gf_tr ex_rf gf_rf f49 rfl rfl rfl) f76 rfl rfl rfl) (gf_tx (ex_shd ex95) (gf_tr ex_rf gf_rf f77 rfl rfl rfl) u132 (shd_d (dyn_tag hS96 sh112 (by decide +kernel)) sh112) (by decide)) hI74 hF134 hR135 (show FI71 111 4 = x4 from (gf_at f75 (c111 hS) (shd_f (by decide) (s111 hS)) rfl ((gf_at f48 (c111 hS) (shd_f (by decide) (s111 hS)) rfl (h5))))) (show FR131 a1 2 = r13 from (up_c u132 (ne_tag sh106 sh112 (by decide)) ((gf_at f77 ha1l (shd_d (dyn_tag hS ha1s (by decide +kernel)) ha1s) rfl (h17))))) (show FR131 a1 3 = r14 from (up_c u132 (ne_tag sh106 sh112 (by decide)) ((gf_at f77 ha1l (shd_d (dyn_tag hS ha1s (by decide +kernel)) ha1s) rfl (h18))))) (show FR131 a1 4 = r15 from (up_c u132 (ne_tag sh106 sh112 (by decide)) ((gf_at f77 ha1l (shd_d (dyn_tag hS ha1s (by decide +kernel)) ha1s) rfl (h19))))) (show FR131 a1 0 = r16 from (up_c u132 (ne_tag sh106 sh112 (by decide)) ((gf_at f77 ha1l (shd_d (dyn_tag hS ha1s (by decide +kernel)) ha1s) rfl (h20))))) (by have := ((by decide : (1 : Int32).toInt = 1) : ((1 : Int32)).toInt = 1); omega) (by have := ((by decide : (1 : Int32).toInt = 1) : ((1 : Int32)).toInt = 1); have := congrArg Int32.toInt (show FI71 110 7 = x122 from h123); omega) (by have := ((by decide : (1 : Int32).toInt = 1) : ((1 : Int32)).toInt = 1); have := congrArg Int32.toInt (show FI71 110 5 = x125 from h126); have := congrArg Int32.toInt (show FI71 110 8 = x127 from h128); omega) (by have := ((by decide : (1 : Int32).toInt = 1) : ((1 : Int32)).toInt = 1); have := congrArg Int32.toInt (show FI71 110 7 = x122 from h123); have := congrArg Int32.toInt (show FI71 110 8 = x127 from h128); omega) (by have := ((by decide : (1 : Int32).toInt = 1) : ((1 : Int32)).toInt = 1); have := congrArg Int32.toInt (show FI71 110 7 = x122 from h123); omega) (by have := ((by decide : (1 : Int32).toInt = 1) : ((1 : Int32)).toInt = 1); have := congrArg Int32.toInt (show FI71 110 5 = x125 from h126); omega) (by have := ((by decide : (1 : Int32).toInt = 1) : ((1 : Int32)).toInt = 1); have := congrArg Int32.toInt (show FI71 110 4 = x129 from h130); have := congrArg Int32.toInt (show FI71 110 5 = x125 from h126); omega) (by have := ((by decide : (1 : Int32).toInt = 1) : ((1 : Int32)).toInt = 1); have := congrArg Int32.toInt (show FI71 110 7 = x122 from h123); omega) (by have := ((by decide : (1 : Int32).toInt = 1) : ((1 : Int32)).toInt = 1); have := congrArg Int32.toInt (show FI71 110 7 = x122 from h123); omega) (by have := ((by decide : (1 : Int32).toInt = 1) : ((1 : Int32)).toInt = 1); omega) (by have := ((by decide : (1 : Int32).toInt = 1) : ((1 : Int32)).toInt = 1); omega)) ⟨rfl, rfl, rfl, trivial⟩
end
section
def nJ7_checkLength_df160 : Nat := 0xb1bf4100b73d00b63600b61b3200b65101133600b61a2f00b7592d00bb592b00bb2300a21a1b
theorem bJ7_checkLength_df160 : cJ7_checkLength_df160.data.toList.map UInt8.toNat = x_un nJ7_checkLength_df160 38 := by decide +kernel
def iJ7_checkLength_df160 : List (Nat × Jvm.ClassFile.Instr × Nat) := [(0, .iload_n 1, 1), (1, .iload_n 0, 1), (2, .if_icmp .ge 35, 3), (5, .new 43, 3), (8, .dup, 1), (9, .new 45, 3), (12, .dup, 1), (13, .invokespecial 47, 3), (16, .iload_n 0, 1), (17, .invokevirtual 54, 3), (23, .invokevirtual 50, 3), (26, .iload_n 1, 1), (27, .invokevirtual 54, 3), (30, .invokevirtual 61, 3), (33, .invokespecial 65, 3), (37, .return_, 1)]
theorem dJ7_checkLength_df160 : x_il nJ7_checkLength_df160 38 iJ7_checkLength_df160 = true := by decide +kernel
theorem aJ7_checkLength_df160 (k : Nat) {pc : Nat} {i : Jvm.ClassFile.Instr} {len : Nat} (hk : iJ7_checkLength_df160[k]? = some (pc, i, len)) : x_at xMM 294 pc i len yJ7_checkLength_df160 2 none := ⟨cJ7_checkLength_df160, rfl, x_il_ok bJ7_checkLength_df160 dJ7_checkLength_df160 k hk⟩
set_option maxHeartbeats 4000000 in
set_option maxRecDepth 100000 in
theorem k_J7_checkLength_df160 {sk : xK} {base d n sl : Nat} {SH : Nat → Nat × Nat} {FI : Nat → Nat → Int32} {FL : Nat → Nat → Int64} {FR : Nat → Nat → Option Nat} (hS : h_S n SH) (hF : h_FR FR) (hI : g_I FI) (hR : g_R n SH FR) (a1 : Int32) (a2 : Int32) (g0 : (a1).toInt ≤ (a2).toInt) : hw sk base d none 294 0 [(0, .int (a1)), (1, .int (a2))] [] (n, sl, SH, FI, FL, FR) (h_V (fun s => s = (n, sl, SH, FI, FL, FR))) := by
  have rg_a1 := i_rng a1
  have rg_a2 := i_rng a2
  refine xw_iloadn (aJ7_checkLength_df160 0 rfl) rfl ?_
  refine xw_iloadn (aJ7_checkLength_df160 1 rfl) rfl ?_
  refine hw_icge (tgt := 37) (aJ7_checkLength_df160 2 rfl) (by decide) rfl rfl (fun cd1 => ?_) (fun cd1 => ?_)
  · refine xw_vret (aJ7_checkLength_df160 15 rfl) rfl ?_
    exact ⟨rfl, rfl⟩
  · omega
def nJ7_copyOfRangeInt_feecc : Nat := 0xb004199600b83001b81d641bbe2a0304191b2a043a0abc1d3e641b1c5701b81c1b
theorem bJ7_copyOfRangeInt_feecc : cJ7_copyOfRangeInt_feecc.data.toList.map UInt8.toNat = x_un nJ7_copyOfRangeInt_feecc 33 := by decide +kernel
def iJ7_copyOfRangeInt_feecc : List (Nat × Jvm.ClassFile.Instr × Nat) := [(0, .iload_n 1, 1), (1, .iload_n 2, 1), (2, .invokestatic 343, 3), (5, .iload_n 2, 1), (6, .iload_n 1, 1), (7, .isub, 1), (8, .istore_n 3, 1), (9, .iload_n 3, 1), (10, .newarray .int, 2), (12, .astore 4, 2), (14, .aload_n 0, 1), (15, .iload_n 1, 1), (16, .aload 4, 2), (18, .iconst 0, 1), (19, .aload_n 0, 1), (20, .arraylength, 1), (21, .iload_n 1, 1), (22, .isub, 1), (23, .iload_n 3, 1), (24, .invokestatic 304, 3), (27, .invokestatic 150, 3), (30, .aload 4, 2), (32, .areturn, 1)]
theorem dJ7_copyOfRangeInt_feecc : x_il nJ7_copyOfRangeInt_feecc 33 iJ7_copyOfRangeInt_feecc = true := by decide +kernel
theorem aJ7_copyOfRangeInt_feecc (k : Nat) {pc : Nat} {i : Jvm.ClassFile.Instr} {len : Nat} (hk : iJ7_copyOfRangeInt_feecc[k]? = some (pc, i, len)) : x_at xMM 295 pc i len yJ7_copyOfRangeInt_feecc 5 (some (.array .int)) := ⟨cJ7_copyOfRangeInt_feecc, rfl, x_il_ok bJ7_copyOfRangeInt_feecc dJ7_copyOfRangeInt_feecc k hk⟩
set_option maxHeartbeats 4000000 in
set_option maxRecDepth 100000 in
theorem k_J7_copyOfRangeInt_feecc {sk : xK} {base d n sl : Nat} {SH : Nat → Nat × Nat} {FI : Nat → Nat → Int32} {FL : Nat → Nat → Int64} {FR : Nat → Nat → Option Nat} (hS : h_S n SH) (hF : h_FR FR) (hI : g_I FI) (hR : g_R n SH FR) (a1 : Nat) {z1 : Nat} (ha1l : a1 < n) (ha1s : SH a1 = (100, z1)) (ha1o : own a1) (a2 : Int32) (a3 : Int32) (g0 : (a2).toInt ≤ (a3).toInt ∧ (a3).toInt ≤ (a2).toInt + 20) (g1 : 0 ≤ (a2).toInt ∧ (a2).toInt ≤ 2147483647) (g2 : 0 ≤ (a3).toInt ∧ (a3).toInt ≤ 2147483647) (gg0 : (a3).toInt ≤ (z1 : Int) ∧ z1 < 2147483648) : hw sk base (d + 1) none 295 0 [(0, .ref (base + a1)), (1, .int (a2)), (2, .int (a3))] [] (n, sl, SH, FI, FL, FR) (h_A base (fun r s => ∃ n' sl' SH' FI' FL' FR', s = (n', sl', SH', FI', FL', FR') ∧ g_ex n SH n' SH' ∧ h_S n' SH' ∧ g_I FI' ∧ g_fr n (shd SH) [] [] [] FI FI' ∧ g_fr n (shd SH) [] [] [] FL FL' ∧ g_fr n (shd SH) [] [] [] FR FR' ∧ h_FR FR' ∧ g_R n' SH' FR' ∧ (n' = n + 1) ∧ ((sl' : Int) = sl + ((a3).toInt - (a2).toInt)) ∧ (∀ q, r = some q → q < n' ∧ own q ∧ SH' q = (100, (SH' q).2)) ∧ r ≠ none ∧ (∀ q, r = some q → n ≤ q))) := by
  have rg_a2 := i_rng a2
  have rg_a3 := i_rng a3
  refine xw_iloadn (aJ7_copyOfRangeInt_feecc 0 rfl) rfl ?_
  refine xw_iloadn (aJ7_copyOfRangeInt_feecc 1 rfl) rfl ?_
  refine hw_callS (As := [.int (a2), .int (a3)]) (rest := []) (aJ7_copyOfRangeInt_feecc 2 rfl) wc_RJ7_343 (by decide) rfl wt_yJ7_checkLength_df160 rfl rfl (Nat.le_of_ble_eq_true rfl) (Nat.le_of_ble_eq_true rfl) (k_J7_checkLength_df160 (d := d) hS hF hI hR (a2) (a3) (by omega)) (fun v1 sv2 p3 => ?_)
  obtain ⟨rfl, rfl⟩ := p3
  show hw sk base _ _ _ _ _ [] _ _
  refine xw_iloadn (aJ7_copyOfRangeInt_feecc 3 rfl) rfl ?_
  refine xw_iloadn (aJ7_copyOfRangeInt_feecc 4 rfl) rfl ?_
  refine xw_isub (aJ7_copyOfRangeInt_feecc 5 rfl) ?_
  refine hw_tie (A := ((a3).toInt) - ((a2).toInt)) (i_sub rfl rfl (by omega) (by omega)) (fun x10 e11 => ?_)
  refine xw_istoren (L2 := [(3, .int (x10)), (0, .ref (base + a1)), (1, .int (a2)), (2, .int (a3))]) (aJ7_copyOfRangeInt_feecc 6 rfl) (by decide) rfl ?_
  refine xw_iloadn (aJ7_copyOfRangeInt_feecc 7 rfl) rfl ?_
  have h013 : 0 ≤ (x10).toInt ∧ (x10).toInt ≤ 4000 := by have := (e11 : (x10).toInt = ((a3).toInt) - ((a2).toInt)); omega
  have hz12 := i_cn h013.1
  refine hv_newa (k := 0) (z := (x10).toNatClampNeg) hS hF hI hR (by unfold g_dt; omega) (aJ7_copyOfRangeInt_feecc 8 rfl) rfl (by decide) (tin_1 (i := 149) rfl rfl) (i_nn h013.1) rfl (by omega) (fun n14 sl15 SH16 FI17 FL18 FR19 hsl20 nw21 => ?_)
  obtain ⟨hn22, ex23, hS24, hF25, hI26, hR27, lt28, sh29, dy30, eI31, eL32, eR33, zI34, zL35, zR36⟩ := nw21
  have lt37 := ex_lt ex23 ha1l
  have sh38 := ex_sh ex23 ha1l ha1s
  refine hw_astore (L2 := [(4, .ref (base + n)), (3, .int (x10)), (0, .ref (base + a1)), (1, .int (a2)), (2, .int (a3))]) (aJ7_copyOfRangeInt_feecc 9 rfl) (by decide) rfl ?_
  refine hw_aloadn (aJ7_copyOfRangeInt_feecc 10 rfl) rfl ?_
  refine xw_iloadn (aJ7_copyOfRangeInt_feecc 11 rfl) rfl ?_
  refine hw_aload (aJ7_copyOfRangeInt_feecc 12 rfl) rfl ?_
  refine hw_ic (v := (0 : Int32)) (aJ7_copyOfRangeInt_feecc 13 rfl) (by decide) ?_
  refine hw_aloadn (aJ7_copyOfRangeInt_feecc 14 rfl) rfl ?_
  obtain ⟨x39, h40⟩ : ∃ y, Int32.ofNat z1 = y := ⟨_, rfl⟩
  have b41 : (x39).toInt ≤ ((z1 : Nat) : Int) := by rw [← h40]; exact i_len
  have := i_rng x39
  have h40l := congrArg Int32.toInt h40
  refine hw_alen (k := 0) (v := x39) (aJ7_copyOfRangeInt_feecc 15 rfl) lt37 sh38 (by decide) h40 ?_
  have hz42 := i_ofl gg0.2
  have e43 : 0 ≤ (x39).toInt ∧ (x39).toInt ≤ 2147483647 := by omega
  refine xw_iloadn (aJ7_copyOfRangeInt_feecc 16 rfl) rfl ?_
  refine xw_isub (aJ7_copyOfRangeInt_feecc 17 rfl) ?_
  refine hw_tie (A := ((x39).toInt) - ((a2).toInt)) (i_sub rfl rfl (by omega) (by omega)) (fun x44 e45 => ?_)
  refine xw_iloadn (aJ7_copyOfRangeInt_feecc 18 rfl) rfl ?_
  refine hw_callS (As := [.int (x44), .int (x10)]) (rest := [.int ((0 : Int32)), .ref (base + n), .int (a2), .ref (base + a1)]) (aJ7_copyOfRangeInt_feecc 19 rfl) wc_RJ7_304 (by decide) rfl wt_yJ9_min_7cf53 rfl rfl (Nat.le_of_ble_eq_true rfl) (Nat.le_of_ble_eq_true rfl) (k_J9_min_7cf53 (d := d) hS24 hF25 hI26 hR27 (x44) (x10) ) (fun v46 sv47 p48 => ?_)
  have := (e45 : (x44).toInt = ((x39).toInt) - ((a2).toInt))
  have := (e11 : (x10).toInt = ((a3).toInt) - ((a2).toInt))
  have := (e45 : (x44).toInt = ((x39).toInt) - ((a2).toInt))
  have := (e11 : (x10).toInt = ((a3).toInt) - ((a2).toInt))
  obtain ⟨r49, rfl, rfl, t53, t54⟩ := p48
  have rg_r49 := i_rng r49
  show hw sk base _ _ _ _ _ [.int (r49), .int ((0 : Int32)), .ref (base + n), .int (a2), .ref (base + a1)] _ _
  have hc57z : 0 ≤ (a2).toInt := by omega
  have hc57 : 0 ≤ (a2).toInt ∧ ((a2).toNatClampNeg : Int) = (a2).toInt := ⟨hc57z, i_cn hc57z⟩
  have hc58 : 0 ≤ ((0 : Int32)).toInt ∧ (((0 : Int32)).toNatClampNeg : Int) = 0 := by decide
  have hc59z : 0 ≤ (r49).toInt := by omega
  have hc59 : 0 ≤ (r49).toInt ∧ ((r49).toNatClampNeg : Int) = (r49).toInt := ⟨hc59z, i_cn hc59z⟩
  refine hv_cpy (aJ7_copyOfRangeInt_feecc 20 rfl) (tin_2 (i := 174) rfl rfl) (tin_2 (i := 176) rfl rfl) (tin_2 (i := 175) rfl rfl) (tin_1 (i := 13) rfl rfl) lt37 sh38 lt28 sh29 (i_nn hc57.1) (i_nn hc58.1) (i_nn hc59.1) (by omega) (by have := ((by decide : (0 : Int32).toInt = 0) : ((0 : Int32)).toInt = 0); omega) (Nat.le_of_ble_eq_true rfl) (fun FI60 e61 => ?_)
  have hI62 := gI_off hI26 dy30 e61
  refine hw_aload (aJ7_copyOfRangeInt_feecc 21 rfl) rfl ?_
  refine xw_aret (v := h_rf base (some (n))) (aJ7_copyOfRangeInt_feecc 22 rfl) rfl (by first | exact Or.inl ⟨_, rfl⟩ | exact Or.inr ⟨_, rfl⟩) ?_
  exact ⟨some (n), rfl, n14, sl15, SH16, FI60, FL18, FR19, rfl, ex23, hS24, hI62, (gf_al (gf_al gf_rf (Nat.le_refl _) eI31) (Nat.le_refl _) e61), (gf_al gf_rf (Nat.le_refl _) eL32), (gf_al gf_rf (Nat.le_refl _) eR33), hF25, hR27, (by omega), (by omega), ((fun r e => by cases e; exact ⟨lt28, (Or.inr dy30), by rw [sh29]⟩)), (by simp), (fun q e => by cases e; exact (Nat.le_refl _))⟩
def nJ7_copyOfRange_feecc : Nat := 0xb03d01c03c01b62ab05f01b81c1b2a0a009fbe2a1c09009a1b
theorem bJ7_copyOfRange_feecc : cJ7_copyOfRange_feecc.data.toList.map UInt8.toNat = x_un nJ7_copyOfRange_feecc 25 := by decide +kernel
def iJ7_copyOfRange_feecc : List (Nat × Jvm.ClassFile.Instr × Nat) := [(0, .iload_n 1, 1), (1, .ifCond .ne 9, 3), (4, .iload_n 2, 1), (5, .aload_n 0, 1), (6, .arraylength, 1), (7, .if_icmp .eq 10, 3), (10, .aload_n 0, 1), (11, .iload_n 1, 1), (12, .iload_n 2, 1), (13, .invokestatic 351, 3), (16, .areturn, 1), (17, .aload_n 0, 1), (18, .invokevirtual 316, 3), (21, .checkcast 317, 3), (24, .areturn, 1)]
theorem dJ7_copyOfRange_feecc : x_il nJ7_copyOfRange_feecc 25 iJ7_copyOfRange_feecc = true := by decide +kernel
theorem aJ7_copyOfRange_feecc (k : Nat) {pc : Nat} {i : Jvm.ClassFile.Instr} {len : Nat} (hk : iJ7_copyOfRange_feecc[k]? = some (pc, i, len)) : x_at xMM 296 pc i len yJ7_copyOfRange_feecc 3 (some (.array .int)) := ⟨cJ7_copyOfRange_feecc, rfl, x_il_ok bJ7_copyOfRange_feecc dJ7_copyOfRange_feecc k hk⟩
set_option maxHeartbeats 4000000 in
set_option maxRecDepth 100000 in
theorem k_J7_copyOfRange_feecc {sk : xK} {base d n sl : Nat} {SH : Nat → Nat × Nat} {FI : Nat → Nat → Int32} {FL : Nat → Nat → Int64} {FR : Nat → Nat → Option Nat} (hS : h_S n SH) (hF : h_FR FR) (hI : g_I FI) (hR : g_R n SH FR) (a1 : Nat) {z1 : Nat} (ha1l : a1 < n) (ha1s : SH a1 = (100, z1)) (ha1o : own a1) (a2 : Int32) (a3 : Int32) (g0 : (a2).toInt ≤ (a3).toInt ∧ (a3).toInt ≤ (a2).toInt + 20) (g1 : 0 ≤ (a2).toInt ∧ (a2).toInt ≤ 2147483647) (g2 : 0 ≤ (a3).toInt ∧ (a3).toInt ≤ 2147483647) (gg0 : (a3).toInt ≤ (z1 : Int) ∧ z1 < 2147483648) : hw sk base (d + 2) none 296 0 [(0, .ref (base + a1)), (1, .int (a2)), (2, .int (a3))] [] (n, sl, SH, FI, FL, FR) (h_A base (fun r s => ∃ n' sl' SH' FI' FL' FR', s = (n', sl', SH', FI', FL', FR') ∧ g_ex n SH n' SH' ∧ h_S n' SH' ∧ g_I FI' ∧ g_fr n (shd SH) [] [] [] FI FI' ∧ g_fr n (shd SH) [] [] [] FL FL' ∧ g_fr n (shd SH) [] [] [] FR FR' ∧ h_FR FR' ∧ g_R n' SH' FR' ∧ (n' = n + 1) ∧ ((sl' : Int) = sl + ((a3).toInt - (a2).toInt)) ∧ (∀ q, r = some q → q < n' ∧ own q ∧ SH' q = (100, (SH' q).2)) ∧ r ≠ none ∧ (∀ q, r = some q → n ≤ q))) := by
  have rg_a2 := i_rng a2
  have rg_a3 := i_rng a3
  refine xw_iloadn (aJ7_copyOfRange_feecc 0 rfl) rfl ?_
  refine hw_ifne (tgt := 10) (aJ7_copyOfRange_feecc 1 rfl) (by decide) rfl (fun cd1 => ?_) (fun cd1 => ?_)
  · refine hw_aloadn (aJ7_copyOfRange_feecc 6 rfl) rfl ?_
    refine xw_iloadn (aJ7_copyOfRange_feecc 7 rfl) rfl ?_
    refine xw_iloadn (aJ7_copyOfRange_feecc 8 rfl) rfl ?_
    refine hw_callS (As := [.ref (base + a1), .int (a2), .int (a3)]) (rest := []) (aJ7_copyOfRange_feecc 9 rfl) wc_RJ7_351 (by decide) rfl wt_yJ7_copyOfRangeInt_feecc rfl rfl (Nat.le_of_ble_eq_true rfl) (Nat.le_of_ble_eq_true rfl) (k_J7_copyOfRangeInt_feecc (d := d) hS hF hI hR (a1) ha1l ha1s ha1o (a2) (a3) (by omega) (by omega) (by omega) (gg0)) (fun v2 sv3 p4 => ?_)
    obtain ⟨r5, rfl, n19, sl20, SH21, FI6, FL7, FR8, rfl, ex22, hS23, hI9, f10, f11, f12, hF13, hR14, t15, t16, ht17, nn18, hfr24⟩ := p4
    have lt25 := ex_lt ex22 ha1l
    have sh26 := ex_sh ex22 ha1l ha1s
    obtain ⟨r27, rfl⟩ : ∃ q, r5 = some q := Option.ne_none_iff_exists'.mp nn18
    have fq28 := hfr24 r27 rfl
    have dq29 : 176 ≤ r27 := Nat.le_trans hS.1 fq28
    obtain ⟨lt31, ow32, sh33⟩ := ht17 r27 rfl
    show hw sk base _ _ _ _ _ [.ref (base + r27)] _ _
    refine xw_aret (v := h_rf base (some (r27))) (aJ7_copyOfRange_feecc 10 rfl) rfl (by first | exact Or.inl ⟨_, rfl⟩ | exact Or.inr ⟨_, rfl⟩) ?_
    exact ⟨some (r27), rfl, n19, sl20, SH21, FI6, FL7, FR8, rfl, ex22, hS23, hI9, (gf_tr ex_rf gf_rf f10 rfl rfl rfl), (gf_tr ex_rf gf_rf f11 rfl rfl rfl), (gf_tr ex_rf gf_rf f12 rfl rfl rfl), hF13, hR14, (by omega), (by omega), ((fun r e => by cases e; exact ⟨lt31, ow32, by rw [sh33]⟩)), (by simp), (fun q e => by cases e; exact (Nat.le_trans (Nat.le_refl _) fq28))⟩
  · refine xw_iloadn (aJ7_copyOfRange_feecc 2 rfl) rfl ?_
    refine hw_aloadn (aJ7_copyOfRange_feecc 3 rfl) rfl ?_
    obtain ⟨x34, h35⟩ : ∃ y, Int32.ofNat z1 = y := ⟨_, rfl⟩
    have b36 : (x34).toInt ≤ ((z1 : Nat) : Int) := by rw [← h35]; exact i_len
    have := i_rng x34
    have h35l := congrArg Int32.toInt h35
    refine hw_alen (k := 0) (v := x34) (aJ7_copyOfRange_feecc 4 rfl) ha1l ha1s (by decide) h35 ?_
    have hz37 := i_ofl gg0.2
    refine hw_iceq (tgt := 17) (aJ7_copyOfRange_feecc 5 rfl) (by decide) rfl rfl (fun cd38 => ?_) (fun cd38 => ?_)
    · refine hw_aloadn (aJ7_copyOfRange_feecc 11 rfl) rfl ?_
      refine hv_clone (z := z1) hS hF hI hR (aJ7_copyOfRange_feecc 12 rfl) (tin_2 (i := 164) rfl rfl) (tin_2 (i := 165) rfl rfl) (tin_2 (i := 166) rfl rfl) (tin_2 (i := 167) rfl rfl) (tin_2 (i := 168) rfl rfl) (nin_2 (i := 169) rfl rfl) ha1l ha1s (Nat.le_of_ble_eq_true rfl) (fun n39 sl40 SH41 FI42 FL43 FR44 hsl45 nw46 => ?_)
      obtain ⟨hn47, ex48, hS49, hF50, hI51, hR52, lt53, sh54, dy55, eI56, eL57, eR58, zI59, zL60, zR61⟩ := nw46
      have lt62 := ex_lt ex48 ha1l
      have sh63 := ex_sh ex48 ha1l ha1s
      refine hw_cast (aJ7_copyOfRange_feecc 13 rfl) (tin_2 (i := 170) rfl rfl) lt53 sh54 ?_
      refine xw_aret (v := h_rf base (some (n))) (aJ7_copyOfRange_feecc 14 rfl) rfl (by first | exact Or.inl ⟨_, rfl⟩ | exact Or.inr ⟨_, rfl⟩) ?_
      exact ⟨some (n), rfl, n39, sl40, SH41, FI42, FL43, FR44, rfl, ex48, hS49, hI51, (gf_al gf_rf (Nat.le_refl _) eI56), (gf_al gf_rf (Nat.le_refl _) eL57), (gf_al gf_rf (Nat.le_refl _) eR58), hF50, hR52, (by omega), (by omega), ((fun r e => by cases e; exact ⟨lt53, (Or.inr dy55), by rw [sh54]⟩)), (by simp), (fun q e => by cases e; exact (Nat.le_refl _))⟩
    · refine hw_aloadn (aJ7_copyOfRange_feecc 6 rfl) rfl ?_
      refine xw_iloadn (aJ7_copyOfRange_feecc 7 rfl) rfl ?_
      refine xw_iloadn (aJ7_copyOfRange_feecc 8 rfl) rfl ?_
      refine hw_callS (As := [.ref (base + a1), .int (a2), .int (a3)]) (rest := []) (aJ7_copyOfRange_feecc 9 rfl) wc_RJ7_351 (by decide) rfl wt_yJ7_copyOfRangeInt_feecc rfl rfl (Nat.le_of_ble_eq_true rfl) (Nat.le_of_ble_eq_true rfl) (k_J7_copyOfRangeInt_feecc (d := d) hS hF hI hR (a1) ha1l ha1s ha1o (a2) (a3) (by omega) (by omega) (by omega) (gg0)) (fun v64 sv65 p66 => ?_)
      obtain ⟨r67, rfl, n81, sl82, SH83, FI68, FL69, FR70, rfl, ex84, hS85, hI71, f72, f73, f74, hF75, hR76, t77, t78, ht79, nn80, hfr86⟩ := p66
      have lt87 := ex_lt ex84 ha1l
      have sh88 := ex_sh ex84 ha1l ha1s
      obtain ⟨r89, rfl⟩ : ∃ q, r67 = some q := Option.ne_none_iff_exists'.mp nn80
      have fq90 := hfr86 r89 rfl
      have dq91 : 176 ≤ r89 := Nat.le_trans hS.1 fq90
      obtain ⟨lt93, ow94, sh95⟩ := ht79 r89 rfl
      show hw sk base _ _ _ _ _ [.ref (base + r89)] _ _
      refine xw_aret (v := h_rf base (some (r89))) (aJ7_copyOfRange_feecc 10 rfl) rfl (by first | exact Or.inl ⟨_, rfl⟩ | exact Or.inr ⟨_, rfl⟩) ?_
      exact ⟨some (r89), rfl, n81, sl82, SH83, FI68, FL69, FR70, rfl, ex84, hS85, hI71, (gf_tr ex_rf gf_rf f72 rfl rfl rfl), (gf_tr ex_rf gf_rf f73 rfl rfl rfl), (gf_tr ex_rf gf_rf f74 rfl rfl rfl), hF75, hR76, (by omega), (by omega), ((fun r e => by cases e; exact ⟨lt93, ow94, by rw [sh95]⟩)), (by simp), (fun q e => by cases e; exact (Nat.le_trans (Nat.le_refl _) fq90))⟩
def nX7_letters : Nat := 0xb08000b82e1b1600b42a2e1b1300b42a1900b42ab00abc030700a42e1b1600b42a2e1b1300b42a1200a3be1900b42a2e1b1600b42a2000a22900b42a1b28009b1b
theorem bX7_letters : cX7_letters.data.toList.map UInt8.toNat = x_un nX7_letters 65 := by decide +kernel
def iX7_letters : List (Nat × Jvm.ClassFile.Instr × Nat) := [(0, .iload_n 1, 1), (1, .ifCond .lt 40, 3), (4, .iload_n 1, 1), (5, .aload_n 0, 1), (6, .getfield 41, 3), (9, .if_icmp .ge 32, 3), (12, .aload_n 0, 1), (13, .getfield 22, 3), (16, .iload_n 1, 1), (17, .iaload, 1), (18, .aload_n 0, 1), (19, .getfield 25, 3), (22, .arraylength, 1), (23, .if_icmp .gt 18, 3), (26, .aload_n 0, 1), (27, .getfield 19, 3), (30, .iload_n 1, 1), (31, .iaload, 1), (32, .aload_n 0, 1), (33, .getfield 22, 3), (36, .iload_n 1, 1), (37, .iaload, 1), (38, .if_icmp .le 7, 3), (41, .iconst 0, 1), (42, .newarray .int, 2), (44, .areturn, 1), (45, .aload_n 0, 1), (46, .getfield 25, 3), (49, .aload_n 0, 1), (50, .getfield 19, 3), (53, .iload_n 1, 1), (54, .iaload, 1), (55, .aload_n 0, 1), (56, .getfield 22, 3), (59, .iload_n 1, 1), (60, .iaload, 1), (61, .invokestatic 128, 3), (64, .areturn, 1)]
theorem dX7_letters : x_il nX7_letters 65 iX7_letters = true := by decide +kernel
theorem aX7_letters (k : Nat) {pc : Nat} {i : Jvm.ClassFile.Instr} {len : Nat} (hk : iX7_letters[k]? = some (pc, i, len)) : x_at xMM 77 pc i len yX7_letters 2 (some (.array .int)) := ⟨cX7_letters, rfl, x_il_ok bX7_letters dX7_letters k hk⟩
set_option maxHeartbeats 4000000 in
set_option maxRecDepth 100000 in
theorem k_X7_letters {sk : xK} {base d n sl : Nat} {SH : Nat → Nat × Nat} {FI : Nat → Nat → Int32} {FL : Nat → Nat → Int64} {FR : Nat → Nat → Option Nat} (hS : h_S n SH) (hF : h_FR FR) (hI : g_I FI) (hR : g_R n SH FR) (a1 : Int32) (gg0 : g_K FI) (gg1 : ∀ t, FR 111 5 = some t → (SH t).2 < 2147483648) : hw sk base (d + 3) none 77 0 [(0, .ref (base + 111)), (1, .int (a1))] [] (n, sl, SH, FI, FL, FR) (h_A base (fun r s => ∃ n' sl' SH' FI' FL' FR', s = (n', sl', SH', FI', FL', FR') ∧ g_ex n SH n' SH' ∧ h_S n' SH' ∧ g_I FI' ∧ g_fr n (shd SH) [] [] [] FI FI' ∧ g_fr n (shd SH) [] [] [] FL FL' ∧ g_fr n (shd SH) [] [] [] FR FR' ∧ h_FR FR' ∧ g_R n' SH' FR' ∧ (n' = n + 1) ∧ ((sl' : Int) ≤ sl + 20) ∧ (∀ q, r = some q → q < n' ∧ own q ∧ SH' q = (100, (SH' q).2)) ∧ r ≠ none ∧ (∀ q, r = some q → n ≤ q))) := by
  have rg_a1 := i_rng a1
  refine xw_iloadn (aX7_letters 0 rfl) rfl ?_
  refine hw_iflt (tgt := 41) (aX7_letters 1 rfl) (by decide) rfl (fun cd1 => ?_) (fun cd1 => ?_)
  · refine hw_ic (v := (0 : Int32)) (aX7_letters 23 rfl) (by decide) ?_
    refine hv_newa (k := 0) (z := 0) hS hF hI hR (by unfold g_dt; omega) (aX7_letters 24 rfl) rfl (by decide) (tin_1 (i := 149) rfl rfl) (by decide) (by decide) (by decide) (fun n2 sl3 SH4 FI5 FL6 FR7 hsl8 nw9 => ?_)
    obtain ⟨hn10, ex11, hS12, hF13, hI14, hR15, lt16, sh17, dy18, eI19, eL20, eR21, zI22, zL23, zR24⟩ := nw9
    refine xw_aret (v := h_rf base (some (n))) (aX7_letters 25 rfl) rfl (by first | exact Or.inl ⟨_, rfl⟩ | exact Or.inr ⟨_, rfl⟩) ?_
    exact ⟨some (n), rfl, n2, sl3, SH4, FI5, FL6, FR7, rfl, ex11, hS12, hI14, (gf_al gf_rf (Nat.le_refl _) eI19), (gf_al gf_rf (Nat.le_refl _) eL20), (gf_al gf_rf (Nat.le_refl _) eR21), hF13, hR15, (by omega), (by omega), ((fun r e => by cases e; exact ⟨lt16, (Or.inr dy18), by rw [sh17]⟩)), (by simp), (fun q e => by cases e; exact (Nat.le_refl _))⟩
  · refine xw_iloadn (aX7_letters 2 rfl) rfl ?_
    refine hw_aloadn (aX7_letters 3 rfl) rfl ?_
    obtain ⟨x25, h26⟩ : ∃ y, FI 111 4 = y := ⟨_, rfl⟩
    have h26l := congrArg Int32.toInt h26
    have b27 := gI_111_4 hI; rw [h26] at b27
    refine hw_get (v := .int (x25)) (aX7_letters 4 rfl) wf_RX7_41 (c111 hS) (s111 hS) (by decide) (congrArg Value.int (show FI 111 4 = x25 from h26)) ?_
    refine hw_icge (tgt := 41) (aX7_letters 5 rfl) (by decide) rfl rfl (fun cd28 => ?_) (fun cd28 => ?_)
    · refine hw_ic (v := (0 : Int32)) (aX7_letters 23 rfl) (by decide) ?_
      refine hv_newa (k := 0) (z := 0) hS hF hI hR (by unfold g_dt; omega) (aX7_letters 24 rfl) rfl (by decide) (tin_1 (i := 149) rfl rfl) (by decide) (by decide) (by decide) (fun n29 sl30 SH31 FI32 FL33 FR34 hsl35 nw36 => ?_)
      obtain ⟨hn37, ex38, hS39, hF40, hI41, hR42, lt43, sh44, dy45, eI46, eL47, eR48, zI49, zL50, zR51⟩ := nw36
      refine xw_aret (v := h_rf base (some (n))) (aX7_letters 25 rfl) rfl (by first | exact Or.inl ⟨_, rfl⟩ | exact Or.inr ⟨_, rfl⟩) ?_
      exact ⟨some (n), rfl, n29, sl30, SH31, FI32, FL33, FR34, rfl, ex38, hS39, hI41, (gf_al gf_rf (Nat.le_refl _) eI46), (gf_al gf_rf (Nat.le_refl _) eL47), (gf_al gf_rf (Nat.le_refl _) eR48), hF40, hR42, (by omega), (by omega), ((fun r e => by cases e; exact ⟨lt43, (Or.inr dy45), by rw [sh44]⟩)), (by simp), (fun q e => by cases e; exact (Nat.le_refl _))⟩
    · refine hw_aloadn (aX7_letters 6 rfl) rfl ?_
      refine hw_get (v := .ref (base + 115)) (aX7_letters 7 rfl) wf_RX7_22 (c111 hS) (s111 hS) (by decide) (congrArg (fun r => va_rf (h_rf base r)) (r111_3 hF)) ?_
      refine xw_iloadn (aX7_letters 8 rfl) rfl ?_
      obtain ⟨x52, h53⟩ : ∃ y, FI 115 (a1).toNatClampNeg = y := ⟨_, rfl⟩
      have h53l := congrArg Int32.toInt h53
      have := i_rng x52
      refine hw_iald (v := x52) (aX7_letters 9 rfl) (c115 hS) (s115 hS) (h_in rfl (by omega) (by omega)) (show FI 115 (a1).toNatClampNeg = x52 from h53) ?_
      have b54 := gI_115 hI (i_lt (x := a1) rfl (by omega) (by omega)); rw [h53] at b54
      refine hw_aloadn (aX7_letters 10 rfl) rfl ?_
      obtain ⟨o55, h56⟩ : ∃ y, FR 111 5 = y := ⟨_, rfl⟩
      have ht57 : ∀ r, o55 = some r → r < n ∧ own r ∧ SH r = (100, (SH r).2) := fun r e => gR_get hR (c111 hS) (Or.inl (by decide)) (s111 hS) (h56.trans e)
      obtain ⟨r58, rfl⟩ := gR_nn hR (by unfold g_nn; omega) h56
      obtain ⟨lt59, ow60, sh61⟩ := ht57 r58 rfl
      refine hw_get (v := .ref (base + r58)) (aX7_letters 11 rfl) wf_RX7_25 (c111 hS) (s111 hS) (by decide) (congrArg (fun r => va_rf (h_rf base r)) (show FR 111 5 = some r58 from h56)) ?_
      obtain ⟨x62, h63⟩ : ∃ y, Int32.ofNat (SH r58).2 = y := ⟨_, rfl⟩
      have b64 : (x62).toInt ≤ (((SH r58).2 : Nat) : Int) := by rw [← h63]; exact i_len
      have := i_rng x62
      refine hw_alen (k := 0) (v := x62) (aX7_letters 12 rfl) lt59 sh61 (by decide) h63 ?_
      refine hw_icgt (tgt := 41) (aX7_letters 13 rfl) (by decide) rfl rfl (fun cd65 => ?_) (fun cd65 => ?_)
      · refine hw_ic (v := (0 : Int32)) (aX7_letters 23 rfl) (by decide) ?_
        refine hv_newa (k := 0) (z := 0) hS hF hI hR (by unfold g_dt; omega) (aX7_letters 24 rfl) rfl (by decide) (tin_1 (i := 149) rfl rfl) (by decide) (by decide) (by decide) (fun n66 sl67 SH68 FI69 FL70 FR71 hsl72 nw73 => ?_)
        obtain ⟨hn74, ex75, hS76, hF77, hI78, hR79, lt80, sh81, dy82, eI83, eL84, eR85, zI86, zL87, zR88⟩ := nw73
        have lt89 := ex_lt ex75 lt59
        have sh90 := ex_sh ex75 lt59 sh61
        refine xw_aret (v := h_rf base (some (n))) (aX7_letters 25 rfl) rfl (by first | exact Or.inl ⟨_, rfl⟩ | exact Or.inr ⟨_, rfl⟩) ?_
        exact ⟨some (n), rfl, n66, sl67, SH68, FI69, FL70, FR71, rfl, ex75, hS76, hI78, (gf_al gf_rf (Nat.le_refl _) eI83), (gf_al gf_rf (Nat.le_refl _) eL84), (gf_al gf_rf (Nat.le_refl _) eR85), hF77, hR79, (by omega), (by omega), ((fun r e => by cases e; exact ⟨lt80, (Or.inr dy82), by rw [sh81]⟩)), (by simp), (fun q e => by cases e; exact (Nat.le_refl _))⟩
      · refine hw_aloadn (aX7_letters 14 rfl) rfl ?_
        refine hw_get (v := .ref (base + 114)) (aX7_letters 15 rfl) wf_RX7_19 (c111 hS) (s111 hS) (by decide) (congrArg (fun r => va_rf (h_rf base r)) (r111_2 hF)) ?_
        refine xw_iloadn (aX7_letters 16 rfl) rfl ?_
        obtain ⟨x91, h92⟩ : ∃ y, FI 114 (a1).toNatClampNeg = y := ⟨_, rfl⟩
        have h92l := congrArg Int32.toInt h92
        have := i_rng x91
        refine hw_iald (v := x91) (aX7_letters 17 rfl) (c114 hS) (s114 hS) (h_in rfl (by omega) (by omega)) (show FI 114 (a1).toNatClampNeg = x91 from h92) ?_
        have b93 := gI_114 hI (i_lt (x := a1) rfl (by omega) (by omega)); rw [h92] at b93
        refine hw_aloadn (aX7_letters 18 rfl) rfl ?_
        refine hw_get (v := .ref (base + 115)) (aX7_letters 19 rfl) wf_RX7_22 (c111 hS) (s111 hS) (by decide) (congrArg (fun r => va_rf (h_rf base r)) (r111_3 hF)) ?_
        refine xw_iloadn (aX7_letters 20 rfl) rfl ?_
        refine hw_iald (v := x52) (aX7_letters 21 rfl) (c115 hS) (s115 hS) (h_in rfl (by omega) (by omega)) (show FI 115 (a1).toNatClampNeg = x52 from h53) ?_
        refine hw_icle (tgt := 45) (aX7_letters 22 rfl) (by decide) rfl rfl (fun cd94 => ?_) (fun cd94 => ?_)
        · refine hw_aloadn (aX7_letters 26 rfl) rfl ?_
          refine hw_get (v := .ref (base + r58)) (aX7_letters 27 rfl) wf_RX7_25 (c111 hS) (s111 hS) (by decide) (congrArg (fun r => va_rf (h_rf base r)) (show FR 111 5 = some r58 from h56)) ?_
          refine hw_aloadn (aX7_letters 28 rfl) rfl ?_
          refine hw_get (v := .ref (base + 114)) (aX7_letters 29 rfl) wf_RX7_19 (c111 hS) (s111 hS) (by decide) (congrArg (fun r => va_rf (h_rf base r)) (r111_2 hF)) ?_
          refine xw_iloadn (aX7_letters 30 rfl) rfl ?_
          refine hw_iald (v := x91) (aX7_letters 31 rfl) (c114 hS) (s114 hS) (h_in rfl (by omega) (by omega)) (show FI 114 (a1).toNatClampNeg = x91 from h92) ?_
          refine hw_aloadn (aX7_letters 32 rfl) rfl ?_
          refine hw_get (v := .ref (base + 115)) (aX7_letters 33 rfl) wf_RX7_22 (c111 hS) (s111 hS) (by decide) (congrArg (fun r => va_rf (h_rf base r)) (r111_3 hF)) ?_
          refine xw_iloadn (aX7_letters 34 rfl) rfl ?_
          refine hw_iald (v := x52) (aX7_letters 35 rfl) (c115 hS) (s115 hS) (h_in rfl (by omega) (by omega)) (show FI 115 (a1).toNatClampNeg = x52 from h53) ?_
          have hq9 := i_cn (x := a1) (by omega)
          have hK9 := gg0.2.2 (a1).toNatClampNeg (by omega)
          refine hw_callS (As := [.ref (base + r58), .int (x91), .int (x52)]) (rest := []) (aX7_letters 36 rfl) wc_RX7_128 (by decide) rfl wt_yJ7_copyOfRange_feecc rfl rfl (Nat.le_of_ble_eq_true rfl) (Nat.le_of_ble_eq_true rfl) (k_J7_copyOfRange_feecc (d := d) hS hF hI hR (r58) lt59 sh61 ow60 (x91) (x52) (by omega) (by omega) (by omega) (⟨by omega, gg1 r58 (show FR 111 5 = some r58 from h56)⟩)) (fun v95 sv96 p97 => ?_)
          obtain ⟨r98, rfl, n112, sl113, SH114, FI99, FL100, FR101, rfl, ex115, hS116, hI102, f103, f104, f105, hF106, hR107, t108, t109, ht110, nn111, hfr117⟩ := p97
          have lt118 := ex_lt ex115 lt59
          have sh119 := ex_sh ex115 lt59 sh61
          obtain ⟨r120, rfl⟩ : ∃ q, r98 = some q := Option.ne_none_iff_exists'.mp nn111
          have fq121 := hfr117 r120 rfl
          have dq122 : 176 ≤ r120 := Nat.le_trans hS.1 fq121
          obtain ⟨lt124, ow125, sh126⟩ := ht110 r120 rfl
          show hw sk base _ _ _ _ _ [.ref (base + r120)] _ _
          refine xw_aret (v := h_rf base (some (r120))) (aX7_letters 37 rfl) rfl (by first | exact Or.inl ⟨_, rfl⟩ | exact Or.inr ⟨_, rfl⟩) ?_
          exact ⟨some (r120), rfl, n112, sl113, SH114, FI99, FL100, FR101, rfl, ex115, hS116, hI102, (gf_tr ex_rf gf_rf f103 rfl rfl rfl), (gf_tr ex_rf gf_rf f104 rfl rfl rfl), (gf_tr ex_rf gf_rf f105 rfl rfl rfl), hF106, hR107, (by omega), (by omega), ((fun r e => by cases e; exact ⟨lt124, ow125, by rw [sh126]⟩)), (by simp), (fun q e => by cases e; exact (Nat.le_trans (Nat.le_refl _) fq121))⟩
        · refine hw_ic (v := (0 : Int32)) (aX7_letters 23 rfl) (by decide) ?_
          refine hv_newa (k := 0) (z := 0) hS hF hI hR (by unfold g_dt; omega) (aX7_letters 24 rfl) rfl (by decide) (tin_1 (i := 149) rfl rfl) (by decide) (by decide) (by decide) (fun n127 sl128 SH129 FI130 FL131 FR132 hsl133 nw134 => ?_)
          obtain ⟨hn135, ex136, hS137, hF138, hI139, hR140, lt141, sh142, dy143, eI144, eL145, eR146, zI147, zL148, zR149⟩ := nw134
          have lt150 := ex_lt ex136 lt59
          have sh151 := ex_sh ex136 lt59 sh61
          refine xw_aret (v := h_rf base (some (n))) (aX7_letters 25 rfl) rfl (by first | exact Or.inl ⟨_, rfl⟩ | exact Or.inr ⟨_, rfl⟩) ?_
          exact ⟨some (n), rfl, n127, sl128, SH129, FI130, FL131, FR132, rfl, ex136, hS137, hI139, (gf_al gf_rf (Nat.le_refl _) eI144), (gf_al gf_rf (Nat.le_refl _) eL145), (gf_al gf_rf (Nat.le_refl _) eR146), hF138, hR140, (by omega), (by omega), ((fun r e => by cases e; exact ⟨lt141, (Or.inr dy143), by rw [sh142]⟩)), (by simp), (fun q e => by cases e; exact (Nat.le_refl _))⟩
def nX4_areSame : Nat := 0xac04ecffa7010284ac0305009f2e1c2b2e1c2a1400a2be2a1c3d03ac0305009fbe2bbe2a
theorem bX4_areSame : cX4_areSame.data.toList.map UInt8.toNat = x_un nX4_areSame 36 := by decide +kernel
def iX4_areSame : List (Nat × Jvm.ClassFile.Instr × Nat) := [(0, .aload_n 0, 1), (1, .arraylength, 1), (2, .aload_n 1, 1), (3, .arraylength, 1), (4, .if_icmp .eq 5, 3), (7, .iconst 0, 1), (8, .ireturn, 1), (9, .iconst 0, 1), (10, .istore_n 2, 1), (11, .iload_n 2, 1), (12, .aload_n 0, 1), (13, .arraylength, 1), (14, .if_icmp .ge 20, 3), (17, .aload_n 0, 1), (18, .iload_n 2, 1), (19, .iaload, 1), (20, .aload_n 1, 1), (21, .iload_n 2, 1), (22, .iaload, 1), (23, .if_icmp .eq 5, 3), (26, .iconst 0, 1), (27, .ireturn, 1), (28, .iinc 2 1, 3), (31, .goto (-20), 3), (34, .iconst 1, 1), (35, .ireturn, 1)]
theorem dX4_areSame : x_il nX4_areSame 36 iX4_areSame = true := by decide +kernel
theorem aX4_areSame (k : Nat) {pc : Nat} {i : Jvm.ClassFile.Instr} {len : Nat} (hk : iX4_areSame[k]? = some (pc, i, len)) : x_at xMM 44 pc i len yX4_areSame 3 (some .boolean) := ⟨cX4_areSame, rfl, x_il_ok bX4_areSame dX4_areSame k hk⟩
set_option maxHeartbeats 4000000 in
set_option maxRecDepth 100000 in
theorem k_X4_areSame {sk : xK} {base d n sl : Nat} {SH : Nat → Nat × Nat} {FI : Nat → Nat → Int32} {FL : Nat → Nat → Int64} {FR : Nat → Nat → Option Nat} (hS : h_S n SH) (hF : h_FR FR) (hI : g_I FI) (hR : g_R n SH FR) (a1 : Nat) {z1 : Nat} (ha1l : a1 < n) (ha1s : SH a1 = (100, z1)) (ha1o : own a1) (a2 : Nat) {z2 : Nat} (ha2l : a2 < n) (ha2s : SH a2 = (100, z2)) (ha2o : own a2) : hw sk base d none 44 0 [(0, .ref (base + a1)), (1, .ref (base + a2))] [] (n, sl, SH, FI, FL, FR) (h_I (fun r s => s = (n, sl, SH, FI, FL, FR) ∧ (0 ≤ r.toInt ∧ r.toInt ≤ 1))) := by
  refine hw_aloadn (aX4_areSame 0 rfl) rfl ?_
  obtain ⟨x1, h2⟩ : ∃ y, Int32.ofNat z1 = y := ⟨_, rfl⟩
  have b3 : (x1).toInt ≤ ((z1 : Nat) : Int) := by rw [← h2]; exact i_len
  have := i_rng x1
  have h2l := congrArg Int32.toInt h2
  refine hw_alen (k := 0) (v := x1) (aX4_areSame 1 rfl) ha1l ha1s (by decide) h2 ?_
  refine hw_aloadn (aX4_areSame 2 rfl) rfl ?_
  obtain ⟨x4, h5⟩ : ∃ y, Int32.ofNat z2 = y := ⟨_, rfl⟩
  have b6 : (x4).toInt ≤ ((z2 : Nat) : Int) := by rw [← h5]; exact i_len
  have := i_rng x4
  have h5l := congrArg Int32.toInt h5
  refine hw_alen (k := 0) (v := x4) (aX4_areSame 3 rfl) ha2l ha2s (by decide) h5 ?_
  refine hw_iceq (tgt := 9) (aX4_areSame 4 rfl) (by decide) rfl rfl (fun cd7 => ?_) (fun cd7 => ?_)
  · refine hw_ic (v := (0 : Int32)) (aX4_areSame 7 rfl) (by decide) ?_
    refine xw_istoren (L2 := [(2, .int ((0 : Int32))), (0, .ref (base + a1)), (1, .ref (base + a2))]) (aX4_areSame 8 rfl) (by decide) rfl ?_
    have lp9 : ∀ (m : Nat) (y2 : Int32), (0 ≤ (y2).toInt ∧ (y2).toInt ≤ 2147483647) → 2147483648 - (y2).toInt < m → hw sk base d none 44 11 [(2, .int (y2)), (0, .ref (base + a1)), (1, .ref (base + a2))] [] (n, sl, SH, FI, FL, FR) (h_I (fun r s => s = (n, sl, SH, FI, FL, FR) ∧ (0 ≤ r.toInt ∧ r.toInt ≤ 1))) := by
      intro m
      induction m with
      | zero => intro y2 iv8 hm; omega
      | succ m ih =>
        intro y2 iv8 hm
        have rg_y2 := i_rng y2
        refine xw_iloadn (aX4_areSame 9 rfl) rfl ?_
        refine hw_aloadn (aX4_areSame 10 rfl) rfl ?_
        obtain ⟨x10, h11⟩ : ∃ y, Int32.ofNat z1 = y := ⟨_, rfl⟩
        have b12 : (x10).toInt ≤ ((z1 : Nat) : Int) := by rw [← h11]; exact i_len
        have := i_rng x10
        have h11l := congrArg Int32.toInt h11
        refine hw_alen (k := 0) (v := x10) (aX4_areSame 11 rfl) ha1l ha1s (by decide) h11 ?_
        refine hw_icge (tgt := 34) (aX4_areSame 12 rfl) (by decide) rfl rfl (fun cd13 => ?_) (fun cd13 => ?_)
        · refine hw_ic (v := (1 : Int32)) (aX4_areSame 24 rfl) (by decide) ?_
          refine xw_iret (aX4_areSame 25 rfl) rfl (by decide) ?_
          have e14 : ((1 : Int32)).toInt = 1 := (by decide : (1 : Int32).toInt = 1)
          exact ⟨(1 : Int32), rfl, rfl, (by have : ((1 : Int32)).toInt = 1 := (by decide); omega)⟩
        · refine hw_aloadn (aX4_areSame 13 rfl) rfl ?_
          refine xw_iloadn (aX4_areSame 14 rfl) rfl ?_
          obtain ⟨x15, h16⟩ : ∃ y, FI a1 (y2).toNatClampNeg = y := ⟨_, rfl⟩
          have h16l := congrArg Int32.toInt h16
          have := i_rng x15
          refine hw_iald (v := x15) (aX4_areSame 15 rfl) ha1l ha1s (h_in rfl (by omega) (by omega)) (show FI a1 (y2).toNatClampNeg = x15 from h16) ?_
          refine hw_aloadn (aX4_areSame 16 rfl) rfl ?_
          refine xw_iloadn (aX4_areSame 17 rfl) rfl ?_
          obtain ⟨x17, h18⟩ : ∃ y, FI a2 (y2).toNatClampNeg = y := ⟨_, rfl⟩
          have h18l := congrArg Int32.toInt h18
          have := i_rng x17
          refine hw_iald (v := x17) (aX4_areSame 18 rfl) ha2l ha2s (h_in rfl (by omega) (by omega)) (show FI a2 (y2).toNatClampNeg = x17 from h18) ?_
          refine hw_iceq (tgt := 28) (aX4_areSame 19 rfl) (by decide) rfl rfl (fun cd19 => ?_) (fun cd19 => ?_)
          · obtain ⟨x20, q22⟩ : ∃ y : Int32, (y2) + Int32.ofInt (1) = y := ⟨_, rfl⟩
            have e21 : (x20).toInt = (y2).toInt + (1) := by rw [← q22]; exact i_add rfl (by decide) (by omega) (by omega)
            refine xw_iinc (L2 := [(2, .int (x20)), (0, .ref (base + a1)), (1, .ref (base + a2))]) (aX4_areSame 22 rfl) rfl (by decide) (by rw [q22]; rfl) ?_
            refine xw_goto (tgt := 11) (aX4_areSame 23 rfl) (by decide) ?_
            exact hw_L (ih (x20) (by have := (e21 : (x20).toInt = (y2).toInt + (1)); omega) (by have := (e21 : (x20).toInt = (y2).toInt + (1)); omega)) ⟨rfl, rfl, rfl, trivial⟩
          · refine hw_ic (v := (0 : Int32)) (aX4_areSame 20 rfl) (by decide) ?_
            refine xw_iret (aX4_areSame 21 rfl) rfl (by decide) ?_
            have e23 : ((0 : Int32)).toInt = 0 := (by decide : (0 : Int32).toInt = 0)
            exact ⟨(0 : Int32), rfl, rfl, (by have : ((0 : Int32)).toInt = 0 := (by decide); omega)⟩
    exact hw_L (lp9 ((2147483648 - 0 : Int).toNat + 1) ((0 : Int32)) (by have := ((by decide : (0 : Int32).toInt = 0) : ((0 : Int32)).toInt = 0); omega) (by have := ((by decide : (0 : Int32).toInt = 0) : ((0 : Int32)).toInt = 0); omega)) ⟨rfl, rfl, rfl, trivial⟩
  · refine hw_ic (v := (0 : Int32)) (aX4_areSame 5 rfl) (by decide) ?_
    refine xw_iret (aX4_areSame 6 rfl) rfl (by decide) ?_
    have e24 : ((0 : Int32)).toInt = 0 := (by decide : (0 : Int32).toInt = 0)
    exact ⟨(0 : Int32), rfl, rfl, (by have : ((0 : Int32)).toInt = 0 := (by decide); omega)⟩
def nX4_isKnown : Nat := 0xac03daffa7010284ac040500996400b82b6100b4321c1800b42a1b00a2be1800b42a1c2400a22000b42a1c3d03
theorem bX4_isKnown : cX4_isKnown.data.toList.map UInt8.toNat = x_un nX4_isKnown 45 := by decide +kernel
def iX4_isKnown : List (Nat × Jvm.ClassFile.Instr × Nat) := [(0, .iconst 0, 1), (1, .istore_n 2, 1), (2, .iload_n 2, 1), (3, .aload_n 0, 1), (4, .getfield 32, 3), (7, .if_icmp .ge 36, 3), (10, .iload_n 2, 1), (11, .aload_n 0, 1), (12, .getfield 24, 3), (15, .arraylength, 1), (16, .if_icmp .ge 27, 3), (19, .aload_n 0, 1), (20, .getfield 24, 3), (23, .iload_n 2, 1), (24, .aaload, 1), (25, .getfield 97, 3), (28, .aload_n 1, 1), (29, .invokestatic 100, 3), (32, .ifCond .eq 5, 3), (35, .iconst 1, 1), (36, .ireturn, 1), (37, .iinc 2 1, 3), (40, .goto (-38), 3), (43, .iconst 0, 1), (44, .ireturn, 1)]
theorem dX4_isKnown : x_il nX4_isKnown 45 iX4_isKnown = true := by decide +kernel
theorem aX4_isKnown (k : Nat) {pc : Nat} {i : Jvm.ClassFile.Instr} {len : Nat} (hk : iX4_isKnown[k]? = some (pc, i, len)) : x_at xMM 43 pc i len yX4_isKnown 3 (some .boolean) := ⟨cX4_isKnown, rfl, x_il_ok bX4_isKnown dX4_isKnown k hk⟩
set_option maxHeartbeats 4000000 in
set_option maxRecDepth 100000 in
theorem k_X4_isKnown {sk : xK} {base d n sl : Nat} {SH : Nat → Nat × Nat} {FI : Nat → Nat → Int32} {FL : Nat → Nat → Int64} {FR : Nat → Nat → Option Nat} (hS : h_S n SH) (hF : h_FR FR) (hI : g_I FI) (hR : g_R n SH FR) (a1 : Nat) {z1 : Nat} (ha1l : a1 < n) (ha1s : SH a1 = (100, z1)) (ha1o : own a1) (lo : Nat) (gg0 : g_PV lo SH FR (FI 110 3).toInt) : hw sk base (d + 1) none 43 0 [(0, .ref (base + 110)), (1, .ref (base + a1))] [] (n, sl, SH, FI, FL, FR) (h_I (fun r s => s = (n, sl, SH, FI, FL, FR) ∧ (0 ≤ r.toInt ∧ r.toInt ≤ 1))) := by
  obtain ⟨pv, h1, h2, h3, h4, h5⟩ := gg0
  obtain ⟨lt7, ow8, sh9⟩ := gR_get hR (c110 hS) (Or.inl (by decide)) (s110 hS) h1
  refine hw_ic (v := (0 : Int32)) (aX4_isKnown 0 rfl) (by decide) ?_
  refine xw_istoren (L2 := [(2, .int ((0 : Int32))), (0, .ref (base + 110)), (1, .ref (base + a1))]) (aX4_isKnown 1 rfl) (by decide) rfl ?_
  have lp11 : ∀ (m : Nat) (y2 : Int32), (0 ≤ (y2).toInt ∧ (y2).toInt ≤ 12) → 13 - (y2).toInt < m → hw sk base (d + 1) none 43 2 [(2, .int (y2)), (0, .ref (base + 110)), (1, .ref (base + a1))] [] (n, sl, SH, FI, FL, FR) (h_I (fun r s => s = (n, sl, SH, FI, FL, FR) ∧ (0 ≤ r.toInt ∧ r.toInt ≤ 1))) := by
    intro m
    induction m with
    | zero => intro y2 iv10 hm; omega
    | succ m ih =>
      intro y2 iv10 hm
      have rg_y2 := i_rng y2
      refine xw_iloadn (aX4_isKnown 2 rfl) rfl ?_
      refine hw_aloadn (aX4_isKnown 3 rfl) rfl ?_
      obtain ⟨x12, h13⟩ : ∃ y, FI 110 3 = y := ⟨_, rfl⟩
      have h13l := congrArg Int32.toInt h13
      have b14 := gI_110_3 hI; rw [h13] at b14
      refine hw_get (v := .int (x12)) (aX4_isKnown 4 rfl) wf_RX4_32 (c110 hS) (s110 hS) (by decide) (congrArg Value.int (show FI 110 3 = x12 from h13)) ?_
      refine hw_icge (tgt := 43) (aX4_isKnown 5 rfl) (by decide) rfl rfl (fun cd15 => ?_) (fun cd15 => ?_)
      · refine hw_ic (v := (0 : Int32)) (aX4_isKnown 23 rfl) (by decide) ?_
        refine xw_iret (aX4_isKnown 24 rfl) rfl (by decide) ?_
        have e16 : ((0 : Int32)).toInt = 0 := (by decide : (0 : Int32).toInt = 0)
        exact ⟨(0 : Int32), rfl, rfl, (by have : ((0 : Int32)).toInt = 0 := (by decide); omega)⟩
      · refine xw_iloadn (aX4_isKnown 6 rfl) rfl ?_
        refine hw_aloadn (aX4_isKnown 7 rfl) rfl ?_
        refine hw_get (v := .ref (base + pv)) (aX4_isKnown 8 rfl) wf_RX4_24 (c110 hS) (s110 hS) (by decide) (congrArg (fun r => va_rf (h_rf base r)) (show FR 110 2 = some pv from h1)) ?_
        refine hw_alen (k := 4) (z := 12) (v := (12 : Int32)) (aX4_isKnown 9 rfl) lt7 h2 (by decide) (by decide) ?_
        refine hw_icge (tgt := 43) (aX4_isKnown 10 rfl) (by decide) rfl (by decide : (12 : Int32).toInt = 12) (fun cd17 => ?_) (fun cd17 => ?_)
        · omega
        · refine hw_aloadn (aX4_isKnown 11 rfl) rfl ?_
          refine hw_get (v := .ref (base + pv)) (aX4_isKnown 12 rfl) wf_RX4_24 (c110 hS) (s110 hS) (by decide) (congrArg (fun r => va_rf (h_rf base r)) (show FR 110 2 = some pv from h1)) ?_
          refine xw_iloadn (aX4_isKnown 13 rfl) rfl ?_
          obtain ⟨r18, h19, h20, h21, h22⟩ := h5 (y2).toNatClampNeg (by have := i_cn (x := y2) (by omega); have := congrArg Int32.toInt (show FI 110 3 = x12 from h13); omega)
          obtain ⟨lt23, ow24, sh25⟩ := gR_get hR lt7 ow8 h2 h19
          obtain ⟨-, -, -, r26, h27⟩ := h22
          obtain ⟨lt28, ow29, sh30⟩ := gR_get hR lt23 ow24 sh25 h27
          refine hw_aald (k := 4) (v := some (r18)) (aX4_isKnown 14 rfl) lt7 h2 (by decide) (by decide) (h_in rfl (by omega) (by omega)) (show FR pv (y2).toNatClampNeg = some (r18) from h19) ?_
          refine hw_get (v := .ref (base + r26)) (aX4_isKnown 15 rfl) wf_RX4_97 lt23 sh25 (by decide) (congrArg (fun r => va_rf (h_rf base r)) (show FR r18 0 = some r26 from h27)) ?_
          refine hw_aloadn (aX4_isKnown 16 rfl) rfl ?_
          refine hw_callS (As := [.ref (base + r26), .ref (base + a1)]) (rest := []) (aX4_isKnown 17 rfl) wc_RX4_100 (by decide) rfl wt_yX4_areSame rfl rfl (Nat.le_of_ble_eq_true rfl) (Nat.le_of_ble_eq_true rfl) (k_X4_areSame (d := d) hS hF hI hR (r26) lt28 sh30 ow29 (a1) ha1l ha1s ha1o ) (fun v31 sv32 p33 => ?_)
          obtain ⟨r34, rfl, rfl, t38⟩ := p33
          show hw sk base _ _ _ _ _ [.int (r34)] _ _
          refine hw_ifeq (tgt := 37) (aX4_isKnown 18 rfl) (by decide) rfl (fun cd41 => ?_) (fun cd41 => ?_)
          · obtain ⟨x42, q44⟩ : ∃ y : Int32, (y2) + Int32.ofInt (1) = y := ⟨_, rfl⟩
            have e43 : (x42).toInt = (y2).toInt + (1) := by rw [← q44]; exact i_add rfl (by decide) (by omega) (by omega)
            refine xw_iinc (L2 := [(2, .int (x42)), (0, .ref (base + 110)), (1, .ref (base + a1))]) (aX4_isKnown 21 rfl) rfl (by decide) (by rw [q44]; rfl) ?_
            refine xw_goto (tgt := 2) (aX4_isKnown 22 rfl) (by decide) ?_
            exact hw_L (ih (x42) (by have := (e43 : (x42).toInt = (y2).toInt + (1)); omega) (by have := (e43 : (x42).toInt = (y2).toInt + (1)); omega)) ⟨rfl, rfl, rfl, trivial⟩
          · refine hw_ic (v := (1 : Int32)) (aX4_isKnown 19 rfl) (by decide) ?_
            refine xw_iret (aX4_isKnown 20 rfl) rfl (by decide) ?_
            have e45 : ((1 : Int32)).toInt = 1 := (by decide : (1 : Int32).toInt = 1)
            exact ⟨(1 : Int32), rfl, rfl, (by have : ((1 : Int32)).toInt = 1 := (by decide); omega)⟩
  exact hw_L (lp11 ((13 - 0 : Int).toNat + 1) ((0 : Int32)) (by have := ((by decide : (0 : Int32).toInt = 0) : ((0 : Int32)).toInt = 0); omega) (by have := ((by decide : (0 : Int32).toInt = 0) : ((0 : Int32)).toInt = 0); omega)) ⟨rfl, rfl, rfl, trivial⟩
end
section
theorem gT_ex {n n2 : Nat} {SH SH2 : Nat → Nat × Nat} {FI FI2 : Nat → Nat → Int32} {FR FR2 : Nat → Nat → Option Nat} {gp gw gs : Nat → Nat} (hS : h_S n SH) (hR : g_R n SH FR) (H : g_T n SH FI FR gp gw gs) (ex : g_ex n SH n2 SH2) (ht : ∀ c, n ≤ c → c < n2 → (SH2 c).1 ≠ 3 ∧ (SH2 c).1 ≠ 6) (eI : ∀ c, c < n → (SH c).1 = 3 → FI2 c 0 = FI c 0) (eR : ∀ c k, c < n → (SH c).1 = 3 ∨ (SH c).1 = 6 → FR2 c k = FR c k) : g_T n2 SH2 FI2 FR2 gp gw gs := by
  have hx := ex.1
  refine ⟨fun d hd hsd => ?_, fun p hp hsp => ?_⟩
  · have hd' : d < n := by
      rcases Nat.lt_or_ge d n with h | h
      · exact h
      · exact absurd hsd (ht d h hd).1
    rw [ex.2 d hd'] at hsd
    obtain ⟨a1, a2, a3, a4, a5, a6⟩ := H.1 d hd' hsd
    simp only [eR d _ hd' (Or.inl hsd), eI d hd' hsd]
    refine ⟨a1, a2, a3, a4, by omega, fun h1 h2 => ?_⟩
    rw [ex.2 _ a5] at h1
    rw [eI _ a5 h1] at h2
    exact a6 h1 h2
  · have hp' : p < n := by
      rcases Nat.lt_or_ge p n with h | h
      · exact h
      · exact absurd hsp (ht p h hp).2
    rw [ex.2 p hp'] at hsp
    have hp0 : 176 ≤ p := g_dynt hS hsp (by decide +kernel)
    obtain ⟨a1, a2, a3, a4, a5⟩ := H.2 p hp' hsp
    simp only [eR p _ hp' (Or.inr hsp)]
    exact ⟨a1, fun y e => by rw [ex.2 y (gR_t hR hp' hp0 hsp e).1]; exact a2 y e, a3, a4, a5⟩
end
section
set_option maxHeartbeats 4000000 in
set_option maxRecDepth 100000 in
theorem k_Vinit2 {sk : xK} {base d n sl : Nat} {SH : Nat → Nat × Nat} {FI : Nat → Nat → Int32} {FL : Nat → Nat → Int64} {FR : Nat → Nat → Option Nat} (hS : h_S n SH) (hF : h_FR FR) (hI : g_I FI) (hR : g_R n SH FR) (c : Nat) {zc : Nat} (hc : c < n) (hsc : SH c = (10, zc)) (hoc : own c) (hdc : 176 ≤ c) (a1 : Nat) {z1 : Nat} (ha1l : a1 < n) (ha1s : SH a1 = (100, z1)) (ha1o : own a1) (a2 : Int32) (gg0 : 176 ≤ a1) : hw sk base (d + 1) none 116 0 [(0, .ref (base + c)), (1, .ref (base + a1)), (2, .int (a2))] [] (n, sl, SH, FI, FL, FR) (h_V (fun s => ∃ n' sl' SH' FI' FL' FR', s = (n', sl', SH', FI', FL', FR') ∧ g_ex n SH n' SH' ∧ h_S n' SH' ∧ g_I FI' ∧ g_fr c (shd SH) [] [] [] FI FI' ∧ g_fr c (shd SH) [] [] [] FL FL' ∧ g_fr c (shd SH) [] [] [] FR FR' ∧ h_FR FR' ∧ g_R n' SH' FR' ∧ (n' = n + 4) ∧ (sl' = sl + 24) ∧ (g_Vv SH' FR' c) ∧ (∃ k, FR' c 6 = some k) ∧ (∀ c9, n ≤ c9 → c9 < n' → (SH' c9).1 ≠ 3 ∧ (SH' c9).1 ≠ 6))) := by
  have rg_a2 := i_rng a2
  refine hw_aloadn (aX10_init 0 rfl) rfl ?_
  refine hw_obj (aX10_init 1 rfl) (tin_4 (i := 204) rfl rfl) (tin_1 (i := 28) rfl rfl) (tin_1 (i := 29) rfl rfl) (Nat.le_of_ble_eq_true rfl) ?_
  refine hw_aloadn (aX10_init 2 rfl) rfl ?_
  refine hw_bp (v := (8 : Int32)) (aX10_init 3 rfl) (by decide) ?_
  refine hv_newa (k := 1) (z := 8) hS hF hI hR (by unfold g_dt; omega) (aX10_init 4 rfl) rfl (by decide) (tin_1 (i := 150) rfl rfl) (by decide) (by decide) (by decide) (fun n1 sl2 SH3 FI4 FL5 FR6 hsl7 nw8 => ?_)
  obtain ⟨hn9, ex10, hS11, hF12, hI13, hR14, lt15, sh16, dy17, eI18, eL19, eR20, zI21, zL22, zR23⟩ := nw8
  have lt24 := ex_lt ex10 ha1l
  have sh25 := ex_sh ex10 ha1l ha1s
  have lt26 := ex_lt ex10 hc
  have sh27 := ex_sh ex10 hc hsc
  refine hv_putr (r := some (n)) (aX10_init 5 rfl) wf_RX10_9 lt26 sh27 (by decide) (by first | exact Or.inl ⟨_, rfl⟩ | exact Or.inr ⟨_, rfl⟩) (Or.inr ⟨rfl, rfl, rfl, wf_RX10_9F⟩) (fun FR28 u29 => ?_)
  have hF30 : h_FR FR28 := hF_up hS11 hF12 u29 sh27 (by decide +kernel)
  have hR31 : g_R n1 SH3 FR28 := gR_up hR14 u29 sh27 (fun r e => by cases e; exact ⟨lt15, (Or.inr dy17), by rw [sh16]; rfl⟩) (fun _ r e => by cases e; exact dy17) (fun _ => by simp) (fun h => absurd h.1 (ne_tag sh27 (s49 hS11) (by decide)))
  refine hw_aloadn (aX10_init 6 rfl) rfl ?_
  refine hw_bp (v := (8 : Int32)) (aX10_init 7 rfl) (by decide) ?_
  refine hv_newa (k := 1) (z := 8) hS11 hF30 hI13 hR31 (by unfold g_dt; omega) (aX10_init 8 rfl) rfl (by decide) (tin_1 (i := 150) rfl rfl) (by decide) (by decide) (by decide) (fun n32 sl33 SH34 FI35 FL36 FR37 hsl38 nw39 => ?_)
  obtain ⟨hn40, ex41, hS42, hF43, hI44, hR45, lt46, sh47, dy48, eI49, eL50, eR51, zI52, zL53, zR54⟩ := nw39
  have lt55 := ex_lt ex41 lt24
  have sh56 := ex_sh ex41 lt24 sh25
  have lt57 := ex_lt ex41 lt26
  have sh58 := ex_sh ex41 lt26 sh27
  have lt59 := ex_lt ex41 lt15
  have sh60 := ex_sh ex41 lt15 sh16
  have ex61 := ex_tr ex10 ex41
  refine hv_putr (r := some (n1)) (aX10_init 9 rfl) wf_RX10_13 lt57 sh58 (by decide) (by first | exact Or.inl ⟨_, rfl⟩ | exact Or.inr ⟨_, rfl⟩) (Or.inr ⟨rfl, rfl, rfl, wf_RX10_13F⟩) (fun FR62 u63 => ?_)
  have hF64 : h_FR FR62 := hF_up hS42 hF43 u63 sh58 (by decide +kernel)
  have hR65 : g_R n32 SH34 FR62 := gR_up hR45 u63 sh58 (fun r e => by cases e; exact ⟨lt46, (Or.inr dy48), by rw [sh47]; rfl⟩) (fun _ r e => by cases e; exact dy48) (fun _ => by simp) (fun h => absurd h.1 (ne_tag sh58 (s49 hS42) (by decide)))
  refine hw_aloadn (aX10_init 10 rfl) rfl ?_
  refine hw_bp (v := (8 : Int32)) (aX10_init 11 rfl) (by decide) ?_
  refine hv_newq (k := 5) (z := 8) hS42 hF64 hI44 hR65 (by unfold g_dt; omega) (aX10_init 12 rfl) rfl (by decide) (tin_4 (i := 205) rfl rfl) (nin_4 (i := 206) rfl rfl) (by decide) (by decide) (by decide) (fun n66 sl67 SH68 FI69 FL70 FR71 hsl72 nw73 => ?_)
  obtain ⟨hn74, ex75, hS76, hF77, hI78, hR79, lt80, sh81, dy82, eI83, eL84, eR85, zI86, zL87, zR88⟩ := nw73
  have lt89 := ex_lt ex75 lt55
  have sh90 := ex_sh ex75 lt55 sh56
  have lt91 := ex_lt ex75 lt57
  have sh92 := ex_sh ex75 lt57 sh58
  have lt93 := ex_lt ex75 lt59
  have sh94 := ex_sh ex75 lt59 sh60
  have lt95 := ex_lt ex75 lt46
  have sh96 := ex_sh ex75 lt46 sh47
  have ex97 := ex_tr ex61 ex75
  refine hv_putr (r := some (n32)) (aX10_init 13 rfl) wf_RX10_18 lt91 sh92 (by decide) (by first | exact Or.inl ⟨_, rfl⟩ | exact Or.inr ⟨_, rfl⟩) (Or.inr ⟨rfl, rfl, rfl, wf_RX10_18F⟩) (fun FR98 u99 => ?_)
  have hF100 : h_FR FR98 := hF_up hS76 hF77 u99 sh92 (by decide +kernel)
  have hR101 : g_R n66 SH68 FR98 := gR_up hR79 u99 sh92 (fun r e => by cases e; exact ⟨lt80, (Or.inr dy82), by rw [sh81]; rfl⟩) (fun _ r e => by cases e; exact (dyn_tag hS76 sh81 (by decide +kernel))) (fun _ => by simp) (fun h => absurd h.1 (ne_tag sh92 (s49 hS76) (by decide)))
  refine hw_aloadn (aX10_init 14 rfl) rfl ?_
  refine hw_ic (v := (0 : Int32)) (aX10_init 15 rfl) (by decide) ?_
  refine hv_newa (k := 0) (z := 0) hS76 hF100 hI78 hR101 (by unfold g_dt; omega) (aX10_init 16 rfl) rfl (by decide) (tin_1 (i := 149) rfl rfl) (by decide) (by decide) (by decide) (fun n102 sl103 SH104 FI105 FL106 FR107 hsl108 nw109 => ?_)
  obtain ⟨hn110, ex111, hS112, hF113, hI114, hR115, lt116, sh117, dy118, eI119, eL120, eR121, zI122, zL123, zR124⟩ := nw109
  have lt125 := ex_lt ex111 lt89
  have sh126 := ex_sh ex111 lt89 sh90
  have lt127 := ex_lt ex111 lt91
  have sh128 := ex_sh ex111 lt91 sh92
  have lt129 := ex_lt ex111 lt93
  have sh130 := ex_sh ex111 lt93 sh94
  have lt131 := ex_lt ex111 lt95
  have sh132 := ex_sh ex111 lt95 sh96
  have lt133 := ex_lt ex111 lt80
  have sh134 := ex_sh ex111 lt80 sh81
  have ex135 := ex_tr ex97 ex111
  refine hv_putr (r := some (n66)) (aX10_init 17 rfl) wf_RX10_22 lt127 sh128 (by decide) (by first | exact Or.inl ⟨_, rfl⟩ | exact Or.inr ⟨_, rfl⟩) (Or.inl rfl) (fun FR136 u137 => ?_)
  have hF138 : h_FR FR136 := hF_up hS112 hF113 u137 sh128 (by decide +kernel)
  have hR139 : g_R n102 SH104 FR136 := gR_up hR115 u137 sh128 (fun r e => by cases e; exact ⟨lt116, (Or.inr dy118), by rw [sh117]; rfl⟩) (fun _ r e => by cases e; exact dy118) (fun _ => by simp) (fun h => absurd h.1 (ne_tag sh128 (s49 hS112) (by decide)))
  refine hw_aloadn (aX10_init 18 rfl) rfl ?_
  refine hw_aloadn (aX10_init 19 rfl) rfl ?_
  refine hv_putr (r := some (a1)) (aX10_init 20 rfl) wf_RX10_26 lt127 sh128 (by decide) (by first | exact Or.inl ⟨_, rfl⟩ | exact Or.inr ⟨_, rfl⟩) (Or.inr ⟨rfl, rfl, rfl, wf_RX10_26F⟩) (fun FR140 u141 => ?_)
  have hF142 : h_FR FR140 := hF_up hS112 hF138 u141 sh128 (by decide +kernel)
  have hR143 : g_R n102 SH104 FR140 := gR_up hR139 u141 sh128 (fun r e => by cases e; exact ⟨lt125, ha1o, by rw [sh126]; rfl⟩) (fun _ r e => by cases e; exact gg0) (fun _ => by simp) (fun h => absurd h.1 (ne_tag sh128 (s49 hS112) (by decide)))
  refine hw_aloadn (aX10_init 21 rfl) rfl ?_
  refine xw_iloadn (aX10_init 22 rfl) rfl ?_
  refine hv_putiF (aX10_init 23 rfl) wf_RX10_29 lt127 sh128 (by decide) rfl ⟨rfl, rfl, rfl, wf_RX10_29F⟩ (fun FI144 u145 => ?_)
  have hI146 : g_I FI144 := gU_F hI114 u145 (g_hi (dyn_tag hS112 sh128 (by decide +kernel)))
  refine xw_vret (aX10_init 24 rfl) rfl ?_
  exact ⟨rfl, n102, sl103, SH104, FI144, FL106, FR140, rfl, ex135, hS112, hI146, (gf_n (gf_al (gf_al (gf_al (gf_al gf_rf (Nat.le_trans (Nat.le_of_lt hc) (Nat.le_refl _)) eI18) (Nat.le_trans (Nat.le_of_lt hc) (ex10).1) eI49) (Nat.le_trans (Nat.le_of_lt hc) (ex61).1) eI83) (Nat.le_trans (Nat.le_of_lt hc) (ex97).1) eI119) u145 (Nat.le_refl _)), (gf_al (gf_al (gf_al (gf_al gf_rf (Nat.le_trans (Nat.le_of_lt hc) (Nat.le_refl _)) eL19) (Nat.le_trans (Nat.le_of_lt hc) (ex10).1) eL50) (Nat.le_trans (Nat.le_of_lt hc) (ex61).1) eL84) (Nat.le_trans (Nat.le_of_lt hc) (ex97).1) eL120), (gf_n (gf_n (gf_al (gf_n (gf_al (gf_n (gf_al (gf_n (gf_al gf_rf (Nat.le_trans (Nat.le_of_lt hc) (Nat.le_refl _)) eR20) u29 (Nat.le_refl _)) (Nat.le_trans (Nat.le_of_lt hc) (ex10).1) eR51) u63 (Nat.le_refl _)) (Nat.le_trans (Nat.le_of_lt hc) (ex61).1) eR85) u99 (Nat.le_refl _)) (Nat.le_trans (Nat.le_of_lt hc) (ex97).1) eR121) u137 (Nat.le_refl _)) u141 (Nat.le_refl _)), hF142, hR143, (by omega), (by omega), (by exact ⟨⟨_, (up_k u141 (by decide) ((up_k u137 (by decide) (((eR121 c (2) (Nat.ne_of_lt lt91)).trans ((up_k u99 (by decide) (((eR85 c (2) (Nat.ne_of_lt lt57)).trans ((up_k u63 (by decide) (((eR51 c (2) (Nat.ne_of_lt lt26)).trans (up_eq u29)))))))))))))), sh130⟩, ⟨_, (up_k u141 (by decide) ((up_k u137 (by decide) (((eR121 c (3) (Nat.ne_of_lt lt91)).trans ((up_k u99 (by decide) (((eR85 c (3) (Nat.ne_of_lt lt57)).trans (up_eq u63)))))))))), sh132⟩, ⟨_, (up_k u141 (by decide) ((up_k u137 (by decide) (((eR121 c (4) (Nat.ne_of_lt lt91)).trans (up_eq u99)))))), sh134⟩, ⟨_, up_eq u141⟩⟩), (by exact ⟨_, (up_k u141 (by decide) (up_eq u137))⟩), (by intro c9 h1 h2; rcases (show c9 = n ∨ c9 = n1 ∨ c9 = n32 ∨ c9 = n66 by omega) with rfl | rfl | rfl | rfl; { rw [sh130]; decide }; { rw [sh132]; decide }; { rw [sh134]; decide }; { rw [sh117]; decide })⟩
end
