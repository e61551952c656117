def nX11_tapeInto : Nat := 0xac1d4500b5032a535800b81d1000b42a1c2b3e4500b42aac020500a45802114500b42a0d00a2be2b1c13009b1c
theorem bX11_tapeInto : cX11_tapeInto.data.toList.map UInt8.toNat = x_un nX11_tapeInto 45 := by decide +kernel
def iX11_tapeInto : List (Nat × Jvm.ClassFile.Instr × Nat) := [(0, .iload_n 2, 1), (1, .ifCond .lt 19, 3), (4, .iload_n 2, 1), (5, .aload_n 1, 1), (6, .arraylength, 1), (7, .if_icmp .ge 13, 3), (10, .aload_n 0, 1), (11, .getfield 69, 3), (14, .sipush 600, 3), (17, .if_icmp .le 5, 3), (20, .iconst (-1), 1), (21, .ireturn, 1), (22, .aload_n 0, 1), (23, .getfield 69, 3), (26, .istore_n 3, 1), (27, .aload_n 1, 1), (28, .iload_n 2, 1), (29, .aload_n 0, 1), (30, .getfield 16, 3), (33, .iload_n 3, 1), (34, .invokestatic 88, 3), (37, .aastore, 1), (38, .aload_n 0, 1), (39, .iconst 0, 1), (40, .putfield 69, 3), (43, .iload_n 3, 1), (44, .ireturn, 1)]
theorem dX11_tapeInto : x_il nX11_tapeInto 45 iX11_tapeInto = true := by decide +kernel
theorem aX11_tapeInto (k : Nat) {pc : Nat} {i : Jvm.ClassFile.Instr} {len : Nat} (hk : iX11_tapeInto[k]? = some (pc, i, len)) : x_at xMM 123 pc i len yX11_tapeInto 4 (some .int) := ⟨cX11_tapeInto, rfl, x_il_ok bX11_tapeInto dX11_tapeInto k hk⟩
set_option maxHeartbeats 4000000 in
set_option maxRecDepth 100000 in
theorem k_tapeInto26 {sk : xK} {base d n sl : Nat} {SH : Nat → Nat × Nat} {FI : Nat → Nat → Int32} {FL : Nat → Nat → Int64} {FR : Nat → Nat → Option Nat} (hS : h_S n SH) (hF : h_FR FR) (hI : g_I FI) (hR : g_R n SH FR) (a2 : Int32) : hw sk base (d + 2) none 123 0 [(0, .ref (base + 0)), (1, .ref (base + 26)), (2, .int (a2))] [] (n, sl, SH, FI, FL, FR) (h_I (fun r s => ∃ n' sl' SH' FI' FL' FR', s = (n', sl', SH', FI', FL', FR') ∧ g_ex n SH n' SH' ∧ h_S n' SH' ∧ g_I FI' ∧ g_fr n (shd SH) [(0, 9)] [] [] FI FI' ∧ g_fr n (shd SH) [] [] [] FL FL' ∧ g_fr n (shd SH) [] [26] [] FR FR' ∧ h_FR FR' ∧ g_R n' SH' FR' ∧ ((n' : Int) ≤ n + 1) ∧ ((sl' : Int) + (FI' 0 9).toInt ≤ sl + (FI 0 9).toInt) ∧ ((FI' 0 9).toInt ≤ (FI 0 9).toInt))) := by
  have rg_a2 := i_rng a2
  obtain ⟨x1, h2⟩ : ∃ y, FI 0 9 = y := ⟨_, rfl⟩
  have h2l := congrArg Int32.toInt h2
  have b3 := gI_0_9 hI; rw [h2] at b3
  refine xw_iloadn (aX11_tapeInto 0 rfl) rfl ?_
  refine hw_iflt (tgt := 20) (aX11_tapeInto 1 rfl) (by decide) rfl (fun cd4 => ?_) (fun cd4 => ?_)
  · refine hw_ic (v := ((-1) : Int32)) (aX11_tapeInto 10 rfl) (by decide) ?_
    refine xw_iret (aX11_tapeInto 11 rfl) rfl rfl ?_
    have e5 : (((-1) : Int32)).toInt = (-1) := (by decide : ((-1) : Int32).toInt = (-1))
    exact ⟨((-1) : Int32), rfl, n, sl, SH, FI, FL, FR, rfl, ex_rf, hS, hI, gf_rf, gf_rf, gf_rf, hF, hR, (by have : (((-1) : Int32)).toInt = (-1) := (by decide); omega), (by have : (((-1) : Int32)).toInt = (-1) := (by decide); have := congrArg Int32.toInt (show FI 0 9 = x1 from h2); omega), (by have : (((-1) : Int32)).toInt = (-1) := (by decide); have := congrArg Int32.toInt (show FI 0 9 = x1 from h2); omega)⟩
  · refine xw_iloadn (aX11_tapeInto 2 rfl) rfl ?_
    refine hw_aloadn (aX11_tapeInto 3 rfl) rfl ?_
    refine hw_alen (k := 6) (z := 16) (v := (16 : Int32)) (aX11_tapeInto 4 rfl) (c26 hS) (s26 hS) (by decide) (by decide) ?_
    refine hw_icge (tgt := 20) (aX11_tapeInto 5 rfl) (by decide) rfl (by decide : (16 : Int32).toInt = 16) (fun cd6 => ?_) (fun cd6 => ?_)
    · refine hw_ic (v := ((-1) : Int32)) (aX11_tapeInto 10 rfl) (by decide) ?_
      refine xw_iret (aX11_tapeInto 11 rfl) rfl rfl ?_
      have e7 : (((-1) : Int32)).toInt = (-1) := (by decide : ((-1) : Int32).toInt = (-1))
      exact ⟨((-1) : Int32), rfl, n, sl, SH, FI, FL, FR, rfl, ex_rf, hS, hI, gf_rf, gf_rf, gf_rf, hF, hR, (by have : (((-1) : Int32)).toInt = (-1) := (by decide); omega), (by have : (((-1) : Int32)).toInt = (-1) := (by decide); have := congrArg Int32.toInt (show FI 0 9 = x1 from h2); omega), (by have : (((-1) : Int32)).toInt = (-1) := (by decide); have := congrArg Int32.toInt (show FI 0 9 = x1 from h2); omega)⟩
    · refine hw_aloadn (aX11_tapeInto 6 rfl) rfl ?_
      refine hw_get (v := .int (x1)) (aX11_tapeInto 7 rfl) wf_RX11_69 (c0 hS) (s0 hS) (by decide) (congrArg Value.int (show FI 0 9 = x1 from h2)) ?_
      refine hw_sp (v := (600 : Int32)) (aX11_tapeInto 8 rfl) (by decide) ?_
      refine hw_icle (tgt := 22) (aX11_tapeInto 9 rfl) (by decide) rfl (by decide : (600 : Int32).toInt = 600) (fun cd8 => ?_) (fun cd8 => ?_)
      · refine hw_aloadn (aX11_tapeInto 12 rfl) rfl ?_
        refine hw_get (v := .int (x1)) (aX11_tapeInto 13 rfl) wf_RX11_69 (c0 hS) (s0 hS) (by decide) (congrArg Value.int (show FI 0 9 = x1 from h2)) ?_
        refine xw_istoren (L2 := [(3, .int (x1)), (0, .ref (base + 0)), (1, .ref (base + 26)), (2, .int (a2))]) (aX11_tapeInto 14 rfl) (by decide) rfl ?_
        refine hw_aloadn (aX11_tapeInto 15 rfl) rfl ?_
        refine xw_iloadn (aX11_tapeInto 16 rfl) rfl ?_
        refine hw_aloadn (aX11_tapeInto 17 rfl) rfl ?_
        refine hw_get (v := .ref (base + 19)) (aX11_tapeInto 18 rfl) wf_RX11_16 (c0 hS) (s0 hS) (by decide) (congrArg (fun r => va_rf (h_rf base r)) (r0_6 hF)) ?_
        refine xw_iloadn (aX11_tapeInto 19 rfl) rfl ?_
        refine hw_callS (As := [.ref (base + 19), .int (x1)]) (rest := [.int (a2), .ref (base + 26)]) (aX11_tapeInto 20 rfl) wc_RX11_88 (by decide) rfl wt_yJ7_copyOf_59c91 rfl rfl (Nat.le_of_ble_eq_true rfl) (Nat.le_of_ble_eq_true rfl) (k_copyOf19 (d := d) hS hF hI hR (x1) (by omega)) (fun v9 sv10 p11 => ?_)
        obtain ⟨r12, rfl, n27, sl28, SH29, FI13, FL14, FR15, rfl, ex30, hS31, hI16, f17, f18, f19, hF20, hR21, t22, t23, u24, ht25, nn26, hfr32⟩ := p11
        obtain ⟨r33, rfl⟩ : ∃ q, r12 = some q := Option.ne_none_iff_exists'.mp nn26
        have fq34 := hfr32 r33 rfl
        have dq35 : 176 ≤ r33 := Nat.le_trans hS.1 fq34
        obtain ⟨lt37, ow38, sh39⟩ := ht25 r33 rfl
        show hw sk base _ _ _ _ _ [.ref (base + r33), .int (a2), .ref (base + 26)] _ _
        refine hv_aastI (i2 := (a2).toNatClampNeg) (aX11_tapeInto 21 rfl) (c26 hS31) (s26 hS31) (nin_1 (i := 95) rfl rfl) lt37 sh39 (h_in rfl (by omega) (by omega)) rfl (fun FR40 u41 => ?_)
        have hF42 : h_FR FR40 := hF_ua hS31 hF20 u41 (s26 hS31) (by decide +kernel)
        have hR43 : g_R n27 SH29 FR40 := gR_up hR21 u41 (s26 hS31) (fun r e => by cases e; exact ⟨lt37, ow38, by rw [sh39]; rfl⟩) (fun h => absurd h (by have := (by decide : 26 < 176); omega)) (fun _ => by simp) (fun h => absurd h.1 (by decide))
        refine hw_aloadn (aX11_tapeInto 22 rfl) rfl ?_
        refine hw_ic (v := (0 : Int32)) (aX11_tapeInto 23 rfl) (by decide) ?_
        refine hv_puti (aX11_tapeInto 24 rfl) wf_RX11_69 (c0 hS31) (s0 hS31) (by decide) rfl rfl (fun FI44 u45 => ?_)
        have hI46 : g_I FI44 := gU_0_9 hI16 u45 (by have := ((by decide : (0 : Int32).toInt = 0) : ((0 : Int32)).toInt = 0); omega) (by have := ((by decide : (0 : Int32).toInt = 0) : ((0 : Int32)).toInt = 0); omega)
        refine xw_iloadn (aX11_tapeInto 25 rfl) rfl ?_
        refine xw_iret (aX11_tapeInto 26 rfl) rfl rfl ?_
        exact ⟨x1, rfl, n27, sl28, SH29, FI44, FL14, FR40, rfl, ex30, hS31, hI46, (gf_f (gf_tr ex_rf gf_rf f17 rfl rfl rfl) u45 (by decide)), (gf_tr ex_rf gf_rf f18 rfl rfl rfl), (gf_a (gf_tr ex_rf gf_rf f19 rfl rfl rfl) u41 (by decide)), hF42, hR43, (by omega), (by have := congrArg Int32.toInt (show FI44 0 9 = (0 : Int32) from up_eq u45); have := ((by decide : (0 : Int32).toInt = 0) : ((0 : Int32)).toInt = 0); omega), (by have := congrArg Int32.toInt (show FI44 0 9 = (0 : Int32) from up_eq u45); have := ((by decide : (0 : Int32).toInt = 0) : ((0 : Int32)).toInt = 0); omega)⟩
      · refine hw_ic (v := ((-1) : Int32)) (aX11_tapeInto 10 rfl) (by decide) ?_
        refine xw_iret (aX11_tapeInto 11 rfl) rfl rfl ?_
        have e47 : (((-1) : Int32)).toInt = (-1) := (by decide : ((-1) : Int32).toInt = (-1))
        exact ⟨((-1) : Int32), rfl, n, sl, SH, FI, FL, FR, rfl, ex_rf, hS, hI, gf_rf, gf_rf, gf_rf, hF, hR, (by have : (((-1) : Int32)).toInt = (-1) := (by decide); omega), (by have : (((-1) : Int32)).toInt = (-1) := (by decide); have := congrArg Int32.toInt (show FI 0 9 = x1 from h2); omega), (by have : (((-1) : Int32)).toInt = (-1) := (by decide); have := congrArg Int32.toInt (show FI 0 9 = x1 from h2); omega)⟩
set_option maxHeartbeats 4000000 in
set_option maxRecDepth 100000 in
theorem k_tapeInto43 {sk : xK} {base d n sl : Nat} {SH : Nat → Nat × Nat} {FI : Nat → Nat → Int32} {FL : Nat → Nat → Int64} {FR : Nat → Nat → Option Nat} (hS : h_S n SH) (hF : h_FR FR) (hI : g_I FI) (hR : g_R n SH FR) (a2 : Int32) : hw sk base (d + 2) none 123 0 [(0, .ref (base + 0)), (1, .ref (base + 43)), (2, .int (a2))] [] (n, sl, SH, FI, FL, FR) (h_I (fun r s => ∃ n' sl' SH' FI' FL' FR', s = (n', sl', SH', FI', FL', FR') ∧ g_ex n SH n' SH' ∧ h_S n' SH' ∧ g_I FI' ∧ g_fr n (shd SH) [(0, 9)] [] [] FI FI' ∧ g_fr n (shd SH) [] [] [] FL FL' ∧ g_fr n (shd SH) [] [43] [] FR FR' ∧ h_FR FR' ∧ g_R n' SH' FR' ∧ ((n' : Int) ≤ n + 1) ∧ ((sl' : Int) + (FI' 0 9).toInt ≤ sl + (FI 0 9).toInt) ∧ ((FI' 0 9).toInt ≤ (FI 0 9).toInt))) := by
  have rg_a2 := i_rng a2
  obtain ⟨x1, h2⟩ : ∃ y, FI 0 9 = y := ⟨_, rfl⟩
  have h2l := congrArg Int32.toInt h2
  have b3 := gI_0_9 hI; rw [h2] at b3
  refine xw_iloadn (aX11_tapeInto 0 rfl) rfl ?_
  refine hw_iflt (tgt := 20) (aX11_tapeInto 1 rfl) (by decide) rfl (fun cd4 => ?_) (fun cd4 => ?_)
  · refine hw_ic (v := ((-1) : Int32)) (aX11_tapeInto 10 rfl) (by decide) ?_
    refine xw_iret (aX11_tapeInto 11 rfl) rfl rfl ?_
    have e5 : (((-1) : Int32)).toInt = (-1) := (by decide : ((-1) : Int32).toInt = (-1))
    exact ⟨((-1) : Int32), rfl, n, sl, SH, FI, FL, FR, rfl, ex_rf, hS, hI, gf_rf, gf_rf, gf_rf, hF, hR, (by have : (((-1) : Int32)).toInt = (-1) := (by decide); omega), (by have : (((-1) : Int32)).toInt = (-1) := (by decide); have := congrArg Int32.toInt (show FI 0 9 = x1 from h2); omega), (by have : (((-1) : Int32)).toInt = (-1) := (by decide); have := congrArg Int32.toInt (show FI 0 9 = x1 from h2); omega)⟩
  · refine xw_iloadn (aX11_tapeInto 2 rfl) rfl ?_
    refine hw_aloadn (aX11_tapeInto 3 rfl) rfl ?_
    refine hw_alen (k := 6) (z := 4) (v := (4 : Int32)) (aX11_tapeInto 4 rfl) (c43 hS) (s43 hS) (by decide) (by decide) ?_
    refine hw_icge (tgt := 20) (aX11_tapeInto 5 rfl) (by decide) rfl (by decide : (4 : Int32).toInt = 4) (fun cd6 => ?_) (fun cd6 => ?_)
    · refine hw_ic (v := ((-1) : Int32)) (aX11_tapeInto 10 rfl) (by decide) ?_
      refine xw_iret (aX11_tapeInto 11 rfl) rfl rfl ?_
      have e7 : (((-1) : Int32)).toInt = (-1) := (by decide : ((-1) : Int32).toInt = (-1))
      exact ⟨((-1) : Int32), rfl, n, sl, SH, FI, FL, FR, rfl, ex_rf, hS, hI, gf_rf, gf_rf, gf_rf, hF, hR, (by have : (((-1) : Int32)).toInt = (-1) := (by decide); omega), (by have : (((-1) : Int32)).toInt = (-1) := (by decide); have := congrArg Int32.toInt (show FI 0 9 = x1 from h2); omega), (by have : (((-1) : Int32)).toInt = (-1) := (by decide); have := congrArg Int32.toInt (show FI 0 9 = x1 from h2); omega)⟩
    · refine hw_aloadn (aX11_tapeInto 6 rfl) rfl ?_
      refine hw_get (v := .int (x1)) (aX11_tapeInto 7 rfl) wf_RX11_69 (c0 hS) (s0 hS) (by decide) (congrArg Value.int (show FI 0 9 = x1 from h2)) ?_
      refine hw_sp (v := (600 : Int32)) (aX11_tapeInto 8 rfl) (by decide) ?_
      refine hw_icle (tgt := 22) (aX11_tapeInto 9 rfl) (by decide) rfl (by decide : (600 : Int32).toInt = 600) (fun cd8 => ?_) (fun cd8 => ?_)
      · refine hw_aloadn (aX11_tapeInto 12 rfl) rfl ?_
        refine hw_get (v := .int (x1)) (aX11_tapeInto 13 rfl) wf_RX11_69 (c0 hS) (s0 hS) (by decide) (congrArg Value.int (show FI 0 9 = x1 from h2)) ?_
        refine xw_istoren (L2 := [(3, .int (x1)), (0, .ref (base + 0)), (1, .ref (base + 43)), (2, .int (a2))]) (aX11_tapeInto 14 rfl) (by decide) rfl ?_
        refine hw_aloadn (aX11_tapeInto 15 rfl) rfl ?_
        refine xw_iloadn (aX11_tapeInto 16 rfl) rfl ?_
        refine hw_aloadn (aX11_tapeInto 17 rfl) rfl ?_
        refine hw_get (v := .ref (base + 19)) (aX11_tapeInto 18 rfl) wf_RX11_16 (c0 hS) (s0 hS) (by decide) (congrArg (fun r => va_rf (h_rf base r)) (r0_6 hF)) ?_
        refine xw_iloadn (aX11_tapeInto 19 rfl) rfl ?_
        refine hw_callS (As := [.ref (base + 19), .int (x1)]) (rest := [.int (a2), .ref (base + 43)]) (aX11_tapeInto 20 rfl) wc_RX11_88 (by decide) rfl wt_yJ7_copyOf_59c91 rfl rfl (Nat.le_of_ble_eq_true rfl) (Nat.le_of_ble_eq_true rfl) (k_copyOf19 (d := d) hS hF hI hR (x1) (by omega)) (fun v9 sv10 p11 => ?_)
        obtain ⟨r12, rfl, n27, sl28, SH29, FI13, FL14, FR15, rfl, ex30, hS31, hI16, f17, f18, f19, hF20, hR21, t22, t23, u24, ht25, nn26, hfr32⟩ := p11
        obtain ⟨r33, rfl⟩ : ∃ q, r12 = some q := Option.ne_none_iff_exists'.mp nn26
        have fq34 := hfr32 r33 rfl
        have dq35 : 176 ≤ r33 := Nat.le_trans hS.1 fq34
        obtain ⟨lt37, ow38, sh39⟩ := ht25 r33 rfl
        show hw sk base _ _ _ _ _ [.ref (base + r33), .int (a2), .ref (base + 43)] _ _
        refine hv_aastI (i2 := (a2).toNatClampNeg) (aX11_tapeInto 21 rfl) (c43 hS31) (s43 hS31) (nin_1 (i := 95) rfl rfl) lt37 sh39 (h_in rfl (by omega) (by omega)) rfl (fun FR40 u41 => ?_)
        have hF42 : h_FR FR40 := hF_ua hS31 hF20 u41 (s43 hS31) (by decide +kernel)
        have hR43 : g_R n27 SH29 FR40 := gR_up hR21 u41 (s43 hS31) (fun r e => by cases e; exact ⟨lt37, ow38, by rw [sh39]; rfl⟩) (fun h => absurd h (by have := (by decide : 43 < 176); omega)) (fun _ => by simp) (fun h => absurd h.1 (by decide))
        refine hw_aloadn (aX11_tapeInto 22 rfl) rfl ?_
        refine hw_ic (v := (0 : Int32)) (aX11_tapeInto 23 rfl) (by decide) ?_
        refine hv_puti (aX11_tapeInto 24 rfl) wf_RX11_69 (c0 hS31) (s0 hS31) (by decide) rfl rfl (fun FI44 u45 => ?_)
        have hI46 : g_I FI44 := gU_0_9 hI16 u45 (by have := ((by decide : (0 : Int32).toInt = 0) : ((0 : Int32)).toInt = 0); omega) (by have := ((by decide : (0 : Int32).toInt = 0) : ((0 : Int32)).toInt = 0); omega)
        refine xw_iloadn (aX11_tapeInto 25 rfl) rfl ?_
        refine xw_iret (aX11_tapeInto 26 rfl) rfl rfl ?_
        exact ⟨x1, rfl, n27, sl28, SH29, FI44, FL14, FR40, rfl, ex30, hS31, hI46, (gf_f (gf_tr ex_rf gf_rf f17 rfl rfl rfl) u45 (by decide)), (gf_tr ex_rf gf_rf f18 rfl rfl rfl), (gf_a (gf_tr ex_rf gf_rf f19 rfl rfl rfl) u41 (by decide)), hF42, hR43, (by omega), (by have := congrArg Int32.toInt (show FI44 0 9 = (0 : Int32) from up_eq u45); have := ((by decide : (0 : Int32).toInt = 0) : ((0 : Int32)).toInt = 0); omega), (by have := congrArg Int32.toInt (show FI44 0 9 = (0 : Int32) from up_eq u45); have := ((by decide : (0 : Int32).toInt = 0) : ((0 : Int32)).toInt = 0); omega)⟩
      · refine hw_ic (v := ((-1) : Int32)) (aX11_tapeInto 10 rfl) (by decide) ?_
        refine xw_iret (aX11_tapeInto 11 rfl) rfl rfl ?_
        have e47 : (((-1) : Int32)).toInt = (-1) := (by decide : ((-1) : Int32).toInt = (-1))
        exact ⟨((-1) : Int32), rfl, n, sl, SH, FI, FL, FR, rfl, ex_rf, hS, hI, gf_rf, gf_rf, gf_rf, hF, hR, (by have : (((-1) : Int32)).toInt = (-1) := (by decide); omega), (by have : (((-1) : Int32)).toInt = (-1) := (by decide); have := congrArg Int32.toInt (show FI 0 9 = x1 from h2); omega), (by have : (((-1) : Int32)).toInt = (-1) := (by decide); have := congrArg Int32.toInt (show FI 0 9 = x1 from h2); omega)⟩
def nX11_expression : Nat := 0xac5100b61b4d00b42300b42a2a
theorem bX11_expression : cX11_expression.data.toList.map UInt8.toNat = x_un nX11_expression 13 := by decide +kernel
def iX11_expression : List (Nat × Jvm.ClassFile.Instr × Nat) := [(0, .aload_n 0, 1), (1, .aload_n 0, 1), (2, .getfield 35, 3), (5, .getfield 77, 3), (8, .iload_n 1, 1), (9, .invokevirtual 81, 3), (12, .ireturn, 1)]
theorem dX11_expression : x_il nX11_expression 13 iX11_expression = true := by decide +kernel
theorem aX11_expression (k : Nat) {pc : Nat} {i : Jvm.ClassFile.Instr} {len : Nat} (hk : iX11_expression[k]? = some (pc, i, len)) : x_at xMM 121 pc i len yX11_expression 2 (some .int) := ⟨cX11_expression, rfl, x_il_ok bX11_expression dX11_expression k hk⟩
set_option maxHeartbeats 4000000 in
set_option maxRecDepth 100000 in
theorem k_X11_expression {sk : xK} {base d n sl : Nat} {SH : Nat → Nat × Nat} {FI : Nat → Nat → Int32} {FL : Nat → Nat → Int64} {FR : Nat → Nat → Option Nat} (hS : h_S n SH) (hF : h_FR FR) (hI : g_I FI) (hR : g_R n SH FR) (a1 : Int32) : hw sk base (d + 3) none 121 0 [(0, .ref (base + 0)), (1, .int (a1))] [] (n, sl, SH, FI, FL, FR) (h_I (fun r s => ∃ n' sl' SH' FI' FL' FR', s = (n', sl', SH', FI', FL', FR') ∧ g_ex n SH n' SH' ∧ h_S n' SH' ∧ g_I FI' ∧ g_fr n (shd SH) [(0, 9)] [] [] FI FI' ∧ g_fr n (shd SH) [] [] [] FL FL' ∧ g_fr n (shd SH) [] [26] [] FR FR' ∧ h_FR FR' ∧ g_R n' SH' FR' ∧ ((n' : Int) ≤ n + 1) ∧ ((sl' : Int) + (FI' 0 9).toInt ≤ sl + (FI 0 9).toInt) ∧ ((FI' 0 9).toInt ≤ (FI 0 9).toInt))) := by
  have rg_a1 := i_rng a1
  obtain ⟨x1, h2⟩ : ∃ y, FI 0 9 = y := ⟨_, rfl⟩
  have h2l := congrArg Int32.toInt h2
  have b3 := gI_0_9 hI; rw [h2] at b3
  refine hw_aloadn (aX11_expression 0 rfl) rfl ?_
  refine hw_aloadn (aX11_expression 1 rfl) rfl ?_
  refine hw_get (v := .ref (base + 23)) (aX11_expression 2 rfl) wf_RX11_35 (c0 hS) (s0 hS) (by decide) (congrArg (fun r => va_rf (h_rf base r)) (r0_0 hF)) ?_
  refine hw_get (v := .ref (base + 26)) (aX11_expression 3 rfl) wf_RX11_77 (c23 hS) (s23 hS) (by decide) (congrArg (fun r => va_rf (h_rf base r)) (r23_2 hF)) ?_
  refine xw_iloadn (aX11_expression 4 rfl) rfl ?_
  refine hw_callV (Bs := [.ref (base + 26), .int (a1)]) (rest := []) (aX11_expression 5 rfl) wc_RX11_81 (by decide) rfl wi_yX11_tapeInto wv_yX11_tapeInto (c0 hS) (s0 hS) rfl rfl rfl (Nat.le_of_ble_eq_true rfl) (Nat.le_of_ble_eq_true rfl) (k_tapeInto26 (d := d) hS hF hI hR (a1) ) (fun v4 sv5 p6 => ?_)
  have := congrArg Int32.toInt (show FI 0 9 = x1 from h2)
  have := congrArg Int32.toInt (show FI 0 9 = x1 from h2)
  obtain ⟨r7, rfl, n22, sl23, SH24, FI8, FL9, FR10, rfl, ex25, hS26, hI11, f12, f13, f14, hF15, hR16, t17, t18, t19⟩ := p6
  have rg_r7 := i_rng r7
  obtain ⟨x27, h28⟩ : ∃ y, FI8 0 9 = y := ⟨_, rfl⟩
  have h28l := congrArg Int32.toInt h28
  have b29 := gI_0_9 hI11; rw [h28] at b29
  show hw sk base _ _ _ _ _ [.int (r7)] _ _
  refine xw_iret (aX11_expression 6 rfl) rfl rfl ?_
  exact ⟨r7, rfl, n22, sl23, SH24, FI8, FL9, FR10, rfl, ex25, hS26, hI11, (gf_tr ex_rf gf_rf f12 rfl rfl rfl), (gf_tr ex_rf gf_rf f13 rfl rfl rfl), (gf_tr ex_rf gf_rf f14 rfl rfl rfl), hF15, hR16, (by omega), (by have := congrArg Int32.toInt (show FI8 0 9 = x27 from h28); omega), (by have := congrArg Int32.toInt (show FI8 0 9 = x27 from h28); omega)⟩
def nX11_list : Nat := 0xac5100b61b5500b42300b42a2a
theorem bX11_list : cX11_list.data.toList.map UInt8.toNat = x_un nX11_list 13 := by decide +kernel
def iX11_list : List (Nat × Jvm.ClassFile.Instr × Nat) := [(0, .aload_n 0, 1), (1, .aload_n 0, 1), (2, .getfield 35, 3), (5, .getfield 85, 3), (8, .iload_n 1, 1), (9, .invokevirtual 81, 3), (12, .ireturn, 1)]
theorem dX11_list : x_il nX11_list 13 iX11_list = true := by decide +kernel
theorem aX11_list (k : Nat) {pc : Nat} {i : Jvm.ClassFile.Instr} {len : Nat} (hk : iX11_list[k]? = some (pc, i, len)) : x_at xMM 122 pc i len yX11_list 2 (some .int) := ⟨cX11_list, rfl, x_il_ok bX11_list dX11_list k hk⟩
set_option maxHeartbeats 4000000 in
set_option maxRecDepth 100000 in
theorem k_X11_list {sk : xK} {base d n sl : Nat} {SH : Nat → Nat × Nat} {FI : Nat → Nat → Int32} {FL : Nat → Nat → Int64} {FR : Nat → Nat → Option Nat} (hS : h_S n SH) (hF : h_FR FR) (hI : g_I FI) (hR : g_R n SH FR) (a1 : Int32) : hw sk base (d + 3) none 122 0 [(0, .ref (base + 0)), (1, .int (a1))] [] (n, sl, SH, FI, FL, FR) (h_I (fun r s => ∃ n' sl' SH' FI' FL' FR', s = (n', sl', SH', FI', FL', FR') ∧ g_ex n SH n' SH' ∧ h_S n' SH' ∧ g_I FI' ∧ g_fr n (shd SH) [(0, 9)] [] [] FI FI' ∧ g_fr n (shd SH) [] [] [] FL FL' ∧ g_fr n (shd SH) [] [43] [] FR FR' ∧ h_FR FR' ∧ g_R n' SH' FR' ∧ ((n' : Int) ≤ n + 1) ∧ ((sl' : Int) + (FI' 0 9).toInt ≤ sl + (FI 0 9).toInt) ∧ ((FI' 0 9).toInt ≤ (FI 0 9).toInt))) := by
  have rg_a1 := i_rng a1
  obtain ⟨x1, h2⟩ : ∃ y, FI 0 9 = y := ⟨_, rfl⟩
  have h2l := congrArg Int32.toInt h2
  have b3 := gI_0_9 hI; rw [h2] at b3
  refine hw_aloadn (aX11_list 0 rfl) rfl ?_
  refine hw_aloadn (aX11_list 1 rfl) rfl ?_
  refine hw_get (v := .ref (base + 23)) (aX11_list 2 rfl) wf_RX11_35 (c0 hS) (s0 hS) (by decide) (congrArg (fun r => va_rf (h_rf base r)) (r0_0 hF)) ?_
  refine hw_get (v := .ref (base + 43)) (aX11_list 3 rfl) wf_RX11_85 (c23 hS) (s23 hS) (by decide) (congrArg (fun r => va_rf (h_rf base r)) (r23_3 hF)) ?_
  refine xw_iloadn (aX11_list 4 rfl) rfl ?_
  refine hw_callV (Bs := [.ref (base + 43), .int (a1)]) (rest := []) (aX11_list 5 rfl) wc_RX11_81 (by decide) rfl wi_yX11_tapeInto wv_yX11_tapeInto (c0 hS) (s0 hS) rfl rfl rfl (Nat.le_of_ble_eq_true rfl) (Nat.le_of_ble_eq_true rfl) (k_tapeInto43 (d := d) hS hF hI hR (a1) ) (fun v4 sv5 p6 => ?_)
  have := congrArg Int32.toInt (show FI 0 9 = x1 from h2)
  have := congrArg Int32.toInt (show FI 0 9 = x1 from h2)
  obtain ⟨r7, rfl, n22, sl23, SH24, FI8, FL9, FR10, rfl, ex25, hS26, hI11, f12, f13, f14, hF15, hR16, t17, t18, t19⟩ := p6
  have rg_r7 := i_rng r7
  obtain ⟨x27, h28⟩ : ∃ y, FI8 0 9 = y := ⟨_, rfl⟩
  have h28l := congrArg Int32.toInt h28
  have b29 := gI_0_9 hI11; rw [h28] at b29
  show hw sk base _ _ _ _ _ [.int (r7)] _ _
  refine xw_iret (aX11_list 6 rfl) rfl rfl ?_
  exact ⟨r7, rfl, n22, sl23, SH24, FI8, FL9, FR10, rfl, ex25, hS26, hI11, (gf_tr ex_rf gf_rf f12 rfl rfl rfl), (gf_tr ex_rf gf_rf f13 rfl rfl rfl), (gf_tr ex_rf gf_rf f14 rfl rfl rfl), hF15, hR16, (by omega), (by have := congrArg Int32.toInt (show FI8 0 9 = x27 from h28); omega), (by have := congrArg Int32.toInt (show FI8 0 9 = x27 from h28); omega)⟩
