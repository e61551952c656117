set_option maxHeartbeats 4000000 in
set_option maxRecDepth 100000 in
theorem k_isVar2 {sk : xK} {base d n sl : Nat} {SH : Nat → Nat × Nat} {FI : Nat → Nat → Int32} {FL : Nat → Nat → Int64} {FR : Nat → Nat → Option Nat} (hS : h_S n SH) (hF : h_FR FR) (hI : g_I FI) (hR : g_R n SH FR) (a1 : Int32) : hw sk base d none 147 0 [(0, .ref (base + 0)), (1, .int (a1))] [] (n, sl, SH, FI, FL, FR) (h_I (fun r s => s = (n, sl, SH, FI, FL, FR) ∧ (0 ≤ r.toInt ∧ r.toInt ≤ 1) ∧ (r.toInt = 1 → 0 ≤ (a1).toInt ∧ (a1).toInt < (FI 0 12).toInt ∧ ∀ v, FR 0 11 = some v → (a1).toInt < ((SH v).2 : Int)))) := by
  have rg_a1 := i_rng a1
  obtain ⟨x1, h2⟩ : ∃ y, FI 0 12 = y := ⟨_, rfl⟩
  have h2l := congrArg Int32.toInt h2
  have b3 := gI_0_12 hI; rw [h2] at b3
  refine xw_iloadn (aX11_isVariable 0 rfl) rfl ?_
  refine hw_iflt (tgt := 25) (aX11_isVariable 1 rfl) (by decide) rfl (fun cd4 => ?_) (fun cd4 => ?_)
  · refine hw_ic (v := (0 : Int32)) (aX11_isVariable 13 rfl) (by decide) ?_
    refine xw_iret (aX11_isVariable 14 rfl) rfl (by decide) ?_
    have e5 : ((0 : Int32)).toInt = 0 := (by decide : (0 : Int32).toInt = 0)
    exact ⟨(0 : Int32), rfl, rfl, (by have : ((0 : Int32)).toInt = 0 := (by decide); omega), (by intro h; exact absurd h (by decide))⟩
  · refine xw_iloadn (aX11_isVariable 2 rfl) rfl ?_
    refine hw_aloadn (aX11_isVariable 3 rfl) rfl ?_
    refine hw_get (v := .int (x1)) (aX11_isVariable 4 rfl) wf_RX11_253 (c0 hS) (s0 hS) (by decide) (congrArg Value.int (show FI 0 12 = x1 from h2)) ?_
    refine hw_icge (tgt := 25) (aX11_isVariable 5 rfl) (by decide) rfl rfl (fun cd6 => ?_) (fun cd6 => ?_)
    · refine hw_ic (v := (0 : Int32)) (aX11_isVariable 13 rfl) (by decide) ?_
      refine xw_iret (aX11_isVariable 14 rfl) rfl (by decide) ?_
      have e7 : ((0 : Int32)).toInt = 0 := (by decide : (0 : Int32).toInt = 0)
      exact ⟨(0 : Int32), rfl, rfl, (by have : ((0 : Int32)).toInt = 0 := (by decide); omega), (by intro h; exact absurd h (by decide))⟩
    · refine xw_iloadn (aX11_isVariable 6 rfl) rfl ?_
      refine hw_aloadn (aX11_isVariable 7 rfl) rfl ?_
      obtain ⟨o8, h9⟩ : ∃ y, FR 0 11 = y := ⟨_, rfl⟩
      have ht10 : ∀ r, o8 = some r → r < n ∧ own r ∧ SH r = (104, (SH r).2) := fun r e => gR_get hR (c0 hS) (Or.inl (by decide)) (s0 hS) (h9.trans e)
      obtain ⟨r11, rfl⟩ := gR_nn hR (by unfold g_nn; omega) h9
      obtain ⟨lt12, ow13, sh14⟩ := ht10 r11 rfl
      refine hw_get (v := .ref (base + r11)) (aX11_isVariable 8 rfl) wf_RX11_28 (c0 hS) (s0 hS) (by decide) (congrArg (fun r => va_rf (h_rf base r)) (show FR 0 11 = some r11 from h9)) ?_
      obtain ⟨x15, h16⟩ : ∃ y, Int32.ofNat (SH r11).2 = y := ⟨_, rfl⟩
      have b17 : (x15).toInt ≤ (((SH r11).2 : Nat) : Int) := by rw [← h16]; exact i_len
      have := i_rng x15
      refine hw_alen (k := 4) (v := x15) (aX11_isVariable 9 rfl) lt12 sh14 (by decide) h16 ?_
      refine hw_icge (tgt := 25) (aX11_isVariable 10 rfl) (by decide) rfl rfl (fun cd18 => ?_) (fun cd18 => ?_)
      · refine hw_ic (v := (0 : Int32)) (aX11_isVariable 13 rfl) (by decide) ?_
        refine xw_iret (aX11_isVariable 14 rfl) rfl (by decide) ?_
        have e19 : ((0 : Int32)).toInt = 0 := (by decide : (0 : Int32).toInt = 0)
        exact ⟨(0 : Int32), rfl, rfl, (by have : ((0 : Int32)).toInt = 0 := (by decide); omega), (by intro h; exact absurd h (by decide))⟩
      · refine hw_ic (v := (1 : Int32)) (aX11_isVariable 11 rfl) (by decide) ?_
        refine xw_goto (tgt := 26) (aX11_isVariable 12 rfl) (by decide) ?_
        refine xw_iret (aX11_isVariable 14 rfl) rfl (by decide) ?_
        have e20 : ((1 : Int32)).toInt = 1 := (by decide : (1 : Int32).toInt = 1)
        exact ⟨(1 : Int32), rfl, rfl, (by have : ((1 : Int32)).toInt = 1 := (by decide); omega), (by intro _; refine ⟨by omega, by omega, fun v hv => ?_⟩; rw [show FR 0 11 = some r11 from h9] at hv; cases hv; omega)⟩
def nX11_variable : Nat := 0xac0901b8650d0114851c0601b42d1000a70901b865cd0014851cfa00b42d1300a2e803111cacbe0601b42d0900a0051cacbefa00b42d0900a0041cac0301b42d08009a1c4e321b1c00b42aac0205009a0001b61b2a
theorem bX11_variable : cX11_variable.data.toList.map UInt8.toNat = x_un nX11_variable 85 := by decide +kernel
def iX11_variable : List (Nat × Jvm.ClassFile.Instr × Nat) := [(0, .aload_n 0, 1), (1, .iload_n 1, 1), (2, .invokevirtual 256, 3), (5, .ifCond .ne 5, 3), (8, .iconst (-1), 1), (9, .ireturn, 1), (10, .aload_n 0, 1), (11, .getfield 28, 3), (14, .iload_n 1, 1), (15, .aaload, 1), (16, .astore_n 3, 1), (17, .iload_n 2, 1), (18, .ifCond .ne 8, 3), (21, .aload_n 3, 1), (22, .getfield 259, 3), (25, .ireturn, 1), (26, .iload_n 2, 1), (27, .iconst 1, 1), (28, .if_icmp .ne 9, 3), (31, .aload_n 3, 1), (32, .getfield 250, 3), (35, .arraylength, 1), (36, .ireturn, 1), (37, .iload_n 2, 1), (38, .iconst 2, 1), (39, .if_icmp .ne 9, 3), (42, .aload_n 3, 1), (43, .getfield 262, 3), (46, .arraylength, 1), (47, .ireturn, 1), (48, .iload_n 2, 1), (49, .sipush 1000, 3), (52, .if_icmp .ge 19, 3), (55, .aload_n 3, 1), (56, .getfield 250, 3), (59, .iload_n 2, 1), (60, .i2l, 1), (61, .ldc2_w 205, 3), (64, .lsub, 1), (65, .invokestatic 265, 3), (68, .goto 16, 3), (71, .aload_n 3, 1), (72, .getfield 262, 3), (75, .iload_n 2, 1), (76, .i2l, 1), (77, .ldc2_w 269, 3), (80, .lsub, 1), (81, .invokestatic 265, 3), (84, .ireturn, 1)]
theorem dX11_variable : x_il nX11_variable 85 iX11_variable = true := by decide +kernel
theorem aX11_variable (k : Nat) {pc : Nat} {i : Jvm.ClassFile.Instr} {len : Nat} (hk : iX11_variable[k]? = some (pc, i, len)) : x_at xMM 148 pc i len yX11_variable 4 (some .int) := ⟨cX11_variable, rfl, x_il_ok bX11_variable dX11_variable k hk⟩
set_option maxHeartbeats 4000000 in
set_option maxRecDepth 100000 in
theorem k_X11_variable {sk : xK} {base d n sl : Nat} {SH : Nat → Nat × Nat} {FI : Nat → Nat → Int32} {FL : Nat → Nat → Int64} {FR : Nat → Nat → Option Nat} (hS : h_S n SH) (hF : h_FR FR) (hI : g_I FI) (hR : g_R n SH FR) (a1 : Int32) (a2 : Int32) (gg0 : g_V SH FI FR) : hw sk base (d + 1) none 148 0 [(0, .ref (base + 0)), (1, .int (a1)), (2, .int (a2))] [] (n, sl, SH, FI, FL, FR) (h_I (fun r s => s = (n, sl, SH, FI, FL, FR))) := by
  have rg_a1 := i_rng a1
  have rg_a2 := i_rng a2
  refine hw_aloadn (aX11_variable 0 rfl) rfl ?_
  refine xw_iloadn (aX11_variable 1 rfl) rfl ?_
  refine hw_callV (Bs := [.int (a1)]) (rest := []) (aX11_variable 2 rfl) wc_RX11_256 (by decide) rfl wi_yX11_isVariable wv_yX11_isVariable (c0 hS) (s0 hS) rfl rfl rfl (Nat.le_of_ble_eq_true rfl) (Nat.le_of_ble_eq_true rfl) (k_isVar2 (d := d) hS hF hI hR (a1) ) (fun v1 sv2 p3 => ?_)
  obtain ⟨r4, rfl, rfl, t8, u9⟩ := p3
  show hw sk base _ _ _ _ _ [.int (r4)] _ _
  refine hw_ifne (tgt := 10) (aX11_variable 3 rfl) (by decide) rfl (fun cd12 => ?_) (fun cd12 => ?_)
  · obtain ⟨q13, q14, q15⟩ := u9 (by omega)
    obtain ⟨o17, h18⟩ : ∃ y, FR 0 11 = y := ⟨_, rfl⟩
    have ht19 : ∀ r, o17 = some r → r < n ∧ own r ∧ SH r = (104, (SH r).2) := fun r e => gR_get hR (c0 hS) (Or.inl (by decide)) (s0 hS) (h18.trans e)
    obtain ⟨r20, rfl⟩ := gR_nn hR (by unfold g_nn; omega) h18
    obtain ⟨lt21, ow22, sh23⟩ := ht19 r20 rfl
    have q16 := q15 r20 (show FR 0 11 = some r20 from h18)
    obtain ⟨v9, h24, h25⟩ := gg0
    rw [show FR 0 11 = some r20 from h18] at h24; cases h24
    obtain ⟨h26, r32, h27, h28, h29, r33, h30⟩ := h25 (a1).toNatClampNeg (by have := i_cn (x := a1) (by omega); omega)
    obtain ⟨lt34, ow35, sh36⟩ := gR_get hR lt21 ow22 sh23 h27
    have sh37 : SH r32 = (10, (SH r32).2) := sh36
    obtain ⟨lt38, ow39, sh40⟩ := gR_get hR lt34 ow35 sh37 h30
    obtain ⟨⟨r41, h45, hz49⟩, ⟨r42, h46, hz50⟩, ⟨r43, h47, hz51⟩, ⟨r44, h48⟩⟩ := h29
    obtain ⟨lt53, ow54, sh55⟩ := gR_get hR lt34 ow35 sh37 h45
    obtain ⟨lt56, ow57, sh58⟩ := gR_get hR lt34 ow35 sh37 h46
    obtain ⟨lt59, ow60, sh61⟩ := gR_get hR lt34 ow35 sh37 h47
    obtain ⟨lt62, ow63, sh64⟩ := gR_get hR lt34 ow35 sh37 h48
    refine hw_aloadn (aX11_variable 6 rfl) rfl ?_
    refine hw_get (v := .ref (base + r20)) (aX11_variable 7 rfl) wf_RX11_28 (c0 hS) (s0 hS) (by decide) (congrArg (fun r => va_rf (h_rf base r)) (show FR 0 11 = some r20 from h18)) ?_
    refine xw_iloadn (aX11_variable 8 rfl) rfl ?_
    refine hw_aald (k := 4) (v := some (r32)) (aX11_variable 9 rfl) lt21 sh23 (by decide) (by decide) (h_in rfl (by omega) (by omega)) (show FR r20 (a1).toNatClampNeg = some (r32) from h27) ?_
    refine hw_astoren (L2 := [(3, .ref (base + r32)), (0, .ref (base + 0)), (1, .int (a1)), (2, .int (a2))]) (aX11_variable 10 rfl) (by decide) rfl ?_
    refine xw_iloadn (aX11_variable 11 rfl) rfl ?_
    refine hw_ifne (tgt := 26) (aX11_variable 12 rfl) (by decide) rfl (fun cd65 => ?_) (fun cd65 => ?_)
    · refine xw_iloadn (aX11_variable 16 rfl) rfl ?_
      refine hw_ic (v := (1 : Int32)) (aX11_variable 17 rfl) (by decide) ?_
      refine hw_icne (tgt := 37) (aX11_variable 18 rfl) (by decide) rfl (by decide : (1 : Int32).toInt = 1) (fun cd66 => ?_) (fun cd66 => ?_)
      · refine xw_iloadn (aX11_variable 23 rfl) rfl ?_
        refine hw_ic (v := (2 : Int32)) (aX11_variable 24 rfl) (by decide) ?_
        refine hw_icne (tgt := 48) (aX11_variable 25 rfl) (by decide) rfl (by decide : (2 : Int32).toInt = 2) (fun cd67 => ?_) (fun cd67 => ?_)
        · refine xw_iloadn (aX11_variable 30 rfl) rfl ?_
          refine hw_sp (v := (1000 : Int32)) (aX11_variable 31 rfl) (by decide) ?_
          refine hw_icge (tgt := 71) (aX11_variable 32 rfl) (by decide) rfl (by decide : (1000 : Int32).toInt = 1000) (fun cd68 => ?_) (fun cd68 => ?_)
          · refine hw_aloadn (aX11_variable 41 rfl) rfl ?_
            refine hw_get (v := .ref (base + r44)) (aX11_variable 42 rfl) wf_RX11_262 lt34 sh37 (by decide) (congrArg (fun r => va_rf (h_rf base r)) (show FR r32 0 = some r44 from h48)) ?_
            refine xw_iloadn (aX11_variable 43 rfl) rfl ?_
            refine xw_i2l (aX11_variable 44 rfl) ?_
            refine hw_tle (A := (a2).toInt) (i_2l rfl) (fun x69 e70 => ?_)
            refine xw_ldc2 (aX11_variable 45 rfl) wk_RX11_269 ?_
            refine xw_lsub (aX11_variable 46 rfl) ?_
            refine hw_tle (A := ((a2).toInt) - (1000)) (l_sub e70 (by decide : (1000 : Int64).toInt = 1000) (by omega) (by omega)) (fun x71 e72 => ?_)
            refine hw_callS (As := [.ref (base + r44), .long (x71)]) (rest := []) (aX11_variable 47 rfl) wc_RX11_265 (by decide) rfl wt_yX11_byteAt rfl rfl (Nat.le_of_ble_eq_true rfl) (Nat.le_of_ble_eq_true rfl) (k_X11_byteAt (d := d) hS hF hI hR (r44) lt62 sh64 ow63 (x71) ) (fun v73 sv74 p75 => ?_)
            obtain ⟨r76, rfl, rfl⟩ := p75
            have rg_r76 := i_rng r76
            show hw sk base _ _ _ _ _ [.int (r76)] _ _
            refine xw_iret (aX11_variable 48 rfl) rfl rfl ?_
            exact ⟨r76, rfl, rfl⟩
          · refine hw_aloadn (aX11_variable 33 rfl) rfl ?_
            refine hw_get (v := .ref (base + r33)) (aX11_variable 34 rfl) wf_RX11_250 lt34 sh37 (by decide) (congrArg (fun r => va_rf (h_rf base r)) (show FR r32 6 = some r33 from h30)) ?_
            refine xw_iloadn (aX11_variable 35 rfl) rfl ?_
            refine xw_i2l (aX11_variable 36 rfl) ?_
            refine hw_tle (A := (a2).toInt) (i_2l rfl) (fun x82 e83 => ?_)
            refine xw_ldc2 (aX11_variable 37 rfl) wk_RX11_205 ?_
            refine xw_lsub (aX11_variable 38 rfl) ?_
            refine hw_tle (A := ((a2).toInt) - (100)) (l_sub e83 (by decide : (100 : Int64).toInt = 100) (by omega) (by omega)) (fun x84 e85 => ?_)
            refine hw_callS (As := [.ref (base + r33), .long (x84)]) (rest := []) (aX11_variable 39 rfl) wc_RX11_265 (by decide) rfl wt_yX11_byteAt rfl rfl (Nat.le_of_ble_eq_true rfl) (Nat.le_of_ble_eq_true rfl) (k_X11_byteAt (d := d) hS hF hI hR (r33) lt38 sh40 ow39 (x84) ) (fun v86 sv87 p88 => ?_)
            obtain ⟨r89, rfl, rfl⟩ := p88
            have rg_r89 := i_rng r89
            show hw sk base _ _ _ _ _ [.int (r89)] _ _
            refine xw_goto (tgt := 84) (aX11_variable 40 rfl) (by decide) ?_
            refine xw_iret (aX11_variable 48 rfl) rfl rfl ?_
            exact ⟨r89, rfl, rfl⟩
        · refine hw_aloadn (aX11_variable 26 rfl) rfl ?_
          refine hw_get (v := .ref (base + r44)) (aX11_variable 27 rfl) wf_RX11_262 lt34 sh37 (by decide) (congrArg (fun r => va_rf (h_rf base r)) (show FR r32 0 = some r44 from h48)) ?_
          obtain ⟨x95, h96⟩ : ∃ y, Int32.ofNat (SH r44).2 = y := ⟨_, rfl⟩
          have b97 : (x95).toInt ≤ (((SH r44).2 : Nat) : Int) := by rw [← h96]; exact i_len
          have := i_rng x95
          refine hw_alen (k := 0) (v := x95) (aX11_variable 28 rfl) lt62 sh64 (by decide) h96 ?_
          refine xw_iret (aX11_variable 29 rfl) rfl rfl ?_
          exact ⟨x95, rfl, rfl⟩
      · refine hw_aloadn (aX11_variable 19 rfl) rfl ?_
        refine hw_get (v := .ref (base + r33)) (aX11_variable 20 rfl) wf_RX11_250 lt34 sh37 (by decide) (congrArg (fun r => va_rf (h_rf base r)) (show FR r32 6 = some r33 from h30)) ?_
        obtain ⟨x98, h99⟩ : ∃ y, Int32.ofNat (SH r33).2 = y := ⟨_, rfl⟩
        have b100 : (x98).toInt ≤ (((SH r33).2 : Nat) : Int) := by rw [← h99]; exact i_len
        have := i_rng x98
        refine hw_alen (k := 0) (v := x98) (aX11_variable 21 rfl) lt38 sh40 (by decide) h99 ?_
        refine xw_iret (aX11_variable 22 rfl) rfl rfl ?_
        exact ⟨x98, rfl, rfl⟩
    · refine hw_aloadn (aX11_variable 13 rfl) rfl ?_
      obtain ⟨x101, h102⟩ : ∃ y, FI r32 5 = y := ⟨_, rfl⟩
      have h102l := congrArg Int32.toInt h102
      have := i_rng x101
      refine hw_get (v := .int (x101)) (aX11_variable 14 rfl) wf_RX11_259 lt34 sh37 (by decide) (congrArg Value.int (show FI r32 5 = x101 from h102)) ?_
      refine xw_iret (aX11_variable 15 rfl) rfl rfl ?_
      exact ⟨x101, rfl, rfl⟩
  · refine hw_ic (v := ((-1) : Int32)) (aX11_variable 4 rfl) (by decide) ?_
    refine xw_iret (aX11_variable 5 rfl) rfl rfl ?_
    have e103 : (((-1) : Int32)).toInt = (-1) := (by decide : ((-1) : Int32).toInt = (-1))
    exact ⟨((-1) : Int32), rfl, rfl⟩
def nX11_where : Nat := 0xac8800b60415200905192a0d00a78400b60415be05190305192a12009a0301b4321b1c00b42a053afa00b4321b1c00b42aac0205009a8000b804150b00990001b61b2a
theorem bX11_where : cX11_where.data.toList.map UInt8.toNat = x_un nX11_where 67 := by decide +kernel
def iX11_where : List (Nat × Jvm.ClassFile.Instr × Nat) := [(0, .aload_n 0, 1), (1, .iload_n 1, 1), (2, .invokevirtual 256, 3), (5, .ifCond .eq 11, 3), (8, .iload 4, 2), (10, .invokestatic 128, 3), (13, .ifCond .ne 5, 3), (16, .iconst (-1), 1), (17, .ireturn, 1), (18, .aload_n 0, 1), (19, .getfield 28, 3), (22, .iload_n 1, 1), (23, .aaload, 1), (24, .getfield 250, 3), (27, .astore 5, 2), (29, .aload_n 0, 1), (30, .getfield 28, 3), (33, .iload_n 1, 1), (34, .aaload, 1), (35, .getfield 259, 3), (38, .ifCond .ne 18, 3), (41, .aload_n 0, 1), (42, .aload 5, 2), (44, .iconst 0, 1), (45, .aload 5, 2), (47, .arraylength, 1), (48, .iload 4, 2), (50, .invokevirtual 132, 3), (53, .goto 13, 3), (56, .aload_n 0, 1), (57, .aload 5, 2), (59, .lconst 0, 1), (60, .lload_n 2, 1), (61, .iload 4, 2), (63, .invokevirtual 136, 3), (66, .ireturn, 1)]
theorem dX11_where : x_il nX11_where 67 iX11_where = true := by decide +kernel
theorem aX11_where (k : Nat) {pc : Nat} {i : Jvm.ClassFile.Instr} {len : Nat} (hk : iX11_where[k]? = some (pc, i, len)) : x_at xMM 150 pc i len yX11_where 6 (some .int) := ⟨cX11_where, rfl, x_il_ok bX11_where dX11_where k hk⟩
set_option maxHeartbeats 4000000 in
set_option maxRecDepth 100000 in
theorem k_X11_where {sk : xK} {base d n sl : Nat} {SH : Nat → Nat × Nat} {FI : Nat → Nat → Int32} {FL : Nat → Nat → Int64} {FR : Nat → Nat → Option Nat} (hS : h_S n SH) (hF : h_FR FR) (hI : g_I FI) (hR : g_R n SH FR) (a1 : Int32) (a2 : Int64) (a3 : Int32) (gg0 : g_V SH FI FR) : hw sk base (d + 535) none 150 0 [(0, .ref (base + 0)), (1, .int (a1)), (2, .long (a2)), (4, .int (a3))] [] (n, sl, SH, FI, FL, FR) (h_I (fun r s => ∃ FI' FL' FR', s = (n, sl, SH, FI', FL', FR') ∧ g_I FI' ∧ g_fr n (shd SH) [(48, 5), (48, 6), (48, 7), (48, 8), (48, 9), (48, 10), (48, 11), (49, 5), (49, 6), (49, 7), (49, 8), (49, 9), (49, 10), (49, 11)] [21] [5, 8, 9] FI FI' ∧ g_fr n (shd SH) [(48, 12), (48, 13), (48, 14), (48, 15), (49, 12), (49, 13), (49, 14), (49, 15)] [] [5, 9, 101] FL FL' ∧ g_fr n (shd SH) [] [] [5] FR FR' ∧ h_FR FR' ∧ g_R n SH FR')) := by
  have rg_a1 := i_rng a1
  have rg_a2 := l_rng a2
  have rg_a3 := i_rng a3
  refine hw_aloadn (aX11_where 0 rfl) rfl ?_
  refine xw_iloadn (aX11_where 1 rfl) rfl ?_
  refine hw_callV (Bs := [.int (a1)]) (rest := []) (aX11_where 2 rfl) wc_RX11_256 (by decide) rfl wi_yX11_isVariable wv_yX11_isVariable (c0 hS) (s0 hS) rfl rfl rfl (Nat.le_of_ble_eq_true rfl) (Nat.le_of_ble_eq_true rfl) (k_isVar2 (d := d + 534) hS hF hI hR (a1) ) (fun v1 sv2 p3 => ?_)
  obtain ⟨r4, rfl, rfl, t8, u9⟩ := p3
  show hw sk base _ _ _ _ _ [.int (r4)] _ _
  refine hw_ifeq (tgt := 16) (aX11_where 3 rfl) (by decide) rfl (fun cd12 => ?_) (fun cd12 => ?_)
  · refine hw_ic (v := ((-1) : Int32)) (aX11_where 7 rfl) (by decide) ?_
    refine xw_iret (aX11_where 8 rfl) rfl rfl ?_
    have e13 : (((-1) : Int32)).toInt = (-1) := (by decide : ((-1) : Int32).toInt = (-1))
    exact ⟨((-1) : Int32), rfl, FI, FL, FR, rfl, hI, gf_rf, gf_rf, gf_rf, hF, hR⟩
  · obtain ⟨q14, q15, q16⟩ := u9 (by omega)
    obtain ⟨o18, h19⟩ : ∃ y, FR 0 11 = y := ⟨_, rfl⟩
    have ht20 : ∀ r, o18 = some r → r < n ∧ own r ∧ SH r = (104, (SH r).2) := fun r e => gR_get hR (c0 hS) (Or.inl (by decide)) (s0 hS) (h19.trans e)
    obtain ⟨r21, rfl⟩ := gR_nn hR (by unfold g_nn; omega) h19
    obtain ⟨lt22, ow23, sh24⟩ := ht20 r21 rfl
    have q17 := q16 r21 (show FR 0 11 = some r21 from h19)
    obtain ⟨v9, h25, h26⟩ := gg0
    rw [show FR 0 11 = some r21 from h19] at h25; cases h25
    obtain ⟨h27, r33, h28, h29, h30, r34, h31⟩ := h26 (a1).toNatClampNeg (by have := i_cn (x := a1) (by omega); omega)
    obtain ⟨lt35, ow36, sh37⟩ := gR_get hR lt22 ow23 sh24 h28
    have sh38 : SH r33 = (10, (SH r33).2) := sh37
    obtain ⟨lt39, ow40, sh41⟩ := gR_get hR lt35 ow36 sh38 h31
    obtain ⟨⟨r42, h46, hz50⟩, ⟨r43, h47, hz51⟩, ⟨r44, h48, hz52⟩, ⟨r45, h49⟩⟩ := h30
    obtain ⟨lt54, ow55, sh56⟩ := gR_get hR lt35 ow36 sh38 h46
    obtain ⟨lt57, ow58, sh59⟩ := gR_get hR lt35 ow36 sh38 h47
    obtain ⟨lt60, ow61, sh62⟩ := gR_get hR lt35 ow36 sh38 h48
    obtain ⟨lt63, ow64, sh65⟩ := gR_get hR lt35 ow36 sh38 h49
    refine xw_iload (aX11_where 4 rfl) rfl ?_
    refine hw_callS (As := [.int (a3)]) (rest := []) (aX11_where 5 rfl) wc_RX11_128 (by decide) rfl wt_yX11_isFuel rfl rfl (Nat.le_of_ble_eq_true rfl) (Nat.le_of_ble_eq_true rfl) (k_X11_isFuel (d := d + 534) hS hF hI hR (a3) ) (fun v66 sv67 p68 => ?_)
    obtain ⟨r69, rfl, rfl, t73⟩ := p68
    show hw sk base _ _ _ _ _ [.int (r69)] _ _
    refine hw_ifne (tgt := 18) (aX11_where 6 rfl) (by decide) rfl (fun cd76 => ?_) (fun cd76 => ?_)
    · refine hw_aloadn (aX11_where 9 rfl) rfl ?_
      refine hw_get (v := .ref (base + r21)) (aX11_where 10 rfl) wf_RX11_28 (c0 hS) (s0 hS) (by decide) (congrArg (fun r => va_rf (h_rf base r)) (show FR 0 11 = some r21 from h19)) ?_
      refine xw_iloadn (aX11_where 11 rfl) rfl ?_
      refine hw_aald (k := 4) (v := some (r33)) (aX11_where 12 rfl) lt22 sh24 (by decide) (by decide) (h_in rfl (by omega) (by omega)) (show FR r21 (a1).toNatClampNeg = some (r33) from h28) ?_
      refine hw_get (v := .ref (base + r34)) (aX11_where 13 rfl) wf_RX11_250 lt35 sh38 (by decide) (congrArg (fun r => va_rf (h_rf base r)) (show FR r33 6 = some r34 from h31)) ?_
      refine hw_astore (L2 := [(5, .ref (base + r34)), (0, .ref (base + 0)), (1, .int (a1)), (2, .long (a2)), (4, .int (a3))]) (aX11_where 14 rfl) (by decide) rfl ?_
      refine hw_aloadn (aX11_where 15 rfl) rfl ?_
      refine hw_get (v := .ref (base + r21)) (aX11_where 16 rfl) wf_RX11_28 (c0 hS) (s0 hS) (by decide) (congrArg (fun r => va_rf (h_rf base r)) (show FR 0 11 = some r21 from h19)) ?_
      refine xw_iloadn (aX11_where 17 rfl) rfl ?_
      refine hw_aald (k := 4) (v := some (r33)) (aX11_where 18 rfl) lt22 sh24 (by decide) (by decide) (h_in rfl (by omega) (by omega)) (show FR r21 (a1).toNatClampNeg = some (r33) from h28) ?_
      obtain ⟨x77, h78⟩ : ∃ y, FI r33 5 = y := ⟨_, rfl⟩
      have h78l := congrArg Int32.toInt h78
      have := i_rng x77
      refine hw_get (v := .int (x77)) (aX11_where 19 rfl) wf_RX11_259 lt35 sh38 (by decide) (congrArg Value.int (show FI r33 5 = x77 from h78)) ?_
      refine hw_ifne (tgt := 56) (aX11_where 20 rfl) (by decide) rfl (fun cd79 => ?_) (fun cd79 => ?_)
      · refine hw_aloadn (aX11_where 29 rfl) rfl ?_
        refine hw_aload (aX11_where 30 rfl) rfl ?_
        refine hw_lc (v := (0 : Int64)) (aX11_where 31 rfl) (by decide) ?_
        refine xw_lloadn (aX11_where 32 rfl) rfl ?_
        refine xw_iload (aX11_where 33 rfl) rfl ?_
        refine hw_callV (Bs := [.ref (base + r34), .long ((0 : Int64)), .long (a2), .int (a3)]) (rest := []) (aX11_where 34 rfl) wc_RX11_136 (by decide) rfl wi_yX11_search wv_yX11_search (c0 hS) (s0 hS) rfl rfl rfl (Nat.le_of_ble_eq_true rfl) (Nat.le_of_ble_eq_true rfl) (k_X11_search (d := d) hS hF hI hR (r34) lt39 sh41 ow40 ((0 : Int64)) (a2) (a3) ) (fun v80 sv81 p82 => ?_)
        obtain ⟨r83, rfl, FI84, FL85, FR86, rfl, hI87, f88, f89, f90, hF91, hR92⟩ := p82
        have rg_r83 := i_rng r83
        show hw sk base _ _ _ _ _ [.int (r83)] _ _
        refine xw_iret (aX11_where 35 rfl) rfl rfl ?_
        exact ⟨r83, rfl, FI84, FL85, FR86, rfl, hI87, (gf_tr ex_rf gf_rf f88 rfl rfl rfl), (gf_tr ex_rf gf_rf f89 rfl rfl rfl), (gf_tr ex_rf gf_rf f90 rfl rfl rfl), hF91, hR92⟩
      · refine hw_aloadn (aX11_where 21 rfl) rfl ?_
        refine hw_aload (aX11_where 22 rfl) rfl ?_
        refine hw_ic (v := (0 : Int32)) (aX11_where 23 rfl) (by decide) ?_
        refine hw_aload (aX11_where 24 rfl) rfl ?_
        obtain ⟨x95, h96⟩ : ∃ y, Int32.ofNat (SH r34).2 = y := ⟨_, rfl⟩
        have b97 : (x95).toInt ≤ (((SH r34).2 : Nat) : Int) := by rw [← h96]; exact i_len
        have := i_rng x95
        refine hw_alen (k := 0) (v := x95) (aX11_where 25 rfl) lt39 sh41 (by decide) h96 ?_
        refine xw_iload (aX11_where 26 rfl) rfl ?_
        refine hw_callV (Bs := [.ref (base + r34), .int ((0 : Int32)), .int (x95), .int (a3)]) (rest := []) (aX11_where 27 rfl) wc_RX11_132 (by decide) rfl wi_yX11_runBytes wv_yX11_runBytes (c0 hS) (s0 hS) rfl rfl rfl (Nat.le_of_ble_eq_true rfl) (Nat.le_of_ble_eq_true rfl) (k_X11_runBytes (d := d + 1) hS hF hI hR (r34) lt39 sh41 ow40 ((0 : Int32)) (x95) (a3) ) (fun v98 sv99 p100 => ?_)
        obtain ⟨r101, rfl, FI102, FL103, FR104, rfl, hI105, f106, f107, f108, hF109, hR110⟩ := p100
        have rg_r101 := i_rng r101
        show hw sk base _ _ _ _ _ [.int (r101)] _ _
        refine xw_goto (tgt := 66) (aX11_where 28 rfl) (by decide) ?_
        refine xw_iret (aX11_where 35 rfl) rfl rfl ?_
        exact ⟨r101, rfl, FI102, FL103, FR104, rfl, hI105, (gf_tr ex_rf gf_rf f106 rfl rfl rfl), (gf_tr ex_rf gf_rf f107 rfl rfl rfl), (gf_tr ex_rf gf_rf f108 rfl rfl rfl), hF109, hR110⟩
    · refine hw_ic (v := ((-1) : Int32)) (aX11_where 7 rfl) (by decide) ?_
      refine xw_iret (aX11_where 8 rfl) rfl rfl ?_
      have e113 : (((-1) : Int32)).toInt = (-1) := (by decide : ((-1) : Int32).toInt = (-1))
      exact ⟨((-1) : Int32), rfl, FI, FL, FR, rfl, hI, gf_rf, gf_rf, gf_rf, hF, hR⟩
def nX11_means : Nat := 0xac04159f00b603030304152a9200b61301b43300b42a0a00b42a11009a041504360f01b620321b1c00b42a3300b42aac0205009a0001b61b2a
theorem bX11_means : cX11_means.data.toList.map UInt8.toNat = x_un nX11_means 57 := by decide +kernel
def iX11_means : List (Nat × Jvm.ClassFile.Instr × Nat) := [(0, .aload_n 0, 1), (1, .iload_n 1, 1), (2, .invokevirtual 256, 3), (5, .ifCond .ne 5, 3), (8, .iconst (-1), 1), (9, .ireturn, 1), (10, .aload_n 0, 1), (11, .getfield 51, 3), (14, .aload_n 0, 1), (15, .getfield 28, 3), (18, .iload_n 1, 1), (19, .aaload, 1), (20, .lload_n 2, 1), (21, .invokevirtual 271, 3), (24, .istore 4, 2), (26, .iload 4, 2), (28, .ifCond .ne 17, 3), (31, .aload_n 0, 1), (32, .getfield 10, 3), (35, .aload_n 0, 1), (36, .getfield 51, 3), (39, .getfield 275, 3), (42, .invokevirtual 146, 3), (45, .aload_n 0, 1), (46, .iload 4, 2), (48, .iconst 0, 1), (49, .iconst 0, 1), (50, .iconst 0, 1), (51, .invokevirtual 159, 3), (54, .iload 4, 2), (56, .ireturn, 1)]
theorem dX11_means : x_il nX11_means 57 iX11_means = true := by decide +kernel
theorem aX11_means (k : Nat) {pc : Nat} {i : Jvm.ClassFile.Instr} {len : Nat} (hk : iX11_means[k]? = some (pc, i, len)) : x_at xMM 151 pc i len yX11_means 5 (some .int) := ⟨cX11_means, rfl, x_il_ok bX11_means dX11_means k hk⟩
set_option maxHeartbeats 4000000 in
set_option maxRecDepth 100000 in
theorem k_X11_means {sk : xK} {base d n sl : Nat} {SH : Nat → Nat × Nat} {FI : Nat → Nat → Int32} {FL : Nat → Nat → Int64} {FR : Nat → Nat → Option Nat} (hS : h_S n SH) (hF : h_FR FR) (hI : g_I FI) (hR : g_R n SH FR) (a1 : Int32) (a2 : Int64) (gp : Nat → Nat) (gw : Nat → Nat) (gs : Nat → Nat) (gg0 : g_T n SH FI FR gp gw gs) (gg1 : g_V SH FI FR) : hw sk base (d + 303) none 151 0 [(0, .ref (base + 0)), (1, .int (a1)), (2, .long (a2))] [] (n, sl, SH, FI, FL, FR) (h_I (fun r s => ∃ FI' FL' FR', s = (n, sl, SH, FI', FL', FR') ∧ g_I FI' ∧ g_fr n (shd SH) [(48, 5), (48, 6), (48, 7), (48, 8), (48, 9), (48, 10), (48, 11), (49, 5), (49, 6), (49, 7), (49, 8), (49, 9), (49, 10), (49, 11), (90, 4)] [21] [5, 8, 9] FI FI' ∧ g_fr n (shd SH) [(48, 12), (48, 13), (48, 14), (48, 15), (49, 12), (49, 13), (49, 14), (49, 15)] [] [5, 9, 101] FL FL' ∧ g_fr n (shd SH) [] [] [5] FR FR' ∧ h_FR FR' ∧ g_R n SH FR')) := by
  have rg_a1 := i_rng a1
  have rg_a2 := l_rng a2
  refine hw_aloadn (aX11_means 0 rfl) rfl ?_
  refine xw_iloadn (aX11_means 1 rfl) rfl ?_
  refine hw_callV (Bs := [.int (a1)]) (rest := []) (aX11_means 2 rfl) wc_RX11_256 (by decide) rfl wi_yX11_isVariable wv_yX11_isVariable (c0 hS) (s0 hS) rfl rfl rfl (Nat.le_of_ble_eq_true rfl) (Nat.le_of_ble_eq_true rfl) (k_isVar2 (d := d + 302) hS hF hI hR (a1) ) (fun v1 sv2 p3 => ?_)
  obtain ⟨r4, rfl, rfl, t8, u9⟩ := p3
  show hw sk base _ _ _ _ _ [.int (r4)] _ _
  refine hw_ifne (tgt := 10) (aX11_means 3 rfl) (by decide) rfl (fun cd12 => ?_) (fun cd12 => ?_)
  · obtain ⟨q13, q14, q15⟩ := u9 (by omega)
    obtain ⟨o17, h18⟩ : ∃ y, FR 0 11 = y := ⟨_, rfl⟩
    have ht19 : ∀ r, o17 = some r → r < n ∧ own r ∧ SH r = (104, (SH r).2) := fun r e => gR_get hR (c0 hS) (Or.inl (by decide)) (s0 hS) (h18.trans e)
    obtain ⟨r20, rfl⟩ := gR_nn hR (by unfold g_nn; omega) h18
    obtain ⟨lt21, ow22, sh23⟩ := ht19 r20 rfl
    have q16 := q15 r20 (show FR 0 11 = some r20 from h18)
    obtain ⟨v9, h24, h25⟩ := gg1
    rw [show FR 0 11 = some r20 from h18] at h24; cases h24
    obtain ⟨h26, r32, h27, h28, h29, r33, h30⟩ := h25 (a1).toNatClampNeg (by have := i_cn (x := a1) (by omega); omega)
    obtain ⟨lt34, ow35, sh36⟩ := gR_get hR lt21 ow22 sh23 h27
    have sh37 : SH r32 = (10, (SH r32).2) := sh36
    obtain ⟨lt38, ow39, sh40⟩ := gR_get hR lt34 ow35 sh37 h30
    obtain ⟨⟨r41, h45, hz49⟩, ⟨r42, h46, hz50⟩, ⟨r43, h47, hz51⟩, ⟨r44, h48⟩⟩ := h29
    obtain ⟨lt53, ow54, sh55⟩ := gR_get hR lt34 ow35 sh37 h45
    obtain ⟨lt56, ow57, sh58⟩ := gR_get hR lt34 ow35 sh37 h46
    obtain ⟨lt59, ow60, sh61⟩ := gR_get hR lt34 ow35 sh37 h47
    obtain ⟨lt62, ow63, sh64⟩ := gR_get hR lt34 ow35 sh37 h48
    refine hw_aloadn (aX11_means 6 rfl) rfl ?_
    refine hw_get (v := .ref (base + 90)) (aX11_means 7 rfl) wf_RX11_51 (c0 hS) (s0 hS) (by decide) (congrArg (fun r => va_rf (h_rf base r)) (r0_2 hF)) ?_
    refine hw_aloadn (aX11_means 8 rfl) rfl ?_
    refine hw_get (v := .ref (base + r20)) (aX11_means 9 rfl) wf_RX11_28 (c0 hS) (s0 hS) (by decide) (congrArg (fun r => va_rf (h_rf base r)) (show FR 0 11 = some r20 from h18)) ?_
    refine xw_iloadn (aX11_means 10 rfl) rfl ?_
    refine hw_aald (k := 4) (v := some (r32)) (aX11_means 11 rfl) lt21 sh23 (by decide) (by decide) (h_in rfl (by omega) (by omega)) (show FR r20 (a1).toNatClampNeg = some (r32) from h27) ?_
    refine xw_lloadn (aX11_means 12 rfl) rfl ?_
    refine hw_callV (Bs := [.ref (base + r32), .long (a2)]) (rest := []) (aX11_means 13 rfl) wc_RX11_271 (by decide) rfl wi_yX2_say wv_yX2_say (c90 hS) (s90 hS) rfl rfl rfl (Nat.le_of_ble_eq_true rfl) (Nat.le_of_ble_eq_true rfl) (k_X2_say (d := d) hS hF hI hR (r32) lt34 sh37 ow35 (a2) (gp) (gw) (gs) ((gT_mw (L := [(48, 5), (48, 6), (48, 7), (48, 8), (48, 9), (48, 10), (48, 11), (49, 5), (49, 6), (49, 7), (49, 8), (49, 9), (49, 10), (49, 11), (90, 4)]) (A := [21]) (T := [5, 8, 9]) (L2 := []) (A2 := []) (T2 := [5]) hS gg0 gf_rf gf_rf (by decide) (by decide))) ((show g_Vv SH FR r32 from ⟨⟨_, h45, hz49⟩, ⟨_, h46, hz50⟩, ⟨_, h47, hz51⟩, ⟨_, h48⟩⟩))) (fun v65 sv66 p67 => ?_)
    obtain ⟨r68, rfl, FI69, FL70, FR71, rfl, hI72, f73, f74, f75, hF76, hR77⟩ := p67
    have rg_r68 := i_rng r68
    show hw sk base _ _ _ _ _ [.int (r68)] _ _
    refine xw_istore (L2 := [(4, .int (r68)), (0, .ref (base + 0)), (1, .int (a1)), (2, .long (a2))]) (aX11_means 14 rfl) (by decide) rfl ?_
    refine xw_iload (aX11_means 15 rfl) rfl ?_
    refine hw_ifne (tgt := 45) (aX11_means 16 rfl) (by decide) rfl (fun cd80 => ?_) (fun cd80 => ?_)
    · refine hw_aloadn (aX11_means 23 rfl) rfl ?_
      refine xw_iload (aX11_means 24 rfl) rfl ?_
      refine hw_ic (v := (0 : Int32)) (aX11_means 25 rfl) (by decide) ?_
      refine hw_ic (v := (0 : Int32)) (aX11_means 26 rfl) (by decide) ?_
      refine hw_ic (v := (0 : Int32)) (aX11_means 27 rfl) (by decide) ?_
      refine hw_callV (Bs := [.int (r68), .int ((0 : Int32)), .int ((0 : Int32)), .int ((0 : Int32))]) (rest := []) (aX11_means 28 rfl) wc_RX11_159 (by decide) rfl wi_yX11_tell wv_yX11_tell (c0 hS) (s0 hS) rfl rfl rfl (Nat.le_of_ble_eq_true rfl) (Nat.le_of_ble_eq_true rfl) (k_X11_tell (d := d + 302) hS hF76 hI72 hR77 (r68) ((0 : Int32)) ((0 : Int32)) ((0 : Int32)) ) (fun v81 sv82 p83 => ?_)
      obtain ⟨rfl, FI85, rfl, hI86, f87⟩ := p83
      show hw sk base _ _ _ _ _ [] _ _
      refine xw_iload (aX11_means 29 rfl) rfl ?_
      refine xw_iret (aX11_means 30 rfl) rfl rfl ?_
      exact ⟨r68, rfl, FI85, FL70, FR71, rfl, hI86, (gf_tr ex_rf (gf_tr ex_rf gf_rf f73 rfl rfl rfl) f87 rfl rfl rfl), (gf_tr ex_rf gf_rf f74 rfl rfl rfl), (gf_tr ex_rf gf_rf f75 rfl rfl rfl), hF76, hR77⟩
    · refine hw_aloadn (aX11_means 17 rfl) rfl ?_
      refine hw_get (v := .ref (base + 1)) (aX11_means 18 rfl) wf_RX11_10 (c0 hS) (s0 hS) (by decide) (congrArg (fun r => va_rf (h_rf base r)) (r0_5 hF76)) ?_
      refine hw_aloadn (aX11_means 19 rfl) rfl ?_
      refine hw_get (v := .ref (base + 90)) (aX11_means 20 rfl) wf_RX11_51 (c0 hS) (s0 hS) (by decide) (congrArg (fun r => va_rf (h_rf base r)) (r0_2 hF76)) ?_
      refine hw_get (v := .ref (base + 91)) (aX11_means 21 rfl) wf_RX11_275 (c90 hS) (s90 hS) (by decide) (congrArg (fun r => va_rf (h_rf base r)) (r90_2 hF76)) ?_
      refine hw_callV (Bs := [.ref (base + 91)]) (rest := []) (aX11_means 22 rfl) wc_RX11_146 (by decide) rfl wi_yX8_take wv_yX8_take (c1 hS) (s1 hS) rfl rfl rfl (Nat.le_of_ble_eq_true rfl) (Nat.le_of_ble_eq_true rfl) (k_X8_take (d := d + 301) hS hF76 hI72 hR77 (1) (c1 hS) (s1 hS) (Or.inl (by decide)) (91) (c91 hS) (s91 hS) (Or.inl (by decide)) ) (fun v92 sv93 p94 => ?_)
      obtain ⟨rfl, FI96, FL97, FR98, rfl, hI99, f100, f101, f102, hF103, hR104⟩ := p94
      show hw sk base _ _ _ _ _ [] _ _
      refine hw_aloadn (aX11_means 23 rfl) rfl ?_
      refine xw_iload (aX11_means 24 rfl) rfl ?_
      refine hw_ic (v := (0 : Int32)) (aX11_means 25 rfl) (by decide) ?_
      refine hw_ic (v := (0 : Int32)) (aX11_means 26 rfl) (by decide) ?_
      refine hw_ic (v := (0 : Int32)) (aX11_means 27 rfl) (by decide) ?_
      refine hw_callV (Bs := [.int (r68), .int ((0 : Int32)), .int ((0 : Int32)), .int ((0 : Int32))]) (rest := []) (aX11_means 28 rfl) wc_RX11_159 (by decide) rfl wi_yX11_tell wv_yX11_tell (c0 hS) (s0 hS) rfl rfl rfl (Nat.le_of_ble_eq_true rfl) (Nat.le_of_ble_eq_true rfl) (k_X11_tell (d := d + 302) hS hF103 hI99 hR104 (r68) ((0 : Int32)) ((0 : Int32)) ((0 : Int32)) ) (fun v107 sv108 p109 => ?_)
      obtain ⟨rfl, FI111, rfl, hI112, f113⟩ := p109
      show hw sk base _ _ _ _ _ [] _ _
      refine xw_iload (aX11_means 29 rfl) rfl ?_
      refine xw_iret (aX11_means 30 rfl) rfl rfl ?_
      exact ⟨r68, rfl, FI111, FL97, FR98, rfl, hI112, (gf_tr ex_rf (gf_tr ex_rf (gf_tr ex_rf gf_rf f73 rfl rfl rfl) f100 rfl rfl rfl) f113 rfl rfl rfl), (gf_tr ex_rf (gf_tr ex_rf gf_rf f74 rfl rfl rfl) f101 rfl rfl rfl), (gf_tr ex_rf (gf_tr ex_rf gf_rf f75 rfl rfl rfl) f102 rfl rfl rfl), hF103, hR104⟩
  · refine hw_ic (v := ((-1) : Int32)) (aX11_means 4 rfl) (by decide) ?_
    refine xw_iret (aX11_means 5 rfl) rfl rfl ?_
    have e118 : (((-1) : Int32)).toInt = (-1) := (by decide : ((-1) : Int32).toInt = (-1))
    exact ⟨((-1) : Int32), rfl, FI, FL, FR, rfl, hI, gf_rf, gf_rf, gf_rf, hF, hR⟩
