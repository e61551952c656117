def nX11_byteAt : Nat := 0xac2e881f2a0700a70207009b9485be2a1f0b009b94091f
theorem bX11_byteAt : cX11_byteAt.data.toList.map UInt8.toNat = x_un nX11_byteAt 23 := by decide +kernel
def iX11_byteAt : List (Nat × Jvm.ClassFile.Instr × Nat) := [(0, .lload_n 1, 1), (1, .lconst 0, 1), (2, .lcmp, 1), (3, .ifCond .lt 11, 3), (6, .lload_n 1, 1), (7, .aload_n 0, 1), (8, .arraylength, 1), (9, .i2l, 1), (10, .lcmp, 1), (11, .ifCond .lt 7, 3), (14, .iconst (-1), 1), (15, .goto 7, 3), (18, .aload_n 0, 1), (19, .lload_n 1, 1), (20, .l2i, 1), (21, .iaload, 1), (22, .ireturn, 1)]
theorem dX11_byteAt : x_il nX11_byteAt 23 iX11_byteAt = true := by decide +kernel
theorem aX11_byteAt (k : Nat) {pc : Nat} {i : Jvm.ClassFile.Instr} {len : Nat} (hk : iX11_byteAt[k]? = some (pc, i, len)) : x_at xMM 149 pc i len yX11_byteAt 3 (some .int) := ⟨cX11_byteAt, rfl, x_il_ok bX11_byteAt dX11_byteAt k hk⟩
set_option maxHeartbeats 4000000 in
set_option maxRecDepth 100000 in
theorem k_X11_byteAt {sk : xK} {base d n sl : Nat} {SH : Nat → Nat × Nat} {FI : Nat → Nat → Int32} {FL : Nat → Nat → Int64} {FR : Nat → Nat → Option Nat} (hS : h_S n SH) (hF : h_FR FR) (hI : g_I FI) (hR : g_R n SH FR) (a1 : Nat) {z1 : Nat} (ha1l : a1 < n) (ha1s : SH a1 = (100, z1)) (ha1o : own a1) (a2 : Int64) : hw sk base d none 149 0 [(0, .ref (base + a1)), (1, .long (a2))] [] (n, sl, SH, FI, FL, FR) (h_I (fun r s => s = (n, sl, SH, FI, FL, FR))) := by
  have rg_a2 := l_rng a2
  refine xw_lloadn (aX11_byteAt 0 rfl) rfl ?_
  refine hw_lc (v := (0 : Int64)) (aX11_byteAt 1 rfl) (by decide) ?_
  refine hw_lclt (tgt := 14) (aX11_byteAt 2 rfl) (aX11_byteAt 3 rfl) (by decide) rfl (by decide : (0 : Int64).toInt = 0) (fun cd1 => ?_) (fun cd1 => ?_)
  · refine hw_ic (v := ((-1) : Int32)) (aX11_byteAt 10 rfl) (by decide) ?_
    refine xw_goto (tgt := 22) (aX11_byteAt 11 rfl) (by decide) ?_
    refine xw_iret (aX11_byteAt 16 rfl) rfl rfl ?_
    have e2 : (((-1) : Int32)).toInt = (-1) := (by decide : ((-1) : Int32).toInt = (-1))
    exact ⟨((-1) : Int32), rfl, rfl⟩
  · refine xw_lloadn (aX11_byteAt 4 rfl) rfl ?_
    refine hw_aloadn (aX11_byteAt 5 rfl) rfl ?_
    obtain ⟨x3, h4⟩ : ∃ y, Int32.ofNat z1 = y := ⟨_, rfl⟩
    have b5 : (x3).toInt ≤ ((z1 : Nat) : Int) := by rw [← h4]; exact i_len
    have := i_rng x3
    refine hw_alen (k := 0) (v := x3) (aX11_byteAt 6 rfl) ha1l ha1s (by decide) h4 ?_
    refine xw_i2l (aX11_byteAt 7 rfl) ?_
    refine hw_tle (A := (x3).toInt) (i_2l rfl) (fun x6 e7 => ?_)
    refine hw_lclt (tgt := 18) (aX11_byteAt 8 rfl) (aX11_byteAt 9 rfl) (by decide) rfl e7 (fun cd8 => ?_) (fun cd8 => ?_)
    · refine hw_aloadn (aX11_byteAt 12 rfl) rfl ?_
      refine xw_lloadn (aX11_byteAt 13 rfl) rfl ?_
      refine xw_l2i (aX11_byteAt 14 rfl) ?_
      refine hw_tie (A := (a2).toInt) (l_2i rfl (by omega) (by omega)) (fun x9 e10 => ?_)
      obtain ⟨x11, h12⟩ : ∃ y, FI a1 (x9).toNatClampNeg = y := ⟨_, rfl⟩
      have h12l := congrArg Int32.toInt h12
      have := i_rng x11
      refine hw_iald (v := x11) (aX11_byteAt 15 rfl) ha1l ha1s (h_in e10 (by omega) (by omega)) (show FI a1 (x9).toNatClampNeg = x11 from h12) ?_
      refine xw_iret (aX11_byteAt 16 rfl) rfl rfl ?_
      exact ⟨x11, rfl, rfl⟩
    · refine hw_ic (v := ((-1) : Int32)) (aX11_byteAt 10 rfl) (by decide) ?_
      refine xw_goto (tgt := 22) (aX11_byteAt 11 rfl) (by decide) ?_
      refine xw_iret (aX11_byteAt 16 rfl) rfl rfl ?_
      have e13 : (((-1) : Int32)).toInt = (-1) := (by decide : ((-1) : Int32).toInt = (-1))
      exact ⟨((-1) : Int32), rfl, rfl⟩
def nX5_blockByte : Nat := 0xac2400b8611f852100b42a1d00b42aac0205009b940f00b42a1f0c009b94091f1200c61d00b42a1900a0070900b42a
theorem bX5_blockByte : cX5_blockByte.data.toList.map UInt8.toNat = x_un nX5_blockByte 47 := by decide +kernel
def iX5_blockByte : List (Nat × Jvm.ClassFile.Instr × Nat) := [(0, .aload_n 0, 1), (1, .getfield 9, 3), (4, .iconst 4, 1), (5, .if_icmp .ne 25, 3), (8, .aload_n 0, 1), (9, .getfield 29, 3), (12, .ifnull 18, 3), (15, .lload_n 1, 1), (16, .lconst 0, 1), (17, .lcmp, 1), (18, .ifCond .lt 12, 3), (21, .lload_n 1, 1), (22, .aload_n 0, 1), (23, .getfield 15, 3), (26, .lcmp, 1), (27, .ifCond .lt 5, 3), (30, .iconst (-1), 1), (31, .ireturn, 1), (32, .aload_n 0, 1), (33, .getfield 29, 3), (36, .aload_n 0, 1), (37, .getfield 33, 3), (40, .i2l, 1), (41, .lload_n 1, 1), (42, .ladd, 1), (43, .invokestatic 36, 3), (46, .ireturn, 1)]
theorem dX5_blockByte : x_il nX5_blockByte 47 iX5_blockByte = true := by decide +kernel
theorem aX5_blockByte (k : Nat) {pc : Nat} {i : Jvm.ClassFile.Instr} {len : Nat} (hk : iX5_blockByte[k]? = some (pc, i, len)) : x_at xMM 62 pc i len yX5_blockByte 3 (some .int) := ⟨cX5_blockByte, rfl, x_il_ok bX5_blockByte dX5_blockByte k hk⟩
set_option maxHeartbeats 4000000 in
set_option maxRecDepth 100000 in
theorem k_X5_blockByte {sk : xK} {base d n sl : Nat} {SH : Nat → Nat × Nat} {FI : Nat → Nat → Int32} {FL : Nat → Nat → Int64} {FR : Nat → Nat → Option Nat} (hS : h_S n SH) (hF : h_FR FR) (hI : g_I FI) (hR : g_R n SH FR) (c : Nat) {zc : Nat} (hc : c < n) (hsc : SH c = (5, zc)) (hoc : own c) (a1 : Int64) : hw sk base (d + 1) none 62 0 [(0, .ref (base + c)), (1, .long (a1))] [] (n, sl, SH, FI, FL, FR) (h_I (fun r s => s = (n, sl, SH, FI, FL, FR))) := by
  have rg_a1 := l_rng a1
  refine hw_aloadn (aX5_blockByte 0 rfl) rfl ?_
  obtain ⟨x1, h2⟩ : ∃ y, FI c 0 = y := ⟨_, rfl⟩
  have h2l := congrArg Int32.toInt h2
  have := i_rng x1
  refine hw_get (v := .int (x1)) (aX5_blockByte 1 rfl) wf_RX5_9 hc hsc (by decide) (congrArg Value.int (show FI c 0 = x1 from h2)) ?_
  refine hw_ic (v := (4 : Int32)) (aX5_blockByte 2 rfl) (by decide) ?_
  refine hw_icne (tgt := 30) (aX5_blockByte 3 rfl) (by decide) rfl (by decide : (4 : Int32).toInt = 4) (fun cd3 => ?_) (fun cd3 => ?_)
  · refine hw_ic (v := ((-1) : Int32)) (aX5_blockByte 16 rfl) (by decide) ?_
    refine xw_iret (aX5_blockByte 17 rfl) rfl rfl ?_
    have e4 : (((-1) : Int32)).toInt = (-1) := (by decide : ((-1) : Int32).toInt = (-1))
    exact ⟨((-1) : Int32), rfl, rfl⟩
  · refine hw_aloadn (aX5_blockByte 4 rfl) rfl ?_
    obtain ⟨o5, h6⟩ : ∃ y, FR c 4 = y := ⟨_, rfl⟩
    have ht7 : ∀ r, o5 = some r → r < n ∧ own r ∧ SH r = (100, (SH r).2) := fun r e => gR_get hR hc hoc hsc (h6.trans e)
    refine hw_get (v := va_rf (h_rf base (o5))) (aX5_blockByte 5 rfl) wf_RX5_29 hc hsc (by decide) (congrArg (fun r => va_rf (h_rf base r)) (show FR c 4 = o5 from h6)) ?_
    refine xw_ifnull (v := h_rf base o5) (tgt := 30) (aX5_blockByte 6 rfl) (by decide) (fun hn8 => ?_) (fun hn8 => ?_)
    · obtain rfl := h_rf_n hn8
      show hw sk base _ _ _ _ [(0, .ref (base + c)), (1, .long (a1))] [] _ _
      refine hw_ic (v := ((-1) : Int32)) (aX5_blockByte 16 rfl) (by decide) ?_
      refine xw_iret (aX5_blockByte 17 rfl) rfl rfl ?_
      have e9 : (((-1) : Int32)).toInt = (-1) := (by decide : ((-1) : Int32).toInt = (-1))
      exact ⟨((-1) : Int32), rfl, rfl⟩
    · obtain ⟨r10, rfl⟩ := h_rf_s hn8
      obtain ⟨lt11, ow12, sh13⟩ := ht7 r10 rfl
      show hw sk base _ _ _ _ [(0, .ref (base + c)), (1, .long (a1))] [] _ _
      refine xw_lloadn (aX5_blockByte 7 rfl) rfl ?_
      refine hw_lc (v := (0 : Int64)) (aX5_blockByte 8 rfl) (by decide) ?_
      refine hw_lclt (tgt := 30) (aX5_blockByte 9 rfl) (aX5_blockByte 10 rfl) (by decide) rfl (by decide : (0 : Int64).toInt = 0) (fun cd14 => ?_) (fun cd14 => ?_)
      · refine hw_ic (v := ((-1) : Int32)) (aX5_blockByte 16 rfl) (by decide) ?_
        refine xw_iret (aX5_blockByte 17 rfl) rfl rfl ?_
        have e15 : (((-1) : Int32)).toInt = (-1) := (by decide : ((-1) : Int32).toInt = (-1))
        exact ⟨((-1) : Int32), rfl, rfl⟩
      · refine xw_lloadn (aX5_blockByte 11 rfl) rfl ?_
        refine hw_aloadn (aX5_blockByte 12 rfl) rfl ?_
        obtain ⟨x16, h17⟩ : ∃ y, FL c 1 = y := ⟨_, rfl⟩
        have h17l := congrArg Int64.toInt h17
        have := l_rng x16
        refine hw_get (v := .long (x16)) (aX5_blockByte 13 rfl) wf_RX5_15 hc hsc (by decide) (congrArg Value.long (show FL c 1 = x16 from h17)) ?_
        refine hw_lclt (tgt := 32) (aX5_blockByte 14 rfl) (aX5_blockByte 15 rfl) (by decide) rfl rfl (fun cd18 => ?_) (fun cd18 => ?_)
        · refine hw_aloadn (aX5_blockByte 18 rfl) rfl ?_
          refine hw_get (v := .ref (base + r10)) (aX5_blockByte 19 rfl) wf_RX5_29 hc hsc (by decide) (congrArg (fun r => va_rf (h_rf base r)) (show FR c 4 = some r10 from h6)) ?_
          refine hw_aloadn (aX5_blockByte 20 rfl) rfl ?_
          obtain ⟨x19, h20⟩ : ∃ y, FI c 5 = y := ⟨_, rfl⟩
          have h20l := congrArg Int32.toInt h20
          have := i_rng x19
          refine hw_get (v := .int (x19)) (aX5_blockByte 21 rfl) wf_RX5_33 hc hsc (by decide) (congrArg Value.int (show FI c 5 = x19 from h20)) ?_
          refine xw_i2l (aX5_blockByte 22 rfl) ?_
          refine hw_tle (A := (x19).toInt) (i_2l rfl) (fun x21 e22 => ?_)
          refine xw_lloadn (aX5_blockByte 23 rfl) rfl ?_
          refine xw_ladd (aX5_blockByte 24 rfl) ?_
          refine hw_tl (fun x23 => ?_)
          have b24 := l_rng x23
          refine hw_callS (As := [.ref (base + r10), .long (x23)]) (rest := []) (aX5_blockByte 25 rfl) wc_RX5_36 (by decide) rfl wt_yX11_byteAt rfl rfl (Nat.le_of_ble_eq_true rfl) (Nat.le_of_ble_eq_true rfl) (k_X11_byteAt (d := d) hS hF hI hR (r10) lt11 sh13 ow12 (x23) ) (fun v25 sv26 p27 => ?_)
          obtain ⟨r28, rfl, rfl⟩ := p27
          have rg_r28 := i_rng r28
          show hw sk base _ _ _ _ _ [.int (r28)] _ _
          refine xw_iret (aX5_blockByte 26 rfl) rfl rfl ?_
          exact ⟨r28, rfl, rfl⟩
        · refine hw_ic (v := ((-1) : Int32)) (aX5_blockByte 16 rfl) (by decide) ?_
          refine xw_iret (aX5_blockByte 17 rfl) rfl rfl ?_
          have e34 : (((-1) : Int32)).toInt = (-1) := (by decide : ((-1) : Int32).toInt = (-1))
          exact ⟨((-1) : Int32), rfl, rfl⟩
def nX1_hasBytes : Nat := 0xac030400a70407009d9485641dbe0f00b42a1f14009b94091f
theorem bX1_hasBytes : cX1_hasBytes.data.toList.map UInt8.toNat = x_un nX1_hasBytes 25 := by decide +kernel
def iX1_hasBytes : List (Nat × Jvm.ClassFile.Instr × Nat) := [(0, .lload_n 1, 1), (1, .lconst 0, 1), (2, .lcmp, 1), (3, .ifCond .lt 20, 3), (6, .lload_n 1, 1), (7, .aload_n 0, 1), (8, .getfield 15, 3), (11, .arraylength, 1), (12, .iload_n 3, 1), (13, .isub, 1), (14, .i2l, 1), (15, .lcmp, 1), (16, .ifCond .gt 7, 3), (19, .iconst 1, 1), (20, .goto 4, 3), (23, .iconst 0, 1), (24, .ireturn, 1)]
theorem dX1_hasBytes : x_il nX1_hasBytes 25 iX1_hasBytes = true := by decide +kernel
theorem aX1_hasBytes (k : Nat) {pc : Nat} {i : Jvm.ClassFile.Instr} {len : Nat} (hk : iX1_hasBytes[k]? = some (pc, i, len)) : x_at xMM 22 pc i len yX1_hasBytes 4 (some .boolean) := ⟨cX1_hasBytes, rfl, x_il_ok bX1_hasBytes dX1_hasBytes k hk⟩
set_option maxHeartbeats 4000000 in
set_option maxRecDepth 100000 in
theorem k_X1_hasBytes {sk : xK} {base d n sl : Nat} {SH : Nat → Nat × Nat} {FI : Nat → Nat → Int32} {FL : Nat → Nat → Int64} {FR : Nat → Nat → Option Nat} (hS : h_S n SH) (hF : h_FR FR) (hI : g_I FI) (hR : g_R n SH FR) (a1 : Int64) (a2 : Int32) (g0 : 0 ≤ (a2).toInt ∧ (a2).toInt ≤ 64) : hw sk base d none 22 0 [(0, .ref (base + 23)), (1, .long (a1)), (3, .int (a2))] [] (n, sl, SH, FI, FL, FR) (h_I (fun r s => s = (n, sl, SH, FI, FL, FR) ∧ (r.toInt = 1 → 0 ≤ (a1).toInt ∧ (a1).toInt ≤ 4096 - (a2).toInt) ∧ (0 ≤ r.toInt ∧ r.toInt ≤ 1))) := by
  have rg_a1 := l_rng a1
  have rg_a2 := i_rng a2
  refine xw_lloadn (aX1_hasBytes 0 rfl) rfl ?_
  refine hw_lc (v := (0 : Int64)) (aX1_hasBytes 1 rfl) (by decide) ?_
  refine hw_lclt (tgt := 23) (aX1_hasBytes 2 rfl) (aX1_hasBytes 3 rfl) (by decide) rfl (by decide : (0 : Int64).toInt = 0) (fun cd1 => ?_) (fun cd1 => ?_)
  · refine hw_ic (v := (0 : Int32)) (aX1_hasBytes 15 rfl) (by decide) ?_
    refine xw_iret (aX1_hasBytes 16 rfl) rfl (by decide) ?_
    have e2 : ((0 : Int32)).toInt = 0 := (by decide : (0 : Int32).toInt = 0)
    exact ⟨(0 : Int32), rfl, rfl, (by have : ((0 : Int32)).toInt = 0 := (by decide); omega), (by have : ((0 : Int32)).toInt = 0 := (by decide); omega)⟩
  · refine xw_lloadn (aX1_hasBytes 4 rfl) rfl ?_
    refine hw_aloadn (aX1_hasBytes 5 rfl) rfl ?_
    refine hw_get (v := .ref (base + 25)) (aX1_hasBytes 6 rfl) wf_RX1_15 (c23 hS) (s23 hS) (by decide) (congrArg (fun r => va_rf (h_rf base r)) (r23_1 hF)) ?_
    refine hw_alen (k := 0) (z := 4096) (v := (4096 : Int32)) (aX1_hasBytes 7 rfl) (c25 hS) (s25 hS) (by decide) (by decide) ?_
    refine xw_iloadn (aX1_hasBytes 8 rfl) rfl ?_
    refine xw_isub (aX1_hasBytes 9 rfl) ?_
    refine hw_tie (A := (4096) - ((a2).toInt)) (i_sub (by decide : (4096 : Int32).toInt = 4096) rfl (by omega) (by omega)) (fun x3 e4 => ?_)
    refine xw_i2l (aX1_hasBytes 10 rfl) ?_
    refine hw_tle (A := (4096) - ((a2).toInt)) (i_2l e4) (fun x5 e6 => ?_)
    refine hw_lcgt (tgt := 23) (aX1_hasBytes 11 rfl) (aX1_hasBytes 12 rfl) (by decide) rfl e6 (fun cd7 => ?_) (fun cd7 => ?_)
    · refine hw_ic (v := (0 : Int32)) (aX1_hasBytes 15 rfl) (by decide) ?_
      refine xw_iret (aX1_hasBytes 16 rfl) rfl (by decide) ?_
      have e8 : ((0 : Int32)).toInt = 0 := (by decide : (0 : Int32).toInt = 0)
      exact ⟨(0 : Int32), rfl, rfl, (by have : ((0 : Int32)).toInt = 0 := (by decide); omega), (by have : ((0 : Int32)).toInt = 0 := (by decide); omega)⟩
    · refine hw_ic (v := (1 : Int32)) (aX1_hasBytes 13 rfl) (by decide) ?_
      refine xw_goto (tgt := 24) (aX1_hasBytes 14 rfl) (by decide) ?_
      refine xw_iret (aX1_hasBytes 16 rfl) rfl (by decide) ?_
      have e9 : ((1 : Int32)).toInt = 1 := (by decide : (1 : Int32).toInt = 1)
      exact ⟨(1 : Int32), rfl, rfl, (by have : ((1 : Int32)).toInt = 1 := (by decide); omega), (by have : ((1 : Int32)).toInt = 1 := (by decide); omega)⟩
def nX11_isBelow : Nat := 0xac030400a70407009c9461b600142061b600141e
theorem bX11_isBelow : cX11_isBelow.data.toList.map UInt8.toNat = x_un nX11_isBelow 20 := by decide +kernel
def iX11_isBelow : List (Nat × Jvm.ClassFile.Instr × Nat) := [(0, .lload_n 0, 1), (1, .ldc2_w 182, 3), (4, .ladd, 1), (5, .lload_n 2, 1), (6, .ldc2_w 182, 3), (9, .ladd, 1), (10, .lcmp, 1), (11, .ifCond .ge 7, 3), (14, .iconst 1, 1), (15, .goto 4, 3), (18, .iconst 0, 1), (19, .ireturn, 1)]
theorem dX11_isBelow : x_il nX11_isBelow 20 iX11_isBelow = true := by decide +kernel
theorem aX11_isBelow (k : Nat) {pc : Nat} {i : Jvm.ClassFile.Instr} {len : Nat} (hk : iX11_isBelow[k]? = some (pc, i, len)) : x_at xMM 138 pc i len yX11_isBelow 4 (some .boolean) := ⟨cX11_isBelow, rfl, x_il_ok bX11_isBelow dX11_isBelow k hk⟩
set_option maxHeartbeats 4000000 in
set_option maxRecDepth 100000 in
theorem k_X11_isBelow {sk : xK} {base d n sl : Nat} {SH : Nat → Nat × Nat} {FI : Nat → Nat → Int32} {FL : Nat → Nat → Int64} {FR : Nat → Nat → Option Nat} (hS : h_S n SH) (hF : h_FR FR) (hI : g_I FI) (hR : g_R n SH FR) (a1 : Int64) (a2 : Int64) : hw sk base d none 138 0 [(0, .long (a1)), (2, .long (a2))] [] (n, sl, SH, FI, FL, FR) (h_I (fun r s => s = (n, sl, SH, FI, FL, FR) ∧ (0 ≤ r.toInt ∧ r.toInt ≤ 1))) := by
  have rg_a1 := l_rng a1
  have rg_a2 := l_rng a2
  refine xw_lloadn (aX11_isBelow 0 rfl) rfl ?_
  refine xw_ldc2 (aX11_isBelow 1 rfl) wk_RX11_182 ?_
  refine xw_ladd (aX11_isBelow 2 rfl) ?_
  refine hw_tl (fun x1 => ?_)
  have b2 := l_rng x1
  refine xw_lloadn (aX11_isBelow 3 rfl) rfl ?_
  refine xw_ldc2 (aX11_isBelow 4 rfl) wk_RX11_182 ?_
  refine xw_ladd (aX11_isBelow 5 rfl) ?_
  refine hw_tl (fun x3 => ?_)
  have b4 := l_rng x3
  refine hw_lcge (tgt := 18) (aX11_isBelow 6 rfl) (aX11_isBelow 7 rfl) (by decide) rfl rfl (fun cd5 => ?_) (fun cd5 => ?_)
  · refine hw_ic (v := (0 : Int32)) (aX11_isBelow 10 rfl) (by decide) ?_
    refine xw_iret (aX11_isBelow 11 rfl) rfl (by decide) ?_
    have e6 : ((0 : Int32)).toInt = 0 := (by decide : (0 : Int32).toInt = 0)
    exact ⟨(0 : Int32), rfl, rfl, (by have : ((0 : Int32)).toInt = 0 := (by decide); omega)⟩
  · refine hw_ic (v := (1 : Int32)) (aX11_isBelow 8 rfl) (by decide) ?_
    refine xw_goto (tgt := 19) (aX11_isBelow 9 rfl) (by decide) ?_
    refine xw_iret (aX11_isBelow 11 rfl) rfl (by decide) ?_
    have e7 : ((1 : Int32)).toInt = 1 := (by decide : (1 : Int32).toInt = 1)
    exact ⟨(1 : Int32), rfl, rfl, (by have : ((1 : Int32)).toInt = 1 := (by decide); omega)⟩
def nX11_isFuel : Nat := 0xac030400a7040700a3e803111a0e00a1041a
theorem bX11_isFuel : cX11_isFuel.data.toList.map UInt8.toNat = x_un nX11_isFuel 18 := by decide +kernel
def iX11_isFuel : List (Nat × Jvm.ClassFile.Instr × Nat) := [(0, .iload_n 0, 1), (1, .iconst 1, 1), (2, .if_icmp .lt 14, 3), (5, .iload_n 0, 1), (6, .sipush 1000, 3), (9, .if_icmp .gt 7, 3), (12, .iconst 1, 1), (13, .goto 4, 3), (16, .iconst 0, 1), (17, .ireturn, 1)]
theorem dX11_isFuel : x_il nX11_isFuel 18 iX11_isFuel = true := by decide +kernel
theorem aX11_isFuel (k : Nat) {pc : Nat} {i : Jvm.ClassFile.Instr} {len : Nat} (hk : iX11_isFuel[k]? = some (pc, i, len)) : x_at xMM 133 pc i len yX11_isFuel 1 (some .boolean) := ⟨cX11_isFuel, rfl, x_il_ok bX11_isFuel dX11_isFuel k hk⟩
set_option maxHeartbeats 4000000 in
set_option maxRecDepth 100000 in
theorem k_X11_isFuel {sk : xK} {base d n sl : Nat} {SH : Nat → Nat × Nat} {FI : Nat → Nat → Int32} {FL : Nat → Nat → Int64} {FR : Nat → Nat → Option Nat} (hS : h_S n SH) (hF : h_FR FR) (hI : g_I FI) (hR : g_R n SH FR) (a1 : Int32) : hw sk base d none 133 0 [(0, .int (a1))] [] (n, sl, SH, FI, FL, FR) (h_I (fun r s => s = (n, sl, SH, FI, FL, FR) ∧ (0 ≤ r.toInt ∧ r.toInt ≤ 1))) := by
  have rg_a1 := i_rng a1
  refine xw_iloadn (aX11_isFuel 0 rfl) rfl ?_
  refine hw_ic (v := (1 : Int32)) (aX11_isFuel 1 rfl) (by decide) ?_
  refine hw_iclt (tgt := 16) (aX11_isFuel 2 rfl) (by decide) rfl (by decide : (1 : Int32).toInt = 1) (fun cd1 => ?_) (fun cd1 => ?_)
  · refine hw_ic (v := (0 : Int32)) (aX11_isFuel 8 rfl) (by decide) ?_
    refine xw_iret (aX11_isFuel 9 rfl) rfl (by decide) ?_
    have e2 : ((0 : Int32)).toInt = 0 := (by decide : (0 : Int32).toInt = 0)
    exact ⟨(0 : Int32), rfl, rfl, (by have : ((0 : Int32)).toInt = 0 := (by decide); omega)⟩
  · refine xw_iloadn (aX11_isFuel 3 rfl) rfl ?_
    refine hw_sp (v := (1000 : Int32)) (aX11_isFuel 4 rfl) (by decide) ?_
    refine hw_icgt (tgt := 16) (aX11_isFuel 5 rfl) (by decide) rfl (by decide : (1000 : Int32).toInt = 1000) (fun cd3 => ?_) (fun cd3 => ?_)
    · refine hw_ic (v := (0 : Int32)) (aX11_isFuel 8 rfl) (by decide) ?_
      refine xw_iret (aX11_isFuel 9 rfl) rfl (by decide) ?_
      have e4 : ((0 : Int32)).toInt = 0 := (by decide : (0 : Int32).toInt = 0)
      exact ⟨(0 : Int32), rfl, rfl, (by have : ((0 : Int32)).toInt = 0 := (by decide); omega)⟩
    · refine hw_ic (v := (1 : Int32)) (aX11_isFuel 6 rfl) (by decide) ?_
      refine xw_goto (tgt := 17) (aX11_isFuel 7 rfl) (by decide) ?_
      refine xw_iret (aX11_isFuel 9 rfl) rfl (by decide) ?_
      have e5 : ((1 : Int32)).toInt = 1 := (by decide : (1 : Int32).toInt = 1)
      exact ⟨(1 : Int32), rfl, rfl, (by have : ((1 : Int32)).toInt = 1 := (by decide); omega)⟩
def nX9_goesWithHold : Nat := 0xac030400a7040700a09900111a0a009f9800111a11009f2f101a17009f9600111a1e009f9d00111a25009f9300111a
theorem bX9_goesWithHold : cX9_goesWithHold.data.toList.map UInt8.toNat = x_un nX9_goesWithHold 47 := by decide +kernel
def iX9_goesWithHold : List (Nat × Jvm.ClassFile.Instr × Nat) := [(0, .iload_n 0, 1), (1, .sipush 147, 3), (4, .if_icmp .eq 37, 3), (7, .iload_n 0, 1), (8, .sipush 157, 3), (11, .if_icmp .eq 30, 3), (14, .iload_n 0, 1), (15, .sipush 150, 3), (18, .if_icmp .eq 23, 3), (21, .iload_n 0, 1), (22, .bipush 47, 2), (24, .if_icmp .eq 17, 3), (27, .iload_n 0, 1), (28, .sipush 152, 3), (31, .if_icmp .eq 10, 3), (34, .iload_n 0, 1), (35, .sipush 153, 3), (38, .if_icmp .ne 7, 3), (41, .iconst 1, 1), (42, .goto 4, 3), (45, .iconst 0, 1), (46, .ireturn, 1)]
theorem dX9_goesWithHold : x_il nX9_goesWithHold 47 iX9_goesWithHold = true := by decide +kernel
theorem aX9_goesWithHold (k : Nat) {pc : Nat} {i : Jvm.ClassFile.Instr} {len : Nat} (hk : iX9_goesWithHold[k]? = some (pc, i, len)) : x_at xMM 94 pc i len yX9_goesWithHold 1 (some .boolean) := ⟨cX9_goesWithHold, rfl, x_il_ok bX9_goesWithHold dX9_goesWithHold k hk⟩
set_option maxHeartbeats 4000000 in
set_option maxRecDepth 100000 in
theorem k_X9_goesWithHold {sk : xK} {base d n sl : Nat} {SH : Nat → Nat × Nat} {FI : Nat → Nat → Int32} {FL : Nat → Nat → Int64} {FR : Nat → Nat → Option Nat} (hS : h_S n SH) (hF : h_FR FR) (hI : g_I FI) (hR : g_R n SH FR) (a1 : Int32) : hw sk base d none 94 0 [(0, .int (a1))] [] (n, sl, SH, FI, FL, FR) (h_I (fun r s => s = (n, sl, SH, FI, FL, FR) ∧ (0 ≤ r.toInt ∧ r.toInt ≤ 1))) := by
  have rg_a1 := i_rng a1
  refine xw_iloadn (aX9_goesWithHold 0 rfl) rfl ?_
  refine hw_sp (v := (147 : Int32)) (aX9_goesWithHold 1 rfl) (by decide) ?_
  refine hw_iceq (tgt := 41) (aX9_goesWithHold 2 rfl) (by decide) rfl (by decide : (147 : Int32).toInt = 147) (fun cd1 => ?_) (fun cd1 => ?_)
  · refine hw_ic (v := (1 : Int32)) (aX9_goesWithHold 18 rfl) (by decide) ?_
    refine xw_goto (tgt := 46) (aX9_goesWithHold 19 rfl) (by decide) ?_
    refine xw_iret (aX9_goesWithHold 21 rfl) rfl (by decide) ?_
    have e2 : ((1 : Int32)).toInt = 1 := (by decide : (1 : Int32).toInt = 1)
    exact ⟨(1 : Int32), rfl, rfl, (by have : ((1 : Int32)).toInt = 1 := (by decide); omega)⟩
  · refine xw_iloadn (aX9_goesWithHold 3 rfl) rfl ?_
    refine hw_sp (v := (157 : Int32)) (aX9_goesWithHold 4 rfl) (by decide) ?_
    refine hw_iceq (tgt := 41) (aX9_goesWithHold 5 rfl) (by decide) rfl (by decide : (157 : Int32).toInt = 157) (fun cd3 => ?_) (fun cd3 => ?_)
    · refine hw_ic (v := (1 : Int32)) (aX9_goesWithHold 18 rfl) (by decide) ?_
      refine xw_goto (tgt := 46) (aX9_goesWithHold 19 rfl) (by decide) ?_
      refine xw_iret (aX9_goesWithHold 21 rfl) rfl (by decide) ?_
      have e4 : ((1 : Int32)).toInt = 1 := (by decide : (1 : Int32).toInt = 1)
      exact ⟨(1 : Int32), rfl, rfl, (by have : ((1 : Int32)).toInt = 1 := (by decide); omega)⟩
    · refine xw_iloadn (aX9_goesWithHold 6 rfl) rfl ?_
      refine hw_sp (v := (150 : Int32)) (aX9_goesWithHold 7 rfl) (by decide) ?_
      refine hw_iceq (tgt := 41) (aX9_goesWithHold 8 rfl) (by decide) rfl (by decide : (150 : Int32).toInt = 150) (fun cd5 => ?_) (fun cd5 => ?_)
      · refine hw_ic (v := (1 : Int32)) (aX9_goesWithHold 18 rfl) (by decide) ?_
        refine xw_goto (tgt := 46) (aX9_goesWithHold 19 rfl) (by decide) ?_
        refine xw_iret (aX9_goesWithHold 21 rfl) rfl (by decide) ?_
        have e6 : ((1 : Int32)).toInt = 1 := (by decide : (1 : Int32).toInt = 1)
        exact ⟨(1 : Int32), rfl, rfl, (by have : ((1 : Int32)).toInt = 1 := (by decide); omega)⟩
      · refine xw_iloadn (aX9_goesWithHold 9 rfl) rfl ?_
        refine hw_bp (v := (47 : Int32)) (aX9_goesWithHold 10 rfl) (by decide) ?_
        refine hw_iceq (tgt := 41) (aX9_goesWithHold 11 rfl) (by decide) rfl (by decide : (47 : Int32).toInt = 47) (fun cd7 => ?_) (fun cd7 => ?_)
        · refine hw_ic (v := (1 : Int32)) (aX9_goesWithHold 18 rfl) (by decide) ?_
          refine xw_goto (tgt := 46) (aX9_goesWithHold 19 rfl) (by decide) ?_
          refine xw_iret (aX9_goesWithHold 21 rfl) rfl (by decide) ?_
          have e8 : ((1 : Int32)).toInt = 1 := (by decide : (1 : Int32).toInt = 1)
          exact ⟨(1 : Int32), rfl, rfl, (by have : ((1 : Int32)).toInt = 1 := (by decide); omega)⟩
        · refine xw_iloadn (aX9_goesWithHold 12 rfl) rfl ?_
          refine hw_sp (v := (152 : Int32)) (aX9_goesWithHold 13 rfl) (by decide) ?_
          refine hw_iceq (tgt := 41) (aX9_goesWithHold 14 rfl) (by decide) rfl (by decide : (152 : Int32).toInt = 152) (fun cd9 => ?_) (fun cd9 => ?_)
          · refine hw_ic (v := (1 : Int32)) (aX9_goesWithHold 18 rfl) (by decide) ?_
            refine xw_goto (tgt := 46) (aX9_goesWithHold 19 rfl) (by decide) ?_
            refine xw_iret (aX9_goesWithHold 21 rfl) rfl (by decide) ?_
            have e10 : ((1 : Int32)).toInt = 1 := (by decide : (1 : Int32).toInt = 1)
            exact ⟨(1 : Int32), rfl, rfl, (by have : ((1 : Int32)).toInt = 1 := (by decide); omega)⟩
          · refine xw_iloadn (aX9_goesWithHold 15 rfl) rfl ?_
            refine hw_sp (v := (153 : Int32)) (aX9_goesWithHold 16 rfl) (by decide) ?_
            refine hw_icne (tgt := 45) (aX9_goesWithHold 17 rfl) (by decide) rfl (by decide : (153 : Int32).toInt = 153) (fun cd11 => ?_) (fun cd11 => ?_)
            · refine hw_ic (v := (0 : Int32)) (aX9_goesWithHold 20 rfl) (by decide) ?_
              refine xw_iret (aX9_goesWithHold 21 rfl) rfl (by decide) ?_
              have e12 : ((0 : Int32)).toInt = 0 := (by decide : (0 : Int32).toInt = 0)
              exact ⟨(0 : Int32), rfl, rfl, (by have : ((0 : Int32)).toInt = 0 := (by decide); omega)⟩
            · refine hw_ic (v := (1 : Int32)) (aX9_goesWithHold 18 rfl) (by decide) ?_
              refine xw_goto (tgt := 46) (aX9_goesWithHold 19 rfl) (by decide) ?_
              refine xw_iret (aX9_goesWithHold 21 rfl) rfl (by decide) ?_
              have e13 : ((1 : Int32)).toInt = 1 := (by decide : (1 : Int32).toInt = 1)
              exact ⟨(1 : Int32), rfl, rfl, (by have : ((1 : Int32)).toInt = 1 := (by decide); omega)⟩
def nX9_wanted : Nat := 0xac030400a7050700a32e101b0d00a11a101bac06ac6004886000b42aac05ac04830000009f000000830000009b0000008300000094000000830000002800000083000000230000008300000020000000830000001f00000083000000190000008f000000170000008500000016000000870000001500000085000000140000008300000013000000830000001200000083000000060000000f000000910000000000ab1b
theorem bX9_wanted : cX9_wanted.data.toList.map UInt8.toNat = x_un nX9_wanted 164 := by decide +kernel
def iX9_wanted : List (Nat × Jvm.ClassFile.Instr × Nat) := [(0, .iload_n 1, 1), (132, .iconst 1, 1), (133, .ireturn, 1), (134, .iconst 2, 1), (135, .ireturn, 1), (136, .aload_n 0, 1), (137, .getfield 96, 3), (140, .l2i, 1), (141, .iconst 1, 1), (142, .iadd, 1), (143, .ireturn, 1), (144, .iconst 3, 1), (145, .ireturn, 1), (146, .iload_n 1, 1), (147, .bipush 26, 2), (149, .if_icmp .lt 13, 3), (152, .iload_n 1, 1), (153, .bipush 46, 2), (155, .if_icmp .gt 7, 3), (158, .iconst 2, 1), (159, .goto 4, 3), (162, .iconst 0, 1), (163, .ireturn, 1)]
theorem dX9_wanted : x_il nX9_wanted 164 iX9_wanted = true := by decide +kernel
theorem aX9_wanted (k : Nat) {pc : Nat} {i : Jvm.ClassFile.Instr} {len : Nat} (hk : iX9_wanted[k]? = some (pc, i, len)) : x_at xMM 96 pc i len yX9_wanted 2 (some .int) := ⟨cX9_wanted, rfl, x_il_ok bX9_wanted dX9_wanted k hk⟩
theorem aX9_wanted_1 : x_at xMM 96 1 (.lookupswitch 145 #[(6, 131), (18, 131), (19, 131), (20, 133), (21, 135), (22, 133), (23, 143), (25, 131), (31, 131), (32, 131), (35, 131), (40, 131), (148, 131), (155, 131), (159, 131)]) 131 yX9_wanted 2 (some .int) := ⟨cX9_wanted, rfl, by decide +kernel⟩
set_option maxHeartbeats 4000000 in
set_option maxRecDepth 100000 in
theorem k_X9_wanted {sk : xK} {base d n sl : Nat} {SH : Nat → Nat × Nat} {FI : Nat → Nat → Int32} {FL : Nat → Nat → Int64} {FR : Nat → Nat → Option Nat} (hS : h_S n SH) (hF : h_FR FR) (hI : g_I FI) (hR : g_R n SH FR) (c : Nat) {zc : Nat} (hc : c < n) (hsc : SH c = (9, zc)) (hoc : own c) (a1 : Int32) : hw sk base d none 96 0 [(0, .ref (base + c)), (1, .int (a1))] [] (n, sl, SH, FI, FL, FR) (h_I (fun r s => s = (n, sl, SH, FI, FL, FR))) := by
  have rg_a1 := i_rng a1
  refine xw_iloadn (aX9_wanted 0 rfl) rfl ?_
  have hsw : ((a1).toInt ≠ 6 ∧ (a1).toInt ≠ 18 ∧ (a1).toInt ≠ 19 ∧ (a1).toInt ≠ 20 ∧ (a1).toInt ≠ 21 ∧ (a1).toInt ≠ 22 ∧ (a1).toInt ≠ 23 ∧ (a1).toInt ≠ 25 ∧ (a1).toInt ≠ 31 ∧ (a1).toInt ≠ 32 ∧ (a1).toInt ≠ 35 ∧ (a1).toInt ≠ 40 ∧ (a1).toInt ≠ 148 ∧ (a1).toInt ≠ 155 ∧ (a1).toInt ≠ 159) ∨ ((a1).toInt = 6 ∨ (a1).toInt = 18 ∨ (a1).toInt = 19 ∨ (a1).toInt = 25 ∨ (a1).toInt = 31 ∨ (a1).toInt = 32 ∨ (a1).toInt = 35 ∨ (a1).toInt = 40 ∨ (a1).toInt = 148 ∨ (a1).toInt = 155 ∨ (a1).toInt = 159) ∨ ((a1).toInt = 20 ∨ (a1).toInt = 22) ∨ ((a1).toInt = 21) ∨ ((a1).toInt = 23) := by omega
  rcases hsw with hsw | hsw | hsw | hsw | hsw
  · refine xw_lsw (tgt := 146) aX9_wanted_1 (by decide) (by show (1 : Int) + Jvm.Op.lookupswitch.offset [(6, 131), (18, 131), (19, 131), (20, 133), (21, 135), (22, 133), (23, 143), (25, 131), (31, 131), (32, 131), (35, 131), (40, 131), (148, 131), (155, 131), (159, 131)] (145) (a1).toInt = 146; simp only [Jvm.Op.lookupswitch.offset]; rw [if_neg (by omega), if_neg (by omega), if_neg (by omega), if_neg (by omega), if_neg (by omega), if_neg (by omega), if_neg (by omega), if_neg (by omega), if_neg (by omega), if_neg (by omega), if_neg (by omega), if_neg (by omega), if_neg (by omega), if_neg (by omega), if_neg (by omega)]; rfl) ?_
    clear hsw
    refine xw_iloadn (aX9_wanted 13 rfl) rfl ?_
    refine hw_bp (v := (26 : Int32)) (aX9_wanted 14 rfl) (by decide) ?_
    refine hw_iclt (tgt := 162) (aX9_wanted 15 rfl) (by decide) rfl (by decide : (26 : Int32).toInt = 26) (fun cd1 => ?_) (fun cd1 => ?_)
    · refine hw_ic (v := (0 : Int32)) (aX9_wanted 21 rfl) (by decide) ?_
      refine xw_iret (aX9_wanted 22 rfl) rfl rfl ?_
      have e2 : ((0 : Int32)).toInt = 0 := (by decide : (0 : Int32).toInt = 0)
      exact ⟨(0 : Int32), rfl, rfl⟩
    · refine xw_iloadn (aX9_wanted 16 rfl) rfl ?_
      refine hw_bp (v := (46 : Int32)) (aX9_wanted 17 rfl) (by decide) ?_
      refine hw_icgt (tgt := 162) (aX9_wanted 18 rfl) (by decide) rfl (by decide : (46 : Int32).toInt = 46) (fun cd3 => ?_) (fun cd3 => ?_)
      · refine hw_ic (v := (0 : Int32)) (aX9_wanted 21 rfl) (by decide) ?_
        refine xw_iret (aX9_wanted 22 rfl) rfl rfl ?_
        have e4 : ((0 : Int32)).toInt = 0 := (by decide : (0 : Int32).toInt = 0)
        exact ⟨(0 : Int32), rfl, rfl⟩
      · refine hw_ic (v := (2 : Int32)) (aX9_wanted 19 rfl) (by decide) ?_
        refine xw_goto (tgt := 163) (aX9_wanted 20 rfl) (by decide) ?_
        refine xw_iret (aX9_wanted 22 rfl) rfl rfl ?_
        have e5 : ((2 : Int32)).toInt = 2 := (by decide : (2 : Int32).toInt = 2)
        exact ⟨(2 : Int32), rfl, rfl⟩
  · refine xw_lsw (tgt := 132) aX9_wanted_1 (by decide) (by rcases hsw with hsw | hsw | hsw | hsw | hsw | hsw | hsw | hsw | hsw | hsw | hsw <;> (rw [hsw]; decide)) ?_
    refine hw_ic (v := (1 : Int32)) (aX9_wanted 1 rfl) (by decide) ?_
    refine xw_iret (aX9_wanted 2 rfl) rfl rfl ?_
    have e6 : ((1 : Int32)).toInt = 1 := (by decide : (1 : Int32).toInt = 1)
    exact ⟨(1 : Int32), rfl, rfl⟩
  · refine xw_lsw (tgt := 134) aX9_wanted_1 (by decide) (by rcases hsw with hsw | hsw <;> (rw [hsw]; decide)) ?_
    refine hw_ic (v := (2 : Int32)) (aX9_wanted 3 rfl) (by decide) ?_
    refine xw_iret (aX9_wanted 4 rfl) rfl rfl ?_
    have e7 : ((2 : Int32)).toInt = 2 := (by decide : (2 : Int32).toInt = 2)
    exact ⟨(2 : Int32), rfl, rfl⟩
  · refine xw_lsw (tgt := 136) aX9_wanted_1 (by decide) (by rw [hsw]; decide) ?_
    refine hw_aloadn (aX9_wanted 5 rfl) rfl ?_
    obtain ⟨x8, h9⟩ : ∃ y, FL c 12 = y := ⟨_, rfl⟩
    have h9l := congrArg Int64.toInt h9
    have := l_rng x8
    refine hw_get (v := .long (x8)) (aX9_wanted 6 rfl) wf_RX9_96 hc hsc (by decide) (congrArg Value.long (show FL c 12 = x8 from h9)) ?_
    refine xw_l2i (aX9_wanted 7 rfl) ?_
    refine hw_ti (fun x10 => ?_)
    have b11 := i_rng x10
    refine hw_ic (v := (1 : Int32)) (aX9_wanted 8 rfl) (by decide) ?_
    refine xw_iadd (aX9_wanted 9 rfl) ?_
    have := i_rng ((x10) + ((1 : Int32)))
    refine xw_iret (aX9_wanted 10 rfl) rfl rfl ?_
    exact ⟨((x10) + ((1 : Int32))), rfl, rfl⟩
  · refine xw_lsw (tgt := 144) aX9_wanted_1 (by decide) (by rw [hsw]; decide) ?_
    refine hw_ic (v := (3 : Int32)) (aX9_wanted 11 rfl) (by decide) ?_
    refine xw_iret (aX9_wanted 12 rfl) rfl rfl ?_
    have e12 : ((3 : Int32)).toInt = 3 := (by decide : (3 : Int32).toInt = 3)
    exact ⟨(3 : Int32), rfl, rfl⟩
def nX9_changed : Nat := 0xad616000b42a20ad837d001420ad7520ad200400a7752008009c9409203300000020000000300000001f000000230000001900000003000000390000000000ab1b
theorem bX9_changed : cX9_changed.data.toList.map UInt8.toNat = x_un nX9_changed 65 := by decide +kernel
def iX9_changed : List (Nat × Jvm.ClassFile.Instr × Nat) := [(0, .iload_n 1, 1), (36, .lload_n 2, 1), (37, .lconst 0, 1), (38, .lcmp, 1), (39, .ifCond .ge 8, 3), (42, .lload_n 2, 1), (43, .lneg, 1), (44, .goto 4, 3), (47, .lload_n 2, 1), (48, .lreturn, 1), (49, .lload_n 2, 1), (50, .lneg, 1), (51, .lreturn, 1), (52, .lload_n 2, 1), (53, .ldc2_w 125, 3), (56, .lxor, 1), (57, .lreturn, 1), (58, .lload_n 2, 1), (59, .aload_n 0, 1), (60, .getfield 96, 3), (63, .ladd, 1), (64, .lreturn, 1)]
theorem dX9_changed : x_il nX9_changed 65 iX9_changed = true := by decide +kernel
theorem aX9_changed (k : Nat) {pc : Nat} {i : Jvm.ClassFile.Instr} {len : Nat} (hk : iX9_changed[k]? = some (pc, i, len)) : x_at xMM 104 pc i len yX9_changed 4 (some .long) := ⟨cX9_changed, rfl, x_il_ok bX9_changed dX9_changed k hk⟩
theorem aX9_changed_1 : x_at xMM 104 1 (.lookupswitch 57 #[(25, 35), (31, 48), (32, 51)]) 35 yX9_changed 4 (some .long) := ⟨cX9_changed, rfl, by decide +kernel⟩
set_option maxHeartbeats 4000000 in
set_option maxRecDepth 100000 in
theorem k_X9_changed {sk : xK} {base d n sl : Nat} {SH : Nat → Nat × Nat} {FI : Nat → Nat → Int32} {FL : Nat → Nat → Int64} {FR : Nat → Nat → Option Nat} (hS : h_S n SH) (hF : h_FR FR) (hI : g_I FI) (hR : g_R n SH FR) (c : Nat) {zc : Nat} (hc : c < n) (hsc : SH c = (9, zc)) (hoc : own c) (a1 : Int32) (a2 : Int64) : hw sk base d none 104 0 [(0, .ref (base + c)), (1, .int (a1)), (2, .long (a2))] [] (n, sl, SH, FI, FL, FR) (h_J (fun r s => s = (n, sl, SH, FI, FL, FR))) := by
  have rg_a1 := i_rng a1
  have rg_a2 := l_rng a2
  refine xw_iloadn (aX9_changed 0 rfl) rfl ?_
  have hsw : ((a1).toInt ≠ 25 ∧ (a1).toInt ≠ 31 ∧ (a1).toInt ≠ 32) ∨ ((a1).toInt = 25) ∨ ((a1).toInt = 31) ∨ ((a1).toInt = 32) := by omega
  rcases hsw with hsw | hsw | hsw | hsw
  · refine xw_lsw (tgt := 58) aX9_changed_1 (by decide) (by show (1 : Int) + Jvm.Op.lookupswitch.offset [(25, 35), (31, 48), (32, 51)] (57) (a1).toInt = 58; simp only [Jvm.Op.lookupswitch.offset]; rw [if_neg (by omega), if_neg (by omega), if_neg (by omega)]; rfl) ?_
    clear hsw
    refine xw_lloadn (aX9_changed 17 rfl) rfl ?_
    refine hw_aloadn (aX9_changed 18 rfl) rfl ?_
    obtain ⟨x1, h2⟩ : ∃ y, FL c 12 = y := ⟨_, rfl⟩
    have h2l := congrArg Int64.toInt h2
    have := l_rng x1
    refine hw_get (v := .long (x1)) (aX9_changed 19 rfl) wf_RX9_96 hc hsc (by decide) (congrArg Value.long (show FL c 12 = x1 from h2)) ?_
    refine xw_ladd (aX9_changed 20 rfl) ?_
    refine hw_tl (fun x3 => ?_)
    have b4 := l_rng x3
    refine xw_lret (aX9_changed 21 rfl) rfl ?_
    exact ⟨x3, rfl, rfl⟩
  · refine xw_lsw (tgt := 36) aX9_changed_1 (by decide) (by rw [hsw]; decide) ?_
    refine xw_lloadn (aX9_changed 1 rfl) rfl ?_
    refine hw_lc (v := (0 : Int64)) (aX9_changed 2 rfl) (by decide) ?_
    refine hw_lcge (tgt := 47) (aX9_changed 3 rfl) (aX9_changed 4 rfl) (by decide) rfl (by decide : (0 : Int64).toInt = 0) (fun cd5 => ?_) (fun cd5 => ?_)
    · refine xw_lloadn (aX9_changed 8 rfl) rfl ?_
      refine xw_lret (aX9_changed 9 rfl) rfl ?_
      exact ⟨a2, rfl, rfl⟩
    · refine xw_lloadn (aX9_changed 5 rfl) rfl ?_
      refine xw_lneg (aX9_changed 6 rfl) ?_
      refine hw_tl (fun x6 => ?_)
      have b7 := l_rng x6
      refine xw_goto (tgt := 48) (aX9_changed 7 rfl) (by decide) ?_
      refine xw_lret (aX9_changed 9 rfl) rfl ?_
      exact ⟨x6, rfl, rfl⟩
  · refine xw_lsw (tgt := 49) aX9_changed_1 (by decide) (by rw [hsw]; decide) ?_
    refine xw_lloadn (aX9_changed 10 rfl) rfl ?_
    refine xw_lneg (aX9_changed 11 rfl) ?_
    refine hw_tl (fun x8 => ?_)
    have b9 := l_rng x8
    refine xw_lret (aX9_changed 12 rfl) rfl ?_
    exact ⟨x8, rfl, rfl⟩
  · refine xw_lsw (tgt := 52) aX9_changed_1 (by decide) (by rw [hsw]; decide) ?_
    refine xw_lloadn (aX9_changed 13 rfl) rfl ?_
    refine xw_ldc2 (aX9_changed 14 rfl) wk_RX9_125 ?_
    refine xw_lxor (aX9_changed 15 rfl) ?_
    refine hw_tl (fun x10 => ?_)
    have b11 := l_rng x10
    refine xw_lret (aX9_changed 16 rfl) rfl ?_
    exact ⟨x10, rfl, rfl⟩
def nX9_shifted : Nat := 0xad7b05151f0700a77d05151f0a00a025101a1400a77905151f0a00a024101a05368821ad090400a77d001409009c94091f0f00a026101a17009e94100114210b009b940921
theorem bX9_shifted : cX9_shifted.data.toList.map UInt8.toNat = x_un nX9_shifted 69 := by decide +kernel
def iX9_shifted : List (Nat × Jvm.ClassFile.Instr × Nat) := [(0, .lload_n 3, 1), (1, .lconst 0, 1), (2, .lcmp, 1), (3, .ifCond .lt 11, 3), (6, .lload_n 3, 1), (7, .ldc2_w 272, 3), (10, .lcmp, 1), (11, .ifCond .le 23, 3), (14, .iload_n 0, 1), (15, .bipush 38, 2), (17, .if_icmp .ne 15, 3), (20, .lload_n 1, 1), (21, .lconst 0, 1), (22, .lcmp, 1), (23, .ifCond .ge 9, 3), (26, .ldc2_w 125, 3), (29, .goto 4, 3), (32, .lconst 0, 1), (33, .lreturn, 1), (34, .lload_n 3, 1), (35, .l2i, 1), (36, .istore 5, 2), (38, .iload_n 0, 1), (39, .bipush 36, 2), (41, .if_icmp .ne 10, 3), (44, .lload_n 1, 1), (45, .iload 5, 2), (47, .lshl, 1), (48, .goto 20, 3), (51, .iload_n 0, 1), (52, .bipush 37, 2), (54, .if_icmp .ne 10, 3), (57, .lload_n 1, 1), (58, .iload 5, 2), (60, .lushr, 1), (61, .goto 7, 3), (64, .lload_n 1, 1), (65, .iload 5, 2), (67, .lshr, 1), (68, .lreturn, 1)]
theorem dX9_shifted : x_il nX9_shifted 69 iX9_shifted = true := by decide +kernel
theorem aX9_shifted (k : Nat) {pc : Nat} {i : Jvm.ClassFile.Instr} {len : Nat} (hk : iX9_shifted[k]? = some (pc, i, len)) : x_at xMM 113 pc i len yX9_shifted 6 (some .long) := ⟨cX9_shifted, rfl, x_il_ok bX9_shifted dX9_shifted k hk⟩
set_option maxHeartbeats 4000000 in
set_option maxRecDepth 100000 in
theorem k_X9_shifted {sk : xK} {base d n sl : Nat} {SH : Nat → Nat × Nat} {FI : Nat → Nat → Int32} {FL : Nat → Nat → Int64} {FR : Nat → Nat → Option Nat} (hS : h_S n SH) (hF : h_FR FR) (hI : g_I FI) (hR : g_R n SH FR) (a1 : Int32) (a2 : Int64) (a3 : Int64) : hw sk base d none 113 0 [(0, .int (a1)), (1, .long (a2)), (3, .long (a3))] [] (n, sl, SH, FI, FL, FR) (h_J (fun r s => s = (n, sl, SH, FI, FL, FR))) := by
  have rg_a1 := i_rng a1
  have rg_a2 := l_rng a2
  have rg_a3 := l_rng a3
  refine xw_lloadn (aX9_shifted 0 rfl) rfl ?_
  refine hw_lc (v := (0 : Int64)) (aX9_shifted 1 rfl) (by decide) ?_
  refine hw_lclt (tgt := 14) (aX9_shifted 2 rfl) (aX9_shifted 3 rfl) (by decide) rfl (by decide : (0 : Int64).toInt = 0) (fun cd1 => ?_) (fun cd1 => ?_)
  · refine xw_iloadn (aX9_shifted 8 rfl) rfl ?_
    refine hw_bp (v := (38 : Int32)) (aX9_shifted 9 rfl) (by decide) ?_
    refine hw_icne (tgt := 32) (aX9_shifted 10 rfl) (by decide) rfl (by decide : (38 : Int32).toInt = 38) (fun cd2 => ?_) (fun cd2 => ?_)
    · refine hw_lc (v := (0 : Int64)) (aX9_shifted 17 rfl) (by decide) ?_
      refine xw_lret (aX9_shifted 18 rfl) rfl ?_
      have e3 : ((0 : Int64)).toInt = 0 := (by decide : (0 : Int64).toInt = 0)
      exact ⟨(0 : Int64), rfl, rfl⟩
    · refine xw_lloadn (aX9_shifted 11 rfl) rfl ?_
      refine hw_lc (v := (0 : Int64)) (aX9_shifted 12 rfl) (by decide) ?_
      refine hw_lcge (tgt := 32) (aX9_shifted 13 rfl) (aX9_shifted 14 rfl) (by decide) rfl (by decide : (0 : Int64).toInt = 0) (fun cd4 => ?_) (fun cd4 => ?_)
      · refine hw_lc (v := (0 : Int64)) (aX9_shifted 17 rfl) (by decide) ?_
        refine xw_lret (aX9_shifted 18 rfl) rfl ?_
        have e5 : ((0 : Int64)).toInt = 0 := (by decide : (0 : Int64).toInt = 0)
        exact ⟨(0 : Int64), rfl, rfl⟩
      · refine xw_ldc2 (aX9_shifted 15 rfl) wk_RX9_125 ?_
        refine xw_goto (tgt := 33) (aX9_shifted 16 rfl) (by decide) ?_
        refine xw_lret (aX9_shifted 18 rfl) rfl ?_
        have e6 : (((-1) : Int64)).toInt = (-1) := (by decide : ((-1) : Int64).toInt = (-1))
        exact ⟨((-1) : Int64), rfl, rfl⟩
  · refine xw_lloadn (aX9_shifted 4 rfl) rfl ?_
    refine xw_ldc2 (aX9_shifted 5 rfl) wk_RX9_272 ?_
    refine hw_lcle (tgt := 34) (aX9_shifted 6 rfl) (aX9_shifted 7 rfl) (by decide) rfl (by decide : (63 : Int64).toInt = 63) (fun cd7 => ?_) (fun cd7 => ?_)
    · refine xw_lloadn (aX9_shifted 19 rfl) rfl ?_
      refine xw_l2i (aX9_shifted 20 rfl) ?_
      refine hw_tie (A := (a3).toInt) (l_2i rfl (by omega) (by omega)) (fun x8 e9 => ?_)
      refine xw_istore (L2 := [(5, .int (x8)), (0, .int (a1)), (1, .long (a2)), (3, .long (a3))]) (aX9_shifted 21 rfl) (by decide) rfl ?_
      refine xw_iloadn (aX9_shifted 22 rfl) rfl ?_
      refine hw_bp (v := (36 : Int32)) (aX9_shifted 23 rfl) (by decide) ?_
      refine hw_icne (tgt := 51) (aX9_shifted 24 rfl) (by decide) rfl (by decide : (36 : Int32).toInt = 36) (fun cd10 => ?_) (fun cd10 => ?_)
      · refine xw_iloadn (aX9_shifted 29 rfl) rfl ?_
        refine hw_bp (v := (37 : Int32)) (aX9_shifted 30 rfl) (by decide) ?_
        refine hw_icne (tgt := 64) (aX9_shifted 31 rfl) (by decide) rfl (by decide : (37 : Int32).toInt = 37) (fun cd11 => ?_) (fun cd11 => ?_)
        · refine xw_lloadn (aX9_shifted 36 rfl) rfl ?_
          refine xw_iload (aX9_shifted 37 rfl) rfl ?_
          refine xw_lshr (aX9_shifted 38 rfl) ?_
          refine hw_tl (fun x12 => ?_)
          have b13 := l_rng x12
          refine xw_lret (aX9_shifted 39 rfl) rfl ?_
          exact ⟨x12, rfl, rfl⟩
        · refine xw_lloadn (aX9_shifted 32 rfl) rfl ?_
          refine xw_iload (aX9_shifted 33 rfl) rfl ?_
          refine xw_lushr (aX9_shifted 34 rfl) ?_
          refine hw_tl (fun x14 => ?_)
          have b15 := l_rng x14
          refine xw_goto (tgt := 68) (aX9_shifted 35 rfl) (by decide) ?_
          refine xw_lret (aX9_shifted 39 rfl) rfl ?_
          exact ⟨x14, rfl, rfl⟩
      · refine xw_lloadn (aX9_shifted 25 rfl) rfl ?_
        refine xw_iload (aX9_shifted 26 rfl) rfl ?_
        refine xw_lshl (aX9_shifted 27 rfl) ?_
        refine hw_tl (fun x16 => ?_)
        have b17 := l_rng x16
        refine xw_goto (tgt := 68) (aX9_shifted 28 rfl) (by decide) ?_
        refine xw_lret (aX9_shifted 39 rfl) rfl ?_
        exact ⟨x16, rfl, rfl⟩
    · refine xw_iloadn (aX9_shifted 8 rfl) rfl ?_
      refine hw_bp (v := (38 : Int32)) (aX9_shifted 9 rfl) (by decide) ?_
      refine hw_icne (tgt := 32) (aX9_shifted 10 rfl) (by decide) rfl (by decide : (38 : Int32).toInt = 38) (fun cd18 => ?_) (fun cd18 => ?_)
      · refine hw_lc (v := (0 : Int64)) (aX9_shifted 17 rfl) (by decide) ?_
        refine xw_lret (aX9_shifted 18 rfl) rfl ?_
        have e19 : ((0 : Int64)).toInt = 0 := (by decide : (0 : Int64).toInt = 0)
        exact ⟨(0 : Int64), rfl, rfl⟩
      · refine xw_lloadn (aX9_shifted 11 rfl) rfl ?_
        refine hw_lc (v := (0 : Int64)) (aX9_shifted 12 rfl) (by decide) ?_
        refine hw_lcge (tgt := 32) (aX9_shifted 13 rfl) (aX9_shifted 14 rfl) (by decide) rfl (by decide : (0 : Int64).toInt = 0) (fun cd20 => ?_) (fun cd20 => ?_)
        · refine hw_lc (v := (0 : Int64)) (aX9_shifted 17 rfl) (by decide) ?_
          refine xw_lret (aX9_shifted 18 rfl) rfl ?_
          have e21 : ((0 : Int64)).toInt = 0 := (by decide : (0 : Int64).toInt = 0)
          exact ⟨(0 : Int64), rfl, rfl⟩
        · refine xw_ldc2 (aX9_shifted 15 rfl) wk_RX9_125 ?_
          refine xw_goto (tgt := 33) (aX9_shifted 16 rfl) (by decide) ?_
          refine xw_lret (aX9_shifted 18 rfl) rfl ?_
          have e22 : (((-1) : Int64)).toInt = (-1) := (by decide : ((-1) : Int64).toInt = (-1))
          exact ⟨((-1) : Int64), rfl, rfl⟩
def nX9_compared : Nat := 0xac030400a70407009994211fac030400a70407009c94211fac030400a70407009d94211fac030400a70407009e94211fac030400a70407009b94211fac030400a70407009a94211f53000000470000003b0000002f000000230000002d000000290000005f0000000000aa1a
theorem bX9_compared : cX9_compared.data.toList.map UInt8.toNat = x_un nX9_compared 108 := by decide +kernel
def iX9_compared : List (Nat × Jvm.ClassFile.Instr × Nat) := [(0, .iload_n 0, 1), (36, .lload_n 1, 1), (37, .lload_n 3, 1), (38, .lcmp, 1), (39, .ifCond .ne 7, 3), (42, .iconst 1, 1), (43, .goto 4, 3), (46, .iconst 0, 1), (47, .ireturn, 1), (48, .lload_n 1, 1), (49, .lload_n 3, 1), (50, .lcmp, 1), (51, .ifCond .lt 7, 3), (54, .iconst 1, 1), (55, .goto 4, 3), (58, .iconst 0, 1), (59, .ireturn, 1), (60, .lload_n 1, 1), (61, .lload_n 3, 1), (62, .lcmp, 1), (63, .ifCond .le 7, 3), (66, .iconst 1, 1), (67, .goto 4, 3), (70, .iconst 0, 1), (71, .ireturn, 1), (72, .lload_n 1, 1), (73, .lload_n 3, 1), (74, .lcmp, 1), (75, .ifCond .gt 7, 3), (78, .iconst 1, 1), (79, .goto 4, 3), (82, .iconst 0, 1), (83, .ireturn, 1), (84, .lload_n 1, 1), (85, .lload_n 3, 1), (86, .lcmp, 1), (87, .ifCond .ge 7, 3), (90, .iconst 1, 1), (91, .goto 4, 3), (94, .iconst 0, 1), (95, .ireturn, 1), (96, .lload_n 1, 1), (97, .lload_n 3, 1), (98, .lcmp, 1), (99, .ifCond .eq 7, 3), (102, .iconst 1, 1), (103, .goto 4, 3), (106, .iconst 0, 1), (107, .ireturn, 1)]
theorem dX9_compared : x_il nX9_compared 108 iX9_compared = true := by decide +kernel
theorem aX9_compared (k : Nat) {pc : Nat} {i : Jvm.ClassFile.Instr} {len : Nat} (hk : iX9_compared[k]? = some (pc, i, len)) : x_at xMM 114 pc i len yX9_compared 5 (some .boolean) := ⟨cX9_compared, rfl, x_il_ok bX9_compared dX9_compared k hk⟩
theorem aX9_compared_1 : x_at xMM 114 1 (.tableswitch 95 41 45 #[35, 47, 59, 71, 83]) 35 yX9_compared 5 (some .boolean) := ⟨cX9_compared, rfl, by decide +kernel⟩
set_option maxHeartbeats 4000000 in
set_option maxRecDepth 100000 in
theorem k_X9_compared {sk : xK} {base d n sl : Nat} {SH : Nat → Nat × Nat} {FI : Nat → Nat → Int32} {FL : Nat → Nat → Int64} {FR : Nat → Nat → Option Nat} (hS : h_S n SH) (hF : h_FR FR) (hI : g_I FI) (hR : g_R n SH FR) (a1 : Int32) (a2 : Int64) (a3 : Int64) : hw sk base d none 114 0 [(0, .int (a1)), (1, .long (a2)), (3, .long (a3))] [] (n, sl, SH, FI, FL, FR) (h_I (fun r s => s = (n, sl, SH, FI, FL, FR) ∧ (0 ≤ r.toInt ∧ r.toInt ≤ 1))) := by
  have rg_a1 := i_rng a1
  have rg_a2 := l_rng a2
  have rg_a3 := l_rng a3
  refine xw_iloadn (aX9_compared 0 rfl) rfl ?_
  have hsw : ((a1).toInt < 41 ∨ 45 < (a1).toInt) ∨ ((a1).toInt = 41) ∨ ((a1).toInt = 42) ∨ ((a1).toInt = 43) ∨ ((a1).toInt = 44) ∨ ((a1).toInt = 45) := by omega
  rcases hsw with hsw | hsw | hsw | hsw | hsw | hsw
  · refine xw_tsw (tgt := 96) aX9_compared_1 (Or.inl ⟨hsw, by decide⟩) ?_
    refine xw_lloadn (aX9_compared 41 rfl) rfl ?_
    refine xw_lloadn (aX9_compared 42 rfl) rfl ?_
    refine hw_lceq (tgt := 106) (aX9_compared 43 rfl) (aX9_compared 44 rfl) (by decide) rfl rfl (fun cd1 => ?_) (fun cd1 => ?_)
    · refine hw_ic (v := (0 : Int32)) (aX9_compared 47 rfl) (by decide) ?_
      refine xw_iret (aX9_compared 48 rfl) rfl (by decide) ?_
      have e2 : ((0 : Int32)).toInt = 0 := (by decide : (0 : Int32).toInt = 0)
      exact ⟨(0 : Int32), rfl, rfl, (by have : ((0 : Int32)).toInt = 0 := (by decide); omega)⟩
    · refine hw_ic (v := (1 : Int32)) (aX9_compared 45 rfl) (by decide) ?_
      refine xw_goto (tgt := 107) (aX9_compared 46 rfl) (by decide) ?_
      refine xw_iret (aX9_compared 48 rfl) rfl (by decide) ?_
      have e3 : ((1 : Int32)).toInt = 1 := (by decide : (1 : Int32).toInt = 1)
      exact ⟨(1 : Int32), rfl, rfl, (by have : ((1 : Int32)).toInt = 1 := (by decide); omega)⟩
  · refine xw_tsw (tgt := 36) aX9_compared_1 (by exact Or.inr ⟨by omega, by omega, _, by rw [hsw]; rfl, by decide⟩) ?_
    refine xw_lloadn (aX9_compared 1 rfl) rfl ?_
    refine xw_lloadn (aX9_compared 2 rfl) rfl ?_
    refine hw_lcne (tgt := 46) (aX9_compared 3 rfl) (aX9_compared 4 rfl) (by decide) rfl rfl (fun cd4 => ?_) (fun cd4 => ?_)
    · refine hw_ic (v := (0 : Int32)) (aX9_compared 7 rfl) (by decide) ?_
      refine xw_iret (aX9_compared 8 rfl) rfl (by decide) ?_
      have e5 : ((0 : Int32)).toInt = 0 := (by decide : (0 : Int32).toInt = 0)
      exact ⟨(0 : Int32), rfl, rfl, (by have : ((0 : Int32)).toInt = 0 := (by decide); omega)⟩
    · refine hw_ic (v := (1 : Int32)) (aX9_compared 5 rfl) (by decide) ?_
      refine xw_goto (tgt := 47) (aX9_compared 6 rfl) (by decide) ?_
      refine xw_iret (aX9_compared 8 rfl) rfl (by decide) ?_
      have e6 : ((1 : Int32)).toInt = 1 := (by decide : (1 : Int32).toInt = 1)
      exact ⟨(1 : Int32), rfl, rfl, (by have : ((1 : Int32)).toInt = 1 := (by decide); omega)⟩
  · refine xw_tsw (tgt := 48) aX9_compared_1 (by exact Or.inr ⟨by omega, by omega, _, by rw [hsw]; rfl, by decide⟩) ?_
    refine xw_lloadn (aX9_compared 9 rfl) rfl ?_
    refine xw_lloadn (aX9_compared 10 rfl) rfl ?_
    refine hw_lclt (tgt := 58) (aX9_compared 11 rfl) (aX9_compared 12 rfl) (by decide) rfl rfl (fun cd7 => ?_) (fun cd7 => ?_)
    · refine hw_ic (v := (0 : Int32)) (aX9_compared 15 rfl) (by decide) ?_
      refine xw_iret (aX9_compared 16 rfl) rfl (by decide) ?_
      have e8 : ((0 : Int32)).toInt = 0 := (by decide : (0 : Int32).toInt = 0)
      exact ⟨(0 : Int32), rfl, rfl, (by have : ((0 : Int32)).toInt = 0 := (by decide); omega)⟩
    · refine hw_ic (v := (1 : Int32)) (aX9_compared 13 rfl) (by decide) ?_
      refine xw_goto (tgt := 59) (aX9_compared 14 rfl) (by decide) ?_
      refine xw_iret (aX9_compared 16 rfl) rfl (by decide) ?_
      have e9 : ((1 : Int32)).toInt = 1 := (by decide : (1 : Int32).toInt = 1)
      exact ⟨(1 : Int32), rfl, rfl, (by have : ((1 : Int32)).toInt = 1 := (by decide); omega)⟩
  · refine xw_tsw (tgt := 60) aX9_compared_1 (by exact Or.inr ⟨by omega, by omega, _, by rw [hsw]; rfl, by decide⟩) ?_
    refine xw_lloadn (aX9_compared 17 rfl) rfl ?_
    refine xw_lloadn (aX9_compared 18 rfl) rfl ?_
    refine hw_lcle (tgt := 70) (aX9_compared 19 rfl) (aX9_compared 20 rfl) (by decide) rfl rfl (fun cd10 => ?_) (fun cd10 => ?_)
    · refine hw_ic (v := (0 : Int32)) (aX9_compared 23 rfl) (by decide) ?_
      refine xw_iret (aX9_compared 24 rfl) rfl (by decide) ?_
      have e11 : ((0 : Int32)).toInt = 0 := (by decide : (0 : Int32).toInt = 0)
      exact ⟨(0 : Int32), rfl, rfl, (by have : ((0 : Int32)).toInt = 0 := (by decide); omega)⟩
    · refine hw_ic (v := (1 : Int32)) (aX9_compared 21 rfl) (by decide) ?_
      refine xw_goto (tgt := 71) (aX9_compared 22 rfl) (by decide) ?_
      refine xw_iret (aX9_compared 24 rfl) rfl (by decide) ?_
      have e12 : ((1 : Int32)).toInt = 1 := (by decide : (1 : Int32).toInt = 1)
      exact ⟨(1 : Int32), rfl, rfl, (by have : ((1 : Int32)).toInt = 1 := (by decide); omega)⟩
  · refine xw_tsw (tgt := 72) aX9_compared_1 (by exact Or.inr ⟨by omega, by omega, _, by rw [hsw]; rfl, by decide⟩) ?_
    refine xw_lloadn (aX9_compared 25 rfl) rfl ?_
    refine xw_lloadn (aX9_compared 26 rfl) rfl ?_
    refine hw_lcgt (tgt := 82) (aX9_compared 27 rfl) (aX9_compared 28 rfl) (by decide) rfl rfl (fun cd13 => ?_) (fun cd13 => ?_)
    · refine hw_ic (v := (0 : Int32)) (aX9_compared 31 rfl) (by decide) ?_
      refine xw_iret (aX9_compared 32 rfl) rfl (by decide) ?_
      have e14 : ((0 : Int32)).toInt = 0 := (by decide : (0 : Int32).toInt = 0)
      exact ⟨(0 : Int32), rfl, rfl, (by have : ((0 : Int32)).toInt = 0 := (by decide); omega)⟩
    · refine hw_ic (v := (1 : Int32)) (aX9_compared 29 rfl) (by decide) ?_
      refine xw_goto (tgt := 83) (aX9_compared 30 rfl) (by decide) ?_
      refine xw_iret (aX9_compared 32 rfl) rfl (by decide) ?_
      have e15 : ((1 : Int32)).toInt = 1 := (by decide : (1 : Int32).toInt = 1)
      exact ⟨(1 : Int32), rfl, rfl, (by have : ((1 : Int32)).toInt = 1 := (by decide); omega)⟩
  · refine xw_tsw (tgt := 84) aX9_compared_1 (by exact Or.inr ⟨by omega, by omega, _, by rw [hsw]; rfl, by decide⟩) ?_
    refine xw_lloadn (aX9_compared 33 rfl) rfl ?_
    refine xw_lloadn (aX9_compared 34 rfl) rfl ?_
    refine hw_lcge (tgt := 94) (aX9_compared 35 rfl) (aX9_compared 36 rfl) (by decide) rfl rfl (fun cd16 => ?_) (fun cd16 => ?_)
    · refine hw_ic (v := (0 : Int32)) (aX9_compared 39 rfl) (by decide) ?_
      refine xw_iret (aX9_compared 40 rfl) rfl (by decide) ?_
      have e17 : ((0 : Int32)).toInt = 0 := (by decide : (0 : Int32).toInt = 0)
      exact ⟨(0 : Int32), rfl, rfl, (by have : ((0 : Int32)).toInt = 0 := (by decide); omega)⟩
    · refine hw_ic (v := (1 : Int32)) (aX9_compared 37 rfl) (by decide) ?_
      refine xw_goto (tgt := 95) (aX9_compared 38 rfl) (by decide) ?_
      refine xw_iret (aX9_compared 40 rfl) rfl (by decide) ?_
      have e18 : ((1 : Int32)).toInt = 1 := (by decide : (1 : Int32).toInt = 1)
      exact ⟨(1 : Int32), rfl, rfl, (by have : ((1 : Int32)).toInt = 1 := (by decide); omega)⟩
def nX0_isBased : Nat := 0xac030400a7040700a00b106000b42a0c009f25106000b42a
theorem bX0_isBased : cX0_isBased.data.toList.map UInt8.toNat = x_un nX0_isBased 24 := by decide +kernel
def iX0_isBased : List (Nat × Jvm.ClassFile.Instr × Nat) := [(0, .aload_n 0, 1), (1, .getfield 96, 3), (4, .bipush 37, 2), (6, .if_icmp .eq 12, 3), (9, .aload_n 0, 1), (10, .getfield 96, 3), (13, .bipush 11, 2), (15, .if_icmp .ne 7, 3), (18, .iconst 1, 1), (19, .goto 4, 3), (22, .iconst 0, 1), (23, .ireturn, 1)]
theorem dX0_isBased : x_il nX0_isBased 24 iX0_isBased = true := by decide +kernel
theorem aX0_isBased (k : Nat) {pc : Nat} {i : Jvm.ClassFile.Instr} {len : Nat} (hk : iX0_isBased[k]? = some (pc, i, len)) : x_at xMM 10 pc i len yX0_isBased 1 (some .boolean) := ⟨cX0_isBased, rfl, x_il_ok bX0_isBased dX0_isBased k hk⟩
set_option maxHeartbeats 4000000 in
set_option maxRecDepth 100000 in
theorem k_X0_isBased {sk : xK} {base d n sl : Nat} {SH : Nat → Nat × Nat} {FI : Nat → Nat → Int32} {FL : Nat → Nat → Int64} {FR : Nat → Nat → Option Nat} (hS : h_S n SH) (hF : h_FR FR) (hI : g_I FI) (hR : g_R n SH FR) (a1 : Nat) {z1 : Nat} (ha1l : a1 < n) (ha1s : SH a1 = (3, z1)) (ha1o : own a1) : hw sk base d none 10 0 [(0, .ref (base + a1))] [] (n, sl, SH, FI, FL, FR) (h_I (fun r s => s = (n, sl, SH, FI, FL, FR) ∧ (0 ≤ r.toInt ∧ r.toInt ≤ 1))) := by
  refine hw_aloadn (aX0_isBased 0 rfl) rfl ?_
  obtain ⟨x1, h2⟩ : ∃ y, FI a1 0 = y := ⟨_, rfl⟩
  have h2l := congrArg Int32.toInt h2
  have := i_rng x1
  refine hw_get (v := .int (x1)) (aX0_isBased 1 rfl) wf_RX0_96 ha1l ha1s (by decide) (congrArg Value.int (show FI a1 0 = x1 from h2)) ?_
  refine hw_bp (v := (37 : Int32)) (aX0_isBased 2 rfl) (by decide) ?_
  refine hw_iceq (tgt := 18) (aX0_isBased 3 rfl) (by decide) rfl (by decide : (37 : Int32).toInt = 37) (fun cd3 => ?_) (fun cd3 => ?_)
  · refine hw_ic (v := (1 : Int32)) (aX0_isBased 8 rfl) (by decide) ?_
    refine xw_goto (tgt := 23) (aX0_isBased 9 rfl) (by decide) ?_
    refine xw_iret (aX0_isBased 11 rfl) rfl (by decide) ?_
    have e4 : ((1 : Int32)).toInt = 1 := (by decide : (1 : Int32).toInt = 1)
    exact ⟨(1 : Int32), rfl, rfl, (by have : ((1 : Int32)).toInt = 1 := (by decide); omega)⟩
  · refine hw_aloadn (aX0_isBased 4 rfl) rfl ?_
    refine hw_get (v := .int (x1)) (aX0_isBased 5 rfl) wf_RX0_96 ha1l ha1s (by decide) (congrArg Value.int (show FI a1 0 = x1 from h2)) ?_
    refine hw_bp (v := (11 : Int32)) (aX0_isBased 6 rfl) (by decide) ?_
    refine hw_icne (tgt := 22) (aX0_isBased 7 rfl) (by decide) rfl (by decide : (11 : Int32).toInt = 11) (fun cd5 => ?_) (fun cd5 => ?_)
    · refine hw_ic (v := (0 : Int32)) (aX0_isBased 10 rfl) (by decide) ?_
      refine xw_iret (aX0_isBased 11 rfl) rfl (by decide) ?_
      have e6 : ((0 : Int32)).toInt = 0 := (by decide : (0 : Int32).toInt = 0)
      exact ⟨(0 : Int32), rfl, rfl, (by have : ((0 : Int32)).toInt = 0 := (by decide); omega)⟩
    · refine hw_ic (v := (1 : Int32)) (aX0_isBased 8 rfl) (by decide) ?_
      refine xw_goto (tgt := 23) (aX0_isBased 9 rfl) (by decide) ?_
      refine xw_iret (aX0_isBased 11 rfl) rfl (by decide) ?_
      have e7 : ((1 : Int32)).toInt = 1 := (by decide : (1 : Int32).toInt = 1)
      exact ⟨(1 : Int32), rfl, rfl, (by have : ((1 : Int32)).toInt = 1 := (by decide); omega)⟩
def nX7_isSmall : Nat := 0xac030400a7040700a37a101a0d00a161101a
theorem bX7_isSmall : cX7_isSmall.data.toList.map UInt8.toNat = x_un nX7_isSmall 18 := by decide +kernel
def iX7_isSmall : List (Nat × Jvm.ClassFile.Instr × Nat) := [(0, .iload_n 0, 1), (1, .bipush 97, 2), (3, .if_icmp .lt 13, 3), (6, .iload_n 0, 1), (7, .bipush 122, 2), (9, .if_icmp .gt 7, 3), (12, .iconst 1, 1), (13, .goto 4, 3), (16, .iconst 0, 1), (17, .ireturn, 1)]
theorem dX7_isSmall : x_il nX7_isSmall 18 iX7_isSmall = true := by decide +kernel
theorem aX7_isSmall (k : Nat) {pc : Nat} {i : Jvm.ClassFile.Instr} {len : Nat} (hk : iX7_isSmall[k]? = some (pc, i, len)) : x_at xMM 68 pc i len yX7_isSmall 1 (some .boolean) := ⟨cX7_isSmall, rfl, x_il_ok bX7_isSmall dX7_isSmall k hk⟩
set_option maxHeartbeats 4000000 in
set_option maxRecDepth 100000 in
theorem k_X7_isSmall {sk : xK} {base d n sl : Nat} {SH : Nat → Nat × Nat} {FI : Nat → Nat → Int32} {FL : Nat → Nat → Int64} {FR : Nat → Nat → Option Nat} (hS : h_S n SH) (hF : h_FR FR) (hI : g_I FI) (hR : g_R n SH FR) (a1 : Int32) : hw sk base d none 68 0 [(0, .int (a1))] [] (n, sl, SH, FI, FL, FR) (h_I (fun r s => s = (n, sl, SH, FI, FL, FR) ∧ (0 ≤ r.toInt ∧ r.toInt ≤ 1))) := by
  have rg_a1 := i_rng a1
  refine xw_iloadn (aX7_isSmall 0 rfl) rfl ?_
  refine hw_bp (v := (97 : Int32)) (aX7_isSmall 1 rfl) (by decide) ?_
  refine hw_iclt (tgt := 16) (aX7_isSmall 2 rfl) (by decide) rfl (by decide : (97 : Int32).toInt = 97) (fun cd1 => ?_) (fun cd1 => ?_)
  · refine hw_ic (v := (0 : Int32)) (aX7_isSmall 8 rfl) (by decide) ?_
    refine xw_iret (aX7_isSmall 9 rfl) rfl (by decide) ?_
    have e2 : ((0 : Int32)).toInt = 0 := (by decide : (0 : Int32).toInt = 0)
    exact ⟨(0 : Int32), rfl, rfl, (by have : ((0 : Int32)).toInt = 0 := (by decide); omega)⟩
  · refine xw_iloadn (aX7_isSmall 3 rfl) rfl ?_
    refine hw_bp (v := (122 : Int32)) (aX7_isSmall 4 rfl) (by decide) ?_
    refine hw_icgt (tgt := 16) (aX7_isSmall 5 rfl) (by decide) rfl (by decide : (122 : Int32).toInt = 122) (fun cd3 => ?_) (fun cd3 => ?_)
    · refine hw_ic (v := (0 : Int32)) (aX7_isSmall 8 rfl) (by decide) ?_
      refine xw_iret (aX7_isSmall 9 rfl) rfl (by decide) ?_
      have e4 : ((0 : Int32)).toInt = 0 := (by decide : (0 : Int32).toInt = 0)
      exact ⟨(0 : Int32), rfl, rfl, (by have : ((0 : Int32)).toInt = 0 := (by decide); omega)⟩
    · refine hw_ic (v := (1 : Int32)) (aX7_isSmall 6 rfl) (by decide) ?_
      refine xw_goto (tgt := 17) (aX7_isSmall 7 rfl) (by decide) ?_
      refine xw_iret (aX7_isSmall 9 rfl) rfl (by decide) ?_
      have e5 : ((1 : Int32)).toInt = 1 := (by decide : (1 : Int32).toInt = 1)
      exact ⟨(1 : Int32), rfl, rfl, (by have : ((1 : Int32)).toInt = 1 := (by decide); omega)⟩
def nX7_isDigit : Nat := 0xac030400a7040700a339101a0d00a130101a
theorem bX7_isDigit : cX7_isDigit.data.toList.map UInt8.toNat = x_un nX7_isDigit 18 := by decide +kernel
def iX7_isDigit : List (Nat × Jvm.ClassFile.Instr × Nat) := [(0, .iload_n 0, 1), (1, .bipush 48, 2), (3, .if_icmp .lt 13, 3), (6, .iload_n 0, 1), (7, .bipush 57, 2), (9, .if_icmp .gt 7, 3), (12, .iconst 1, 1), (13, .goto 4, 3), (16, .iconst 0, 1), (17, .ireturn, 1)]
theorem dX7_isDigit : x_il nX7_isDigit 18 iX7_isDigit = true := by decide +kernel
theorem aX7_isDigit (k : Nat) {pc : Nat} {i : Jvm.ClassFile.Instr} {len : Nat} (hk : iX7_isDigit[k]? = some (pc, i, len)) : x_at xMM 69 pc i len yX7_isDigit 1 (some .boolean) := ⟨cX7_isDigit, rfl, x_il_ok bX7_isDigit dX7_isDigit k hk⟩
set_option maxHeartbeats 4000000 in
set_option maxRecDepth 100000 in
theorem k_X7_isDigit {sk : xK} {base d n sl : Nat} {SH : Nat → Nat × Nat} {FI : Nat → Nat → Int32} {FL : Nat → Nat → Int64} {FR : Nat → Nat → Option Nat} (hS : h_S n SH) (hF : h_FR FR) (hI : g_I FI) (hR : g_R n SH FR) (a1 : Int32) : hw sk base d none 69 0 [(0, .int (a1))] [] (n, sl, SH, FI, FL, FR) (h_I (fun r s => s = (n, sl, SH, FI, FL, FR) ∧ (0 ≤ r.toInt ∧ r.toInt ≤ 1))) := by
  have rg_a1 := i_rng a1
  refine xw_iloadn (aX7_isDigit 0 rfl) rfl ?_
  refine hw_bp (v := (48 : Int32)) (aX7_isDigit 1 rfl) (by decide) ?_
  refine hw_iclt (tgt := 16) (aX7_isDigit 2 rfl) (by decide) rfl (by decide : (48 : Int32).toInt = 48) (fun cd1 => ?_) (fun cd1 => ?_)
  · refine hw_ic (v := (0 : Int32)) (aX7_isDigit 8 rfl) (by decide) ?_
    refine xw_iret (aX7_isDigit 9 rfl) rfl (by decide) ?_
    have e2 : ((0 : Int32)).toInt = 0 := (by decide : (0 : Int32).toInt = 0)
    exact ⟨(0 : Int32), rfl, rfl, (by have : ((0 : Int32)).toInt = 0 := (by decide); omega)⟩
  · refine xw_iloadn (aX7_isDigit 3 rfl) rfl ?_
    refine hw_bp (v := (57 : Int32)) (aX7_isDigit 4 rfl) (by decide) ?_
    refine hw_icgt (tgt := 16) (aX7_isDigit 5 rfl) (by decide) rfl (by decide : (57 : Int32).toInt = 57) (fun cd3 => ?_) (fun cd3 => ?_)
    · refine hw_ic (v := (0 : Int32)) (aX7_isDigit 8 rfl) (by decide) ?_
      refine xw_iret (aX7_isDigit 9 rfl) rfl (by decide) ?_
      have e4 : ((0 : Int32)).toInt = 0 := (by decide : (0 : Int32).toInt = 0)
      exact ⟨(0 : Int32), rfl, rfl, (by have : ((0 : Int32)).toInt = 0 := (by decide); omega)⟩
    · refine hw_ic (v := (1 : Int32)) (aX7_isDigit 6 rfl) (by decide) ?_
      refine xw_goto (tgt := 17) (aX7_isDigit 7 rfl) (by decide) ?_
      refine xw_iret (aX7_isDigit 9 rfl) rfl (by decide) ?_
      have e5 : ((1 : Int32)).toInt = 1 := (by decide : (1 : Int32).toInt = 1)
      exact ⟨(1 : Int32), rfl, rfl, (by have : ((1 : Int32)).toInt = 1 := (by decide); omega)⟩
def nX4_levelOf : Nat := 0xac02ac0610ac08ac07ac06ac05ac04ac03930000007c000000950000005e000000990000003e000000990000003c0000009d0000002d0000009d0000002b0000009f0000002a00000097000000260000009b000000180000009b000000170000009b0000001600000099000000150000009900000014000000990000001300000099000000120000009f000000100000009f0000000f00000011000000a20000000000ab1a
theorem bX4_levelOf : cX4_levelOf.data.toList.map UInt8.toNat = x_un nX4_levelOf 165 := by decide +kernel
def iX4_levelOf : List (Nat × Jvm.ClassFile.Instr × Nat) := [(0, .iload_n 0, 1), (148, .iconst 0, 1), (149, .ireturn, 1), (150, .iconst 1, 1), (151, .ireturn, 1), (152, .iconst 2, 1), (153, .ireturn, 1), (154, .iconst 3, 1), (155, .ireturn, 1), (156, .iconst 4, 1), (157, .ireturn, 1), (158, .iconst 5, 1), (159, .ireturn, 1), (160, .bipush 6, 2), (162, .ireturn, 1), (163, .iconst (-1), 1), (164, .ireturn, 1)]
theorem dX4_levelOf : x_il nX4_levelOf 165 iX4_levelOf = true := by decide +kernel
theorem aX4_levelOf (k : Nat) {pc : Nat} {i : Jvm.ClassFile.Instr} {len : Nat} (hk : iX4_levelOf[k]? = some (pc, i, len)) : x_at xMM 55 pc i len yX4_levelOf 1 (some .int) := ⟨cX4_levelOf, rfl, x_il_ok bX4_levelOf dX4_levelOf k hk⟩
theorem aX4_levelOf_1 : x_at xMM 55 1 (.lookupswitch 162 #[(15, 159), (16, 159), (18, 153), (19, 153), (20, 153), (21, 153), (22, 155), (23, 155), (24, 155), (38, 151), (42, 159), (43, 157), (45, 157), (60, 153), (62, 153), (94, 149), (124, 147)]) 147 yX4_levelOf 1 (some .int) := ⟨cX4_levelOf, rfl, by decide +kernel⟩
set_option maxHeartbeats 4000000 in
set_option maxRecDepth 100000 in
theorem k_X4_levelOf {sk : xK} {base d n sl : Nat} {SH : Nat → Nat × Nat} {FI : Nat → Nat → Int32} {FL : Nat → Nat → Int64} {FR : Nat → Nat → Option Nat} (hS : h_S n SH) (hF : h_FR FR) (hI : g_I FI) (hR : g_R n SH FR) (a1 : Int32) : hw sk base d none 55 0 [(0, .int (a1))] [] (n, sl, SH, FI, FL, FR) (h_I (fun r s => s = (n, sl, SH, FI, FL, FR))) := by
  have rg_a1 := i_rng a1
  refine xw_iloadn (aX4_levelOf 0 rfl) rfl ?_
  have hsw : ((a1).toInt ≠ 15 ∧ (a1).toInt ≠ 16 ∧ (a1).toInt ≠ 18 ∧ (a1).toInt ≠ 19 ∧ (a1).toInt ≠ 20 ∧ (a1).toInt ≠ 21 ∧ (a1).toInt ≠ 22 ∧ (a1).toInt ≠ 23 ∧ (a1).toInt ≠ 24 ∧ (a1).toInt ≠ 38 ∧ (a1).toInt ≠ 42 ∧ (a1).toInt ≠ 43 ∧ (a1).toInt ≠ 45 ∧ (a1).toInt ≠ 60 ∧ (a1).toInt ≠ 62 ∧ (a1).toInt ≠ 94 ∧ (a1).toInt ≠ 124) ∨ ((a1).toInt = 15 ∨ (a1).toInt = 16 ∨ (a1).toInt = 42) ∨ ((a1).toInt = 18 ∨ (a1).toInt = 19 ∨ (a1).toInt = 20 ∨ (a1).toInt = 21 ∨ (a1).toInt = 60 ∨ (a1).toInt = 62) ∨ ((a1).toInt = 22 ∨ (a1).toInt = 23 ∨ (a1).toInt = 24) ∨ ((a1).toInt = 38) ∨ ((a1).toInt = 43 ∨ (a1).toInt = 45) ∨ ((a1).toInt = 94) ∨ ((a1).toInt = 124) := by omega
  rcases hsw with hsw | hsw | hsw | hsw | hsw | hsw | hsw | hsw
  · refine xw_lsw (tgt := 163) aX4_levelOf_1 (by decide) (by show (1 : Int) + Jvm.Op.lookupswitch.offset [(15, 159), (16, 159), (18, 153), (19, 153), (20, 153), (21, 153), (22, 155), (23, 155), (24, 155), (38, 151), (42, 159), (43, 157), (45, 157), (60, 153), (62, 153), (94, 149), (124, 147)] (162) (a1).toInt = 163; simp only [Jvm.Op.lookupswitch.offset]; rw [if_neg (by omega), if_neg (by omega), if_neg (by omega), if_neg (by omega), if_neg (by omega), if_neg (by omega), if_neg (by omega), if_neg (by omega), if_neg (by omega), if_neg (by omega), if_neg (by omega), if_neg (by omega), if_neg (by omega), if_neg (by omega), if_neg (by omega), if_neg (by omega), if_neg (by omega)]; rfl) ?_
    clear hsw
    refine hw_ic (v := ((-1) : Int32)) (aX4_levelOf 15 rfl) (by decide) ?_
    refine xw_iret (aX4_levelOf 16 rfl) rfl rfl ?_
    have e1 : (((-1) : Int32)).toInt = (-1) := (by decide : ((-1) : Int32).toInt = (-1))
    exact ⟨((-1) : Int32), rfl, rfl⟩
  · refine xw_lsw (tgt := 160) aX4_levelOf_1 (by decide) (by rcases hsw with hsw | hsw | hsw <;> (rw [hsw]; decide)) ?_
    refine hw_bp (v := (6 : Int32)) (aX4_levelOf 13 rfl) (by decide) ?_
    refine xw_iret (aX4_levelOf 14 rfl) rfl rfl ?_
    have e2 : ((6 : Int32)).toInt = 6 := (by decide : (6 : Int32).toInt = 6)
    exact ⟨(6 : Int32), rfl, rfl⟩
  · refine xw_lsw (tgt := 154) aX4_levelOf_1 (by decide) (by rcases hsw with hsw | hsw | hsw | hsw | hsw | hsw <;> (rw [hsw]; decide)) ?_
    refine hw_ic (v := (3 : Int32)) (aX4_levelOf 7 rfl) (by decide) ?_
    refine xw_iret (aX4_levelOf 8 rfl) rfl rfl ?_
    have e3 : ((3 : Int32)).toInt = 3 := (by decide : (3 : Int32).toInt = 3)
    exact ⟨(3 : Int32), rfl, rfl⟩
  · refine xw_lsw (tgt := 156) aX4_levelOf_1 (by decide) (by rcases hsw with hsw | hsw | hsw <;> (rw [hsw]; decide)) ?_
    refine hw_ic (v := (4 : Int32)) (aX4_levelOf 9 rfl) (by decide) ?_
    refine xw_iret (aX4_levelOf 10 rfl) rfl rfl ?_
    have e4 : ((4 : Int32)).toInt = 4 := (by decide : (4 : Int32).toInt = 4)
    exact ⟨(4 : Int32), rfl, rfl⟩
  · refine xw_lsw (tgt := 152) aX4_levelOf_1 (by decide) (by rw [hsw]; decide) ?_
    refine hw_ic (v := (2 : Int32)) (aX4_levelOf 5 rfl) (by decide) ?_
    refine xw_iret (aX4_levelOf 6 rfl) rfl rfl ?_
    have e5 : ((2 : Int32)).toInt = 2 := (by decide : (2 : Int32).toInt = 2)
    exact ⟨(2 : Int32), rfl, rfl⟩
  · refine xw_lsw (tgt := 158) aX4_levelOf_1 (by decide) (by rcases hsw with hsw | hsw <;> (rw [hsw]; decide)) ?_
    refine hw_ic (v := (5 : Int32)) (aX4_levelOf 11 rfl) (by decide) ?_
    refine xw_iret (aX4_levelOf 12 rfl) rfl rfl ?_
    have e6 : ((5 : Int32)).toInt = 5 := (by decide : (5 : Int32).toInt = 5)
    exact ⟨(5 : Int32), rfl, rfl⟩
  · refine xw_lsw (tgt := 150) aX4_levelOf_1 (by decide) (by rw [hsw]; decide) ?_
    refine hw_ic (v := (1 : Int32)) (aX4_levelOf 3 rfl) (by decide) ?_
    refine xw_iret (aX4_levelOf 4 rfl) rfl rfl ?_
    have e7 : ((1 : Int32)).toInt = 1 := (by decide : (1 : Int32).toInt = 1)
    exact ⟨(1 : Int32), rfl, rfl⟩
  · refine xw_lsw (tgt := 148) aX4_levelOf_1 (by decide) (by rw [hsw]; decide) ?_
    refine hw_ic (v := (0 : Int32)) (aX4_levelOf 1 rfl) (by decide) ?_
    refine xw_iret (aX4_levelOf 2 rfl) rfl rfl ?_
    have e8 : ((0 : Int32)).toInt = 0 := (by decide : (0 : Int32).toInt = 0)
    exact ⟨(0 : Int32), rfl, rfl⟩
def nX4_operationOf : Nat := 0xac1d10ac1b10ac1e10ac1c10ac2210ac2510ac2610ac2410ac2a10ac2b10ac2c10ac2d10ac2e10ac2910ac1a10ac2710ac21108b0000007c0000008e0000005e000000a00000003e0000009a0000003c000000b20000002d000000af0000002b000000b50000002a0000009100000026000000ac00000018000000a900000017000000a600000016000000a3000000150000009d0000001400000097000000130000009400000012000000b80000000f00000010000000bb0000000000ab1a
theorem bX4_operationOf : cX4_operationOf.data.toList.map UInt8.toNat = x_un nX4_operationOf 191 := by decide +kernel
def iX4_operationOf : List (Nat × Jvm.ClassFile.Instr × Nat) := [(0, .iload_n 0, 1), (140, .bipush 33, 2), (142, .ireturn, 1), (143, .bipush 39, 2), (145, .ireturn, 1), (146, .bipush 26, 2), (148, .ireturn, 1), (149, .bipush 41, 2), (151, .ireturn, 1), (152, .bipush 46, 2), (154, .ireturn, 1), (155, .bipush 45, 2), (157, .ireturn, 1), (158, .bipush 44, 2), (160, .ireturn, 1), (161, .bipush 43, 2), (163, .ireturn, 1), (164, .bipush 42, 2), (166, .ireturn, 1), (167, .bipush 36, 2), (169, .ireturn, 1), (170, .bipush 38, 2), (172, .ireturn, 1), (173, .bipush 37, 2), (175, .ireturn, 1), (176, .bipush 34, 2), (178, .ireturn, 1), (179, .bipush 28, 2), (181, .ireturn, 1), (182, .bipush 30, 2), (184, .ireturn, 1), (185, .bipush 27, 2), (187, .ireturn, 1), (188, .bipush 29, 2), (190, .ireturn, 1)]
theorem dX4_operationOf : x_il nX4_operationOf 191 iX4_operationOf = true := by decide +kernel
theorem aX4_operationOf (k : Nat) {pc : Nat} {i : Jvm.ClassFile.Instr} {len : Nat} (hk : iX4_operationOf[k]? = some (pc, i, len)) : x_at xMM 57 pc i len yX4_operationOf 1 (some .int) := ⟨cX4_operationOf, rfl, x_il_ok bX4_operationOf dX4_operationOf k hk⟩
theorem aX4_operationOf_1 : x_at xMM 57 1 (.lookupswitch 187 #[(15, 184), (18, 148), (19, 151), (20, 157), (21, 163), (22, 166), (23, 169), (24, 172), (38, 145), (42, 181), (43, 175), (45, 178), (60, 154), (62, 160), (94, 142), (124, 139)]) 139 yX4_operationOf 1 (some .int) := ⟨cX4_operationOf, rfl, by decide +kernel⟩
set_option maxHeartbeats 4000000 in
set_option maxRecDepth 100000 in
theorem k_X4_operationOf {sk : xK} {base d n sl : Nat} {SH : Nat → Nat × Nat} {FI : Nat → Nat → Int32} {FL : Nat → Nat → Int64} {FR : Nat → Nat → Option Nat} (hS : h_S n SH) (hF : h_FR FR) (hI : g_I FI) (hR : g_R n SH FR) (a1 : Int32) : hw sk base d none 57 0 [(0, .int (a1))] [] (n, sl, SH, FI, FL, FR) (h_I (fun r s => s = (n, sl, SH, FI, FL, FR))) := by
  have rg_a1 := i_rng a1
  refine xw_iloadn (aX4_operationOf 0 rfl) rfl ?_
  have hsw : ((a1).toInt ≠ 15 ∧ (a1).toInt ≠ 18 ∧ (a1).toInt ≠ 19 ∧ (a1).toInt ≠ 20 ∧ (a1).toInt ≠ 21 ∧ (a1).toInt ≠ 22 ∧ (a1).toInt ≠ 23 ∧ (a1).toInt ≠ 24 ∧ (a1).toInt ≠ 38 ∧ (a1).toInt ≠ 42 ∧ (a1).toInt ≠ 43 ∧ (a1).toInt ≠ 45 ∧ (a1).toInt ≠ 60 ∧ (a1).toInt ≠ 62 ∧ (a1).toInt ≠ 94 ∧ (a1).toInt ≠ 124) ∨ ((a1).toInt = 15) ∨ ((a1).toInt = 18) ∨ ((a1).toInt = 19) ∨ ((a1).toInt = 20) ∨ ((a1).toInt = 21) ∨ ((a1).toInt = 22) ∨ ((a1).toInt = 23) ∨ ((a1).toInt = 24) ∨ ((a1).toInt = 38) ∨ ((a1).toInt = 42) ∨ ((a1).toInt = 43) ∨ ((a1).toInt = 45) ∨ ((a1).toInt = 60) ∨ ((a1).toInt = 62) ∨ ((a1).toInt = 94) ∨ ((a1).toInt = 124) := by omega
  rcases hsw with hsw | hsw | hsw | hsw | hsw | hsw | hsw | hsw | hsw | hsw | hsw | hsw | hsw | hsw | hsw | hsw | hsw
  · refine xw_lsw (tgt := 188) aX4_operationOf_1 (by decide) (by show (1 : Int) + Jvm.Op.lookupswitch.offset [(15, 184), (18, 148), (19, 151), (20, 157), (21, 163), (22, 166), (23, 169), (24, 172), (38, 145), (42, 181), (43, 175), (45, 178), (60, 154), (62, 160), (94, 142), (124, 139)] (187) (a1).toInt = 188; simp only [Jvm.Op.lookupswitch.offset]; rw [if_neg (by omega), if_neg (by omega), if_neg (by omega), if_neg (by omega), if_neg (by omega), if_neg (by omega), if_neg (by omega), if_neg (by omega), if_neg (by omega), if_neg (by omega), if_neg (by omega), if_neg (by omega), if_neg (by omega), if_neg (by omega), if_neg (by omega), if_neg (by omega)]; rfl) ?_
    clear hsw
    refine hw_bp (v := (29 : Int32)) (aX4_operationOf 33 rfl) (by decide) ?_
    refine xw_iret (aX4_operationOf 34 rfl) rfl rfl ?_
    have e1 : ((29 : Int32)).toInt = 29 := (by decide : (29 : Int32).toInt = 29)
    exact ⟨(29 : Int32), rfl, rfl⟩
  · refine xw_lsw (tgt := 185) aX4_operationOf_1 (by decide) (by rw [hsw]; decide) ?_
    refine hw_bp (v := (27 : Int32)) (aX4_operationOf 31 rfl) (by decide) ?_
    refine xw_iret (aX4_operationOf 32 rfl) rfl rfl ?_
    have e2 : ((27 : Int32)).toInt = 27 := (by decide : (27 : Int32).toInt = 27)
    exact ⟨(27 : Int32), rfl, rfl⟩
  · refine xw_lsw (tgt := 149) aX4_operationOf_1 (by decide) (by rw [hsw]; decide) ?_
    refine hw_bp (v := (41 : Int32)) (aX4_operationOf 7 rfl) (by decide) ?_
    refine xw_iret (aX4_operationOf 8 rfl) rfl rfl ?_
    have e3 : ((41 : Int32)).toInt = 41 := (by decide : (41 : Int32).toInt = 41)
    exact ⟨(41 : Int32), rfl, rfl⟩
  · refine xw_lsw (tgt := 152) aX4_operationOf_1 (by decide) (by rw [hsw]; decide) ?_
    refine hw_bp (v := (46 : Int32)) (aX4_operationOf 9 rfl) (by decide) ?_
    refine xw_iret (aX4_operationOf 10 rfl) rfl rfl ?_
    have e4 : ((46 : Int32)).toInt = 46 := (by decide : (46 : Int32).toInt = 46)
    exact ⟨(46 : Int32), rfl, rfl⟩
  · refine xw_lsw (tgt := 158) aX4_operationOf_1 (by decide) (by rw [hsw]; decide) ?_
    refine hw_bp (v := (44 : Int32)) (aX4_operationOf 13 rfl) (by decide) ?_
    refine xw_iret (aX4_operationOf 14 rfl) rfl rfl ?_
    have e5 : ((44 : Int32)).toInt = 44 := (by decide : (44 : Int32).toInt = 44)
    exact ⟨(44 : Int32), rfl, rfl⟩
  · refine xw_lsw (tgt := 164) aX4_operationOf_1 (by decide) (by rw [hsw]; decide) ?_
    refine hw_bp (v := (42 : Int32)) (aX4_operationOf 17 rfl) (by decide) ?_
    refine xw_iret (aX4_operationOf 18 rfl) rfl rfl ?_
    have e6 : ((42 : Int32)).toInt = 42 := (by decide : (42 : Int32).toInt = 42)
    exact ⟨(42 : Int32), rfl, rfl⟩
  · refine xw_lsw (tgt := 167) aX4_operationOf_1 (by decide) (by rw [hsw]; decide) ?_
    refine hw_bp (v := (36 : Int32)) (aX4_operationOf 19 rfl) (by decide) ?_
    refine xw_iret (aX4_operationOf 20 rfl) rfl rfl ?_
    have e7 : ((36 : Int32)).toInt = 36 := (by decide : (36 : Int32).toInt = 36)
    exact ⟨(36 : Int32), rfl, rfl⟩
  · refine xw_lsw (tgt := 170) aX4_operationOf_1 (by decide) (by rw [hsw]; decide) ?_
    refine hw_bp (v := (38 : Int32)) (aX4_operationOf 21 rfl) (by decide) ?_
    refine xw_iret (aX4_operationOf 22 rfl) rfl rfl ?_
    have e8 : ((38 : Int32)).toInt = 38 := (by decide : (38 : Int32).toInt = 38)
    exact ⟨(38 : Int32), rfl, rfl⟩
  · refine xw_lsw (tgt := 173) aX4_operationOf_1 (by decide) (by rw [hsw]; decide) ?_
    refine hw_bp (v := (37 : Int32)) (aX4_operationOf 23 rfl) (by decide) ?_
    refine xw_iret (aX4_operationOf 24 rfl) rfl rfl ?_
    have e9 : ((37 : Int32)).toInt = 37 := (by decide : (37 : Int32).toInt = 37)
    exact ⟨(37 : Int32), rfl, rfl⟩
  · refine xw_lsw (tgt := 146) aX4_operationOf_1 (by decide) (by rw [hsw]; decide) ?_
    refine hw_bp (v := (26 : Int32)) (aX4_operationOf 5 rfl) (by decide) ?_
    refine xw_iret (aX4_operationOf 6 rfl) rfl rfl ?_
    have e10 : ((26 : Int32)).toInt = 26 := (by decide : (26 : Int32).toInt = 26)
    exact ⟨(26 : Int32), rfl, rfl⟩
  · refine xw_lsw (tgt := 182) aX4_operationOf_1 (by decide) (by rw [hsw]; decide) ?_
    refine hw_bp (v := (30 : Int32)) (aX4_operationOf 29 rfl) (by decide) ?_
    refine xw_iret (aX4_operationOf 30 rfl) rfl rfl ?_
    have e11 : ((30 : Int32)).toInt = 30 := (by decide : (30 : Int32).toInt = 30)
    exact ⟨(30 : Int32), rfl, rfl⟩
  · refine xw_lsw (tgt := 176) aX4_operationOf_1 (by decide) (by rw [hsw]; decide) ?_
    refine hw_bp (v := (34 : Int32)) (aX4_operationOf 25 rfl) (by decide) ?_
    refine xw_iret (aX4_operationOf 26 rfl) rfl rfl ?_
    have e12 : ((34 : Int32)).toInt = 34 := (by decide : (34 : Int32).toInt = 34)
    exact ⟨(34 : Int32), rfl, rfl⟩
  · refine xw_lsw (tgt := 179) aX4_operationOf_1 (by decide) (by rw [hsw]; decide) ?_
    refine hw_bp (v := (28 : Int32)) (aX4_operationOf 27 rfl) (by decide) ?_
    refine xw_iret (aX4_operationOf 28 rfl) rfl rfl ?_
    have e13 : ((28 : Int32)).toInt = 28 := (by decide : (28 : Int32).toInt = 28)
    exact ⟨(28 : Int32), rfl, rfl⟩
  · refine xw_lsw (tgt := 155) aX4_operationOf_1 (by decide) (by rw [hsw]; decide) ?_
    refine hw_bp (v := (45 : Int32)) (aX4_operationOf 11 rfl) (by decide) ?_
    refine xw_iret (aX4_operationOf 12 rfl) rfl rfl ?_
    have e14 : ((45 : Int32)).toInt = 45 := (by decide : (45 : Int32).toInt = 45)
    exact ⟨(45 : Int32), rfl, rfl⟩
  · refine xw_lsw (tgt := 161) aX4_operationOf_1 (by decide) (by rw [hsw]; decide) ?_
    refine hw_bp (v := (43 : Int32)) (aX4_operationOf 15 rfl) (by decide) ?_
    refine xw_iret (aX4_operationOf 16 rfl) rfl rfl ?_
    have e15 : ((43 : Int32)).toInt = 43 := (by decide : (43 : Int32).toInt = 43)
    exact ⟨(43 : Int32), rfl, rfl⟩
  · refine xw_lsw (tgt := 143) aX4_operationOf_1 (by decide) (by rw [hsw]; decide) ?_
    refine hw_bp (v := (39 : Int32)) (aX4_operationOf 3 rfl) (by decide) ?_
    refine xw_iret (aX4_operationOf 4 rfl) rfl rfl ?_
    have e16 : ((39 : Int32)).toInt = 39 := (by decide : (39 : Int32).toInt = 39)
    exact ⟨(39 : Int32), rfl, rfl⟩
  · refine xw_lsw (tgt := 140) aX4_operationOf_1 (by decide) (by rw [hsw]; decide) ?_
    refine hw_bp (v := (33 : Int32)) (aX4_operationOf 1 rfl) (by decide) ?_
    refine xw_iret (aX4_operationOf 2 rfl) rfl rfl ?_
    have e17 : ((33 : Int32)).toInt = 33 := (by decide : (33 : Int32).toInt = 33)
    exact ⟨(33 : Int32), rfl, rfl⟩
def nX7_signOfTwo : Nat := 0xac060400a717100800a03e101a0f00a716100800a03c101a1a00a711100800a02e101aac0605009f1b1aac060400a715100800a03e101a0f00a714100800a03c101a1a00a713100800a021101a2500a712100800a03d101a3100a03d101b
theorem bX7_signOfTwo : cX7_signOfTwo.data.toList.map UInt8.toNat = x_un nX7_signOfTwo 94 := by decide +kernel
def iX7_signOfTwo : List (Nat × Jvm.ClassFile.Instr × Nat) := [(0, .iload_n 1, 1), (1, .bipush 61, 2), (3, .if_icmp .ne 49, 3), (6, .iload_n 0, 1), (7, .bipush 61, 2), (9, .if_icmp .ne 8, 3), (12, .bipush 18, 2), (14, .goto 37, 3), (17, .iload_n 0, 1), (18, .bipush 33, 2), (20, .if_icmp .ne 8, 3), (23, .bipush 19, 2), (25, .goto 26, 3), (28, .iload_n 0, 1), (29, .bipush 60, 2), (31, .if_icmp .ne 8, 3), (34, .bipush 20, 2), (36, .goto 15, 3), (39, .iload_n 0, 1), (40, .bipush 62, 2), (42, .if_icmp .ne 8, 3), (45, .bipush 21, 2), (47, .goto 4, 3), (50, .iconst 3, 1), (51, .ireturn, 1), (52, .iload_n 0, 1), (53, .iload_n 1, 1), (54, .if_icmp .eq 5, 3), (57, .iconst 3, 1), (58, .ireturn, 1), (59, .iload_n 0, 1), (60, .bipush 46, 2), (62, .if_icmp .ne 8, 3), (65, .bipush 17, 2), (67, .goto 26, 3), (70, .iload_n 0, 1), (71, .bipush 60, 2), (73, .if_icmp .ne 8, 3), (76, .bipush 22, 2), (78, .goto 15, 3), (81, .iload_n 0, 1), (82, .bipush 62, 2), (84, .if_icmp .ne 8, 3), (87, .bipush 23, 2), (89, .goto 4, 3), (92, .iconst 3, 1), (93, .ireturn, 1)]
theorem dX7_signOfTwo : x_il nX7_signOfTwo 94 iX7_signOfTwo = true := by decide +kernel
theorem aX7_signOfTwo (k : Nat) {pc : Nat} {i : Jvm.ClassFile.Instr} {len : Nat} (hk : iX7_signOfTwo[k]? = some (pc, i, len)) : x_at xMM 76 pc i len yX7_signOfTwo 2 (some .int) := ⟨cX7_signOfTwo, rfl, x_il_ok bX7_signOfTwo dX7_signOfTwo k hk⟩
set_option maxHeartbeats 4000000 in
set_option maxRecDepth 100000 in
theorem k_X7_signOfTwo {sk : xK} {base d n sl : Nat} {SH : Nat → Nat × Nat} {FI : Nat → Nat → Int32} {FL : Nat → Nat → Int64} {FR : Nat → Nat → Option Nat} (hS : h_S n SH) (hF : h_FR FR) (hI : g_I FI) (hR : g_R n SH FR) (a1 : Int32) (a2 : Int32) : hw sk base d none 76 0 [(0, .int (a1)), (1, .int (a2))] [] (n, sl, SH, FI, FL, FR) (h_I (fun r s => s = (n, sl, SH, FI, FL, FR))) := by
  have rg_a1 := i_rng a1
  have rg_a2 := i_rng a2
  refine xw_iloadn (aX7_signOfTwo 0 rfl) rfl ?_
  refine hw_bp (v := (61 : Int32)) (aX7_signOfTwo 1 rfl) (by decide) ?_
  refine hw_icne (tgt := 52) (aX7_signOfTwo 2 rfl) (by decide) rfl (by decide : (61 : Int32).toInt = 61) (fun cd1 => ?_) (fun cd1 => ?_)
  · refine xw_iloadn (aX7_signOfTwo 25 rfl) rfl ?_
    refine xw_iloadn (aX7_signOfTwo 26 rfl) rfl ?_
    refine hw_iceq (tgt := 59) (aX7_signOfTwo 27 rfl) (by decide) rfl rfl (fun cd2 => ?_) (fun cd2 => ?_)
    · refine xw_iloadn (aX7_signOfTwo 30 rfl) rfl ?_
      refine hw_bp (v := (46 : Int32)) (aX7_signOfTwo 31 rfl) (by decide) ?_
      refine hw_icne (tgt := 70) (aX7_signOfTwo 32 rfl) (by decide) rfl (by decide : (46 : Int32).toInt = 46) (fun cd3 => ?_) (fun cd3 => ?_)
      · refine xw_iloadn (aX7_signOfTwo 35 rfl) rfl ?_
        refine hw_bp (v := (60 : Int32)) (aX7_signOfTwo 36 rfl) (by decide) ?_
        refine hw_icne (tgt := 81) (aX7_signOfTwo 37 rfl) (by decide) rfl (by decide : (60 : Int32).toInt = 60) (fun cd4 => ?_) (fun cd4 => ?_)
        · refine xw_iloadn (aX7_signOfTwo 40 rfl) rfl ?_
          refine hw_bp (v := (62 : Int32)) (aX7_signOfTwo 41 rfl) (by decide) ?_
          refine hw_icne (tgt := 92) (aX7_signOfTwo 42 rfl) (by decide) rfl (by decide : (62 : Int32).toInt = 62) (fun cd5 => ?_) (fun cd5 => ?_)
          · refine hw_ic (v := (3 : Int32)) (aX7_signOfTwo 45 rfl) (by decide) ?_
            refine xw_iret (aX7_signOfTwo 46 rfl) rfl rfl ?_
            have e6 : ((3 : Int32)).toInt = 3 := (by decide : (3 : Int32).toInt = 3)
            exact ⟨(3 : Int32), rfl, rfl⟩
          · refine hw_bp (v := (23 : Int32)) (aX7_signOfTwo 43 rfl) (by decide) ?_
            refine xw_goto (tgt := 93) (aX7_signOfTwo 44 rfl) (by decide) ?_
            refine xw_iret (aX7_signOfTwo 46 rfl) rfl rfl ?_
            have e7 : ((23 : Int32)).toInt = 23 := (by decide : (23 : Int32).toInt = 23)
            exact ⟨(23 : Int32), rfl, rfl⟩
        · refine hw_bp (v := (22 : Int32)) (aX7_signOfTwo 38 rfl) (by decide) ?_
          refine xw_goto (tgt := 93) (aX7_signOfTwo 39 rfl) (by decide) ?_
          refine xw_iret (aX7_signOfTwo 46 rfl) rfl rfl ?_
          have e8 : ((22 : Int32)).toInt = 22 := (by decide : (22 : Int32).toInt = 22)
          exact ⟨(22 : Int32), rfl, rfl⟩
      · refine hw_bp (v := (17 : Int32)) (aX7_signOfTwo 33 rfl) (by decide) ?_
        refine xw_goto (tgt := 93) (aX7_signOfTwo 34 rfl) (by decide) ?_
        refine xw_iret (aX7_signOfTwo 46 rfl) rfl rfl ?_
        have e9 : ((17 : Int32)).toInt = 17 := (by decide : (17 : Int32).toInt = 17)
        exact ⟨(17 : Int32), rfl, rfl⟩
    · refine hw_ic (v := (3 : Int32)) (aX7_signOfTwo 28 rfl) (by decide) ?_
      refine xw_iret (aX7_signOfTwo 29 rfl) rfl rfl ?_
      have e10 : ((3 : Int32)).toInt = 3 := (by decide : (3 : Int32).toInt = 3)
      exact ⟨(3 : Int32), rfl, rfl⟩
  · refine xw_iloadn (aX7_signOfTwo 3 rfl) rfl ?_
    refine hw_bp (v := (61 : Int32)) (aX7_signOfTwo 4 rfl) (by decide) ?_
    refine hw_icne (tgt := 17) (aX7_signOfTwo 5 rfl) (by decide) rfl (by decide : (61 : Int32).toInt = 61) (fun cd11 => ?_) (fun cd11 => ?_)
    · refine xw_iloadn (aX7_signOfTwo 8 rfl) rfl ?_
      refine hw_bp (v := (33 : Int32)) (aX7_signOfTwo 9 rfl) (by decide) ?_
      refine hw_icne (tgt := 28) (aX7_signOfTwo 10 rfl) (by decide) rfl (by decide : (33 : Int32).toInt = 33) (fun cd12 => ?_) (fun cd12 => ?_)
      · refine xw_iloadn (aX7_signOfTwo 13 rfl) rfl ?_
        refine hw_bp (v := (60 : Int32)) (aX7_signOfTwo 14 rfl) (by decide) ?_
        refine hw_icne (tgt := 39) (aX7_signOfTwo 15 rfl) (by decide) rfl (by decide : (60 : Int32).toInt = 60) (fun cd13 => ?_) (fun cd13 => ?_)
        · refine xw_iloadn (aX7_signOfTwo 18 rfl) rfl ?_
          refine hw_bp (v := (62 : Int32)) (aX7_signOfTwo 19 rfl) (by decide) ?_
          refine hw_icne (tgt := 50) (aX7_signOfTwo 20 rfl) (by decide) rfl (by decide : (62 : Int32).toInt = 62) (fun cd14 => ?_) (fun cd14 => ?_)
          · refine hw_ic (v := (3 : Int32)) (aX7_signOfTwo 23 rfl) (by decide) ?_
            refine xw_iret (aX7_signOfTwo 24 rfl) rfl rfl ?_
            have e15 : ((3 : Int32)).toInt = 3 := (by decide : (3 : Int32).toInt = 3)
            exact ⟨(3 : Int32), rfl, rfl⟩
          · refine hw_bp (v := (21 : Int32)) (aX7_signOfTwo 21 rfl) (by decide) ?_
            refine xw_goto (tgt := 51) (aX7_signOfTwo 22 rfl) (by decide) ?_
            refine xw_iret (aX7_signOfTwo 24 rfl) rfl rfl ?_
            have e16 : ((21 : Int32)).toInt = 21 := (by decide : (21 : Int32).toInt = 21)
            exact ⟨(21 : Int32), rfl, rfl⟩
        · refine hw_bp (v := (20 : Int32)) (aX7_signOfTwo 16 rfl) (by decide) ?_
          refine xw_goto (tgt := 51) (aX7_signOfTwo 17 rfl) (by decide) ?_
          refine xw_iret (aX7_signOfTwo 24 rfl) rfl rfl ?_
          have e17 : ((20 : Int32)).toInt = 20 := (by decide : (20 : Int32).toInt = 20)
          exact ⟨(20 : Int32), rfl, rfl⟩
      · refine hw_bp (v := (19 : Int32)) (aX7_signOfTwo 11 rfl) (by decide) ?_
        refine xw_goto (tgt := 51) (aX7_signOfTwo 12 rfl) (by decide) ?_
        refine xw_iret (aX7_signOfTwo 24 rfl) rfl rfl ?_
        have e18 : ((19 : Int32)).toInt = 19 := (by decide : (19 : Int32).toInt = 19)
        exact ⟨(19 : Int32), rfl, rfl⟩
    · refine hw_bp (v := (18 : Int32)) (aX7_signOfTwo 6 rfl) (by decide) ?_
      refine xw_goto (tgt := 51) (aX7_signOfTwo 7 rfl) (by decide) ?_
      refine xw_iret (aX7_signOfTwo 24 rfl) rfl rfl ?_
      have e19 : ((18 : Int32)).toInt = 18 := (by decide : (18 : Int32).toInt = 18)
      exact ⟨(18 : Int32), rfl, rfl⟩
def nX2_fail : Nat := 0xad092100b51b2a08009a2100b42a
theorem bX2_fail : cX2_fail.data.toList.map UInt8.toNat = x_un nX2_fail 14 := by decide +kernel
def iX2_fail : List (Nat × Jvm.ClassFile.Instr × Nat) := [(0, .aload_n 0, 1), (1, .getfield 33, 3), (4, .ifCond .ne 8, 3), (7, .aload_n 0, 1), (8, .iload_n 1, 1), (9, .putfield 33, 3), (12, .lconst 0, 1), (13, .lreturn, 1)]
theorem dX2_fail : x_il nX2_fail 14 iX2_fail = true := by decide +kernel
theorem aX2_fail (k : Nat) {pc : Nat} {i : Jvm.ClassFile.Instr} {len : Nat} (hk : iX2_fail[k]? = some (pc, i, len)) : x_at xMM 31 pc i len yX2_fail 2 (some .long) := ⟨cX2_fail, rfl, x_il_ok bX2_fail dX2_fail k hk⟩
set_option maxHeartbeats 4000000 in
set_option maxRecDepth 100000 in
theorem k_X2_fail {sk : xK} {base d n sl : Nat} {SH : Nat → Nat × Nat} {FI : Nat → Nat → Int32} {FL : Nat → Nat → Int64} {FR : Nat → Nat → Option Nat} (hS : h_S n SH) (hF : h_FR FR) (hI : g_I FI) (hR : g_R n SH FR) (a1 : Int32) : hw sk base d none 31 0 [(0, .ref (base + 90)), (1, .int (a1))] [] (n, sl, SH, FI, FL, FR) (h_J (fun r s => ∃ FI', s = (n, sl, SH, FI', FL, FR) ∧ g_I FI' ∧ g_fr n (shd SH) [(90, 4)] [] [] FI FI')) := by
  have rg_a1 := i_rng a1
  refine hw_aloadn (aX2_fail 0 rfl) rfl ?_
  obtain ⟨x1, h2⟩ : ∃ y, FI 90 4 = y := ⟨_, rfl⟩
  have h2l := congrArg Int32.toInt h2
  have := i_rng x1
  refine hw_get (v := .int (x1)) (aX2_fail 1 rfl) wf_RX2_33 (c90 hS) (s90 hS) (by decide) (congrArg Value.int (show FI 90 4 = x1 from h2)) ?_
  refine hw_ifne (tgt := 12) (aX2_fail 2 rfl) (by decide) rfl (fun cd3 => ?_) (fun cd3 => ?_)
  · refine hw_lc (v := (0 : Int64)) (aX2_fail 6 rfl) (by decide) ?_
    refine xw_lret (aX2_fail 7 rfl) rfl ?_
    have e4 : ((0 : Int64)).toInt = 0 := (by decide : (0 : Int64).toInt = 0)
    exact ⟨(0 : Int64), rfl, FI, rfl, hI, gf_rf⟩
  · refine hw_aloadn (aX2_fail 3 rfl) rfl ?_
    refine xw_iloadn (aX2_fail 4 rfl) rfl ?_
    refine hv_puti (aX2_fail 5 rfl) wf_RX2_33 (c90 hS) (s90 hS) (by decide) rfl rfl (fun FI5 u6 => ?_)
    have hI7 : g_I FI5 := gU_F hI u6 rfl
    refine hw_lc (v := (0 : Int64)) (aX2_fail 6 rfl) (by decide) ?_
    refine xw_lret (aX2_fail 7 rfl) rfl ?_
    have e8 : ((0 : Int64)).toInt = 0 := (by decide : (0 : Int64).toInt = 0)
    exact ⟨(0 : Int64), rfl, FI5, rfl, hI7, (gf_f gf_rf u6 (by decide))⟩
def nX11_parts : Nat := 0xacb800b60a00b42a
theorem bX11_parts : cX11_parts.data.toList.map UInt8.toNat = x_un nX11_parts 8 := by decide +kernel
def iX11_parts : List (Nat × Jvm.ClassFile.Instr × Nat) := [(0, .aload_n 0, 1), (1, .getfield 10, 3), (4, .invokevirtual 184, 3), (7, .ireturn, 1)]
theorem dX11_parts : x_il nX11_parts 8 iX11_parts = true := by decide +kernel
theorem aX11_parts (k : Nat) {pc : Nat} {i : Jvm.ClassFile.Instr} {len : Nat} (hk : iX11_parts[k]? = some (pc, i, len)) : x_at xMM 141 pc i len yX11_parts 1 (some .int) := ⟨cX11_parts, rfl, x_il_ok bX11_parts dX11_parts k hk⟩
set_option maxHeartbeats 4000000 in
set_option maxRecDepth 100000 in
theorem k_X11_parts {sk : xK} {base d n sl : Nat} {SH : Nat → Nat × Nat} {FI : Nat → Nat → Int32} {FL : Nat → Nat → Int64} {FR : Nat → Nat → Option Nat} (hS : h_S n SH) (hF : h_FR FR) (hI : g_I FI) (hR : g_R n SH FR) : hw sk base (d + 1) none 141 0 [(0, .ref (base + 0))] [] (n, sl, SH, FI, FL, FR) (h_I (fun r s => s = (n, sl, SH, FI, FL, FR))) := by
  refine hw_aloadn (aX11_parts 0 rfl) rfl ?_
  refine hw_get (v := .ref (base + 1)) (aX11_parts 1 rfl) wf_RX11_10 (c0 hS) (s0 hS) (by decide) (congrArg (fun r => va_rf (h_rf base r)) (r0_5 hF)) ?_
  refine hw_callV (Bs := []) (rest := []) (aX11_parts 2 rfl) wc_RX11_184 (by decide) rfl wi_yX8_count wv_yX8_count (c1 hS) (s1 hS) rfl rfl rfl (Nat.le_of_ble_eq_true rfl) (Nat.le_of_ble_eq_true rfl) (k_X8_count (d := d) hS hF hI hR (1) (c1 hS) (s1 hS) (Or.inl (by decide)) ) (fun v1 sv2 p3 => ?_)
  obtain ⟨x11, h12⟩ : ∃ y, FI 1 1 = y := ⟨_, rfl⟩
  have h12l := congrArg Int32.toInt h12
  have b13 := gI_1_1 hI; rw [h12] at b13
  have := congrArg Int32.toInt (show FI 1 1 = x11 from h12)
  obtain ⟨r4, rfl, rfl, t8⟩ := p3
  have rg_r4 := i_rng r4
  show hw sk base _ _ _ _ _ [.int (r4)] _ _
  refine xw_iret (aX11_parts 3 rfl) rfl rfl ?_
  exact ⟨r4, rfl, rfl⟩
def nX11_register : Nat := 0xad6200b6851b2300b42a
theorem bX11_register : cX11_register.data.toList.map UInt8.toNat = x_un nX11_register 10 := by decide +kernel
def iX11_register : List (Nat × Jvm.ClassFile.Instr × Nat) := [(0, .aload_n 0, 1), (1, .getfield 35, 3), (4, .iload_n 1, 1), (5, .i2l, 1), (6, .invokevirtual 98, 3), (9, .lreturn, 1)]
theorem dX11_register : x_il nX11_register 10 iX11_register = true := by decide +kernel
theorem aX11_register (k : Nat) {pc : Nat} {i : Jvm.ClassFile.Instr} {len : Nat} (hk : iX11_register[k]? = some (pc, i, len)) : x_at xMM 125 pc i len yX11_register 2 (some .long) := ⟨cX11_register, rfl, x_il_ok bX11_register dX11_register k hk⟩
set_option maxHeartbeats 4000000 in
set_option maxRecDepth 100000 in
theorem k_X11_register {sk : xK} {base d n sl : Nat} {SH : Nat → Nat × Nat} {FI : Nat → Nat → Int32} {FL : Nat → Nat → Int64} {FR : Nat → Nat → Option Nat} (hS : h_S n SH) (hF : h_FR FR) (hI : g_I FI) (hR : g_R n SH FR) (a1 : Int32) : hw sk base (d + 1) none 125 0 [(0, .ref (base + 0)), (1, .int (a1))] [] (n, sl, SH, FI, FL, FR) (h_J (fun r s => s = (n, sl, SH, FI, FL, FR))) := by
  have rg_a1 := i_rng a1
  refine hw_aloadn (aX11_register 0 rfl) rfl ?_
  refine hw_get (v := .ref (base + 23)) (aX11_register 1 rfl) wf_RX11_35 (c0 hS) (s0 hS) (by decide) (congrArg (fun r => va_rf (h_rf base r)) (r0_0 hF)) ?_
  refine xw_iloadn (aX11_register 2 rfl) rfl ?_
  refine xw_i2l (aX11_register 3 rfl) ?_
  refine hw_tle (A := (a1).toInt) (i_2l rfl) (fun x1 e2 => ?_)
  refine hw_callV (Bs := [.long (x1)]) (rest := []) (aX11_register 4 rfl) wc_RX11_98 (by decide) rfl wi_yX1_registerValue wv_yX1_registerValue (c23 hS) (s23 hS) rfl rfl rfl (Nat.le_of_ble_eq_true rfl) (Nat.le_of_ble_eq_true rfl) (k_X1_registerValue (d := d) hS hF hI hR (x1) ) (fun v3 sv4 p5 => ?_)
  obtain ⟨r6, rfl, rfl⟩ := p5
  have rg_r6 := l_rng r6
  show hw sk base _ _ _ _ _ [.long (r6)] _ _
  refine xw_lret (aX11_register 5 rfl) rfl ?_
  exact ⟨r6, rfl, rfl⟩
