def nJ9_max_7cf53 : Nat := 0xac1b0400a71a0700a11b1a
theorem bJ9_max_7cf53 : cJ9_max_7cf53.data.toList.map UInt8.toNat = x_un nJ9_max_7cf53 11 := by decide +kernel
def iJ9_max_7cf53 : List (Nat × Jvm.ClassFile.Instr × Nat) := [(0, .iload_n 0, 1), (1, .iload_n 1, 1), (2, .if_icmp .lt 7, 3), (5, .iload_n 0, 1), (6, .goto 4, 3), (9, .iload_n 1, 1), (10, .ireturn, 1)]
theorem dJ9_max_7cf53 : x_il nJ9_max_7cf53 11 iJ9_max_7cf53 = true := by decide +kernel
theorem aJ9_max_7cf53 (k : Nat) {pc : Nat} {i : Jvm.ClassFile.Instr} {len : Nat} (hk : iJ9_max_7cf53[k]? = some (pc, i, len)) : x_at xMM 299 pc i len yJ9_max_7cf53 2 (some .int) := ⟨cJ9_max_7cf53, rfl, x_il_ok bJ9_max_7cf53 dJ9_max_7cf53 k hk⟩
set_option maxHeartbeats 4000000 in
set_option maxRecDepth 100000 in
theorem k_J9_max_7cf53 {sk : xK} {base d n sl : Nat} {SH : Nat → Nat × Nat} {FI : Nat → Nat → Int32} {FL : Nat → Nat → Int64} {FR : Nat → Nat → Option Nat} (hS : h_S n SH) (hF : h_FR FR) (hI : g_I FI) (hR : g_R n SH FR) (a1 : Int32) (a2 : Int32) : hw sk base d none 299 0 [(0, .int (a1)), (1, .int (a2))] [] (n, sl, SH, FI, FL, FR) (h_I (fun r s => s = (n, sl, SH, FI, FL, FR) ∧ ((a1).toInt ≤ r.toInt ∧ (a2).toInt ≤ r.toInt) ∧ (r.toInt = (a1).toInt ∨ r.toInt = (a2).toInt))) := by
  have rg_a1 := i_rng a1
  have rg_a2 := i_rng a2
  refine xw_iloadn (aJ9_max_7cf53 0 rfl) rfl ?_
  refine xw_iloadn (aJ9_max_7cf53 1 rfl) rfl ?_
  refine hw_iclt (tgt := 9) (aJ9_max_7cf53 2 rfl) (by decide) rfl rfl (fun cd1 => ?_) (fun cd1 => ?_)
  · refine xw_iloadn (aJ9_max_7cf53 5 rfl) rfl ?_
    refine xw_iret (aJ9_max_7cf53 6 rfl) rfl rfl ?_
    exact ⟨a2, rfl, rfl, (by omega), (by omega)⟩
  · refine xw_iloadn (aJ9_max_7cf53 3 rfl) rfl ?_
    refine xw_goto (tgt := 10) (aJ9_max_7cf53 4 rfl) (by decide) ?_
    refine xw_iret (aJ9_max_7cf53 6 rfl) rfl rfl ?_
    exact ⟨a1, rfl, rfl, (by omega), (by omega)⟩
def nJ9_min_7cf53 : Nat := 0xac1b0400a71a0700a31b1a
theorem bJ9_min_7cf53 : cJ9_min_7cf53.data.toList.map UInt8.toNat = x_un nJ9_min_7cf53 11 := by decide +kernel
def iJ9_min_7cf53 : List (Nat × Jvm.ClassFile.Instr × Nat) := [(0, .iload_n 0, 1), (1, .iload_n 1, 1), (2, .if_icmp .gt 7, 3), (5, .iload_n 0, 1), (6, .goto 4, 3), (9, .iload_n 1, 1), (10, .ireturn, 1)]
theorem dJ9_min_7cf53 : x_il nJ9_min_7cf53 11 iJ9_min_7cf53 = true := by decide +kernel
theorem aJ9_min_7cf53 (k : Nat) {pc : Nat} {i : Jvm.ClassFile.Instr} {len : Nat} (hk : iJ9_min_7cf53[k]? = some (pc, i, len)) : x_at xMM 300 pc i len yJ9_min_7cf53 2 (some .int) := ⟨cJ9_min_7cf53, rfl, x_il_ok bJ9_min_7cf53 dJ9_min_7cf53 k hk⟩
set_option maxHeartbeats 4000000 in
set_option maxRecDepth 100000 in
theorem k_J9_min_7cf53 {sk : xK} {base d n sl : Nat} {SH : Nat → Nat × Nat} {FI : Nat → Nat → Int32} {FL : Nat → Nat → Int64} {FR : Nat → Nat → Option Nat} (hS : h_S n SH) (hF : h_FR FR) (hI : g_I FI) (hR : g_R n SH FR) (a1 : Int32) (a2 : Int32) : hw sk base d none 300 0 [(0, .int (a1)), (1, .int (a2))] [] (n, sl, SH, FI, FL, FR) (h_I (fun r s => s = (n, sl, SH, FI, FL, FR) ∧ (r.toInt ≤ (a1).toInt ∧ r.toInt ≤ (a2).toInt) ∧ (r.toInt = (a1).toInt ∨ r.toInt = (a2).toInt))) := by
  have rg_a1 := i_rng a1
  have rg_a2 := i_rng a2
  refine xw_iloadn (aJ9_min_7cf53 0 rfl) rfl ?_
  refine xw_iloadn (aJ9_min_7cf53 1 rfl) rfl ?_
  refine hw_icgt (tgt := 9) (aJ9_min_7cf53 2 rfl) (by decide) rfl rfl (fun cd1 => ?_) (fun cd1 => ?_)
  · refine xw_iloadn (aJ9_min_7cf53 5 rfl) rfl ?_
    refine xw_iret (aJ9_min_7cf53 6 rfl) rfl rfl ?_
    exact ⟨a2, rfl, rfl, (by omega), (by omega)⟩
  · refine xw_iloadn (aJ9_min_7cf53 3 rfl) rfl ?_
    refine xw_goto (tgt := 10) (aJ9_min_7cf53 4 rfl) (by decide) ?_
    refine xw_iret (aJ9_min_7cf53 6 rfl) rfl rfl ?_
    exact ⟨a1, rfl, rfl, (by omega), (by omega)⟩
def nX9_push : Nat := 0xac033b00b5bc00b83e00b42a3b00b42a2a3e00b560043e00b4592a501f3e00b42a0b00b42aac070500a1be0b00b42a3e00b42a
theorem bX9_push : cX9_push.data.toList.map UInt8.toNat = x_un nX9_push 51 := by decide +kernel
def iX9_push : List (Nat × Jvm.ClassFile.Instr × Nat) := [(0, .aload_n 0, 1), (1, .getfield 62, 3), (4, .aload_n 0, 1), (5, .getfield 11, 3), (8, .arraylength, 1), (9, .if_icmp .lt 5, 3), (12, .iconst 4, 1), (13, .ireturn, 1), (14, .aload_n 0, 1), (15, .getfield 11, 3), (18, .aload_n 0, 1), (19, .getfield 62, 3), (22, .lload_n 1, 1), (23, .lastore, 1), (24, .aload_n 0, 1), (25, .dup, 1), (26, .getfield 62, 3), (29, .iconst 1, 1), (30, .iadd, 1), (31, .putfield 62, 3), (34, .aload_n 0, 1), (35, .aload_n 0, 1), (36, .getfield 59, 3), (39, .aload_n 0, 1), (40, .getfield 62, 3), (43, .invokestatic 188, 3), (46, .putfield 59, 3), (49, .iconst 0, 1), (50, .ireturn, 1)]
theorem dX9_push : x_il nX9_push 51 iX9_push = true := by decide +kernel
theorem aX9_push (k : Nat) {pc : Nat} {i : Jvm.ClassFile.Instr} {len : Nat} (hk : iX9_push[k]? = some (pc, i, len)) : x_at xMM 99 pc i len yX9_push 3 (some .int) := ⟨cX9_push, rfl, x_il_ok bX9_push dX9_push k hk⟩
set_option maxHeartbeats 4000000 in
set_option maxRecDepth 100000 in
theorem k_X9_push {sk : xK} {base d n sl : Nat} {SH : Nat → Nat × Nat} {FI : Nat → Nat → Int32} {FL : Nat → Nat → Int64} {FR : Nat → Nat → Option Nat} (hS : h_S n SH) (hF : h_FR FR) (hI : g_I FI) (hR : g_R n SH FR) (c : Nat) {zc : Nat} (hc : c < n) (hsc : SH c = (9, zc)) (hoc : own c) (a1 : Int64) : hw sk base (d + 1) none 99 0 [(0, .ref (base + c)), (1, .long (a1))] [] (n, sl, SH, FI, FL, FR) (h_I (fun r s => ∃ FI' FL', s = (n, sl, SH, FI', FL', FR) ∧ g_I FI' ∧ g_fr n (shd SH) [] [] [9] FI FI' ∧ g_fr n (shd SH) [] [] [101] FL FL')) := by
  have rg_a1 := l_rng a1
  refine hw_aloadn (aX9_push 0 rfl) rfl ?_
  obtain ⟨x1, h2⟩ : ∃ y, FI c 5 = y := ⟨_, rfl⟩
  have h2l := congrArg Int32.toInt h2
  have := i_rng x1
  have b3 := gI_s (k := 5) (lo := 0) (hi := 128) hI hS hR hc hsc (by unfold g_dt; omega) (by decide +kernel); rw [h2] at b3
  refine hw_get (v := .int (x1)) (aX9_push 1 rfl) wf_RX9_62 hc hsc (by decide) (congrArg Value.int (show FI c 5 = x1 from h2)) ?_
  refine hw_aloadn (aX9_push 2 rfl) rfl ?_
  obtain ⟨r4, h5, lt6, ow7, sh8, fx9⟩ := g_nz (k := 2) (ty := 101) (zz := 128) hS hF hR hc hsc (by unfold g_dt; omega) (by decide +kernel)
  refine hw_get (v := .ref (base + r4)) (aX9_push 3 rfl) wf_RX9_11 hc hsc (by decide) (congrArg (fun r => va_rf (h_rf base r)) (show FR c 2 = some r4 from h5)) ?_
  refine hw_alen (k := 1) (z := 128) (v := (128 : Int32)) (aX9_push 4 rfl) lt6 sh8 (by decide) (by decide) ?_
  refine hw_iclt (tgt := 14) (aX9_push 5 rfl) (by decide) rfl (by decide : (128 : Int32).toInt = 128) (fun cd10 => ?_) (fun cd10 => ?_)
  · refine hw_aloadn (aX9_push 8 rfl) rfl ?_
    refine hw_get (v := .ref (base + r4)) (aX9_push 9 rfl) wf_RX9_11 hc hsc (by decide) (congrArg (fun r => va_rf (h_rf base r)) (show FR c 2 = some r4 from h5)) ?_
    refine hw_aloadn (aX9_push 10 rfl) rfl ?_
    refine hw_get (v := .int (x1)) (aX9_push 11 rfl) wf_RX9_62 hc hsc (by decide) (congrArg Value.int (show FI c 5 = x1 from h2)) ?_
    refine xw_lloadn (aX9_push 12 rfl) rfl ?_
    refine hv_last (k := (x1).toNatClampNeg) (aX9_push 13 rfl) lt6 sh8 (h_in rfl (by omega) (by omega)) rfl (fun FL11 u12 => ?_)
    refine hw_aloadn (aX9_push 14 rfl) rfl ?_
    refine xw_dup (aX9_push 15 rfl) rfl ?_
    refine hw_get (v := .int (x1)) (aX9_push 16 rfl) wf_RX9_62 hc hsc (by decide) (congrArg Value.int (show FI c 5 = x1 from h2)) ?_
    refine hw_ic (v := (1 : Int32)) (aX9_push 17 rfl) (by decide) ?_
    refine xw_iadd (aX9_push 18 rfl) ?_
    refine hw_tie (A := ((x1).toInt) + (1)) (i_add rfl (by decide : (1 : Int32).toInt = 1) (by omega) (by omega)) (fun x13 e14 => ?_)
    refine hv_puti (aX9_push 19 rfl) wf_RX9_62 hc hsc (by decide) rfl rfl (fun FI15 u16 => ?_)
    have hI17 : g_I FI15 := gU_s (k := 5) (lo := 0) (hi := 128) hI hS hR hc hsc (by unfold g_dt; omega) (by decide +kernel) u16 (by have := (e14 : (x13).toInt = ((x1).toInt) + (1)); omega) (by have := (e14 : (x13).toInt = ((x1).toInt) + (1)); omega)
    refine hw_aloadn (aX9_push 20 rfl) rfl ?_
    refine hw_aloadn (aX9_push 21 rfl) rfl ?_
    obtain ⟨x18, h19⟩ : ∃ y, FI15 c 8 = y := ⟨_, rfl⟩
    have h19l := congrArg Int32.toInt h19
    have := i_rng x18
    refine hw_get (v := .int (x18)) (aX9_push 22 rfl) wf_RX9_59 hc hsc (by decide) (congrArg Value.int (show FI15 c 8 = x18 from h19)) ?_
    refine hw_aloadn (aX9_push 23 rfl) rfl ?_
    refine hw_get (v := .int (x13)) (aX9_push 24 rfl) wf_RX9_62 hc hsc (by decide) (congrArg Value.int (show FI15 c 5 = x13 from up_eq u16)) ?_
    refine hw_callS (As := [.int (x18), .int (x13)]) (rest := [.ref (base + c)]) (aX9_push 25 rfl) wc_RX9_188 (by decide) rfl wt_yJ9_max_7cf53 rfl rfl (Nat.le_of_ble_eq_true rfl) (Nat.le_of_ble_eq_true rfl) (k_J9_max_7cf53 (d := d) hS hF hI17 hR (x18) (x13) ) (fun v20 sv21 p22 => ?_)
    have := (e14 : (x13).toInt = ((x1).toInt) + (1))
    have := (e14 : (x13).toInt = ((x1).toInt) + (1))
    obtain ⟨r23, rfl, rfl, t27, t28⟩ := p22
    have rg_r23 := i_rng r23
    show hw sk base _ _ _ _ _ [.int (r23), .ref (base + c)] _ _
    refine hv_puti (aX9_push 26 rfl) wf_RX9_59 hc hsc (by decide) rfl rfl (fun FI31 u32 => ?_)
    have hI33 : g_I FI31 := gU_g hI17 hS u32 hsc (by decide +kernel)
    refine hw_ic (v := (0 : Int32)) (aX9_push 27 rfl) (by decide) ?_
    refine xw_iret (aX9_push 28 rfl) rfl rfl ?_
    have e34 : ((0 : Int32)).toInt = 0 := (by decide : (0 : Int32).toInt = 0)
    exact ⟨(0 : Int32), rfl, FI31, FL11, rfl, hI33, (gf_t (gf_t gf_rf u16 (shd_f (fix_t2 hS hR hc hsc (by unfold g_dt; omega) (by decide +kernel)) hsc) (by decide)) u32 (shd_f (fix_t2 hS hR hc hsc (by unfold g_dt; omega) (by decide +kernel)) hsc) (by decide)), (gf_t gf_rf u12 (shd_f fx9 sh8) (by decide))⟩
  · refine hw_ic (v := (4 : Int32)) (aX9_push 6 rfl) (by decide) ?_
    refine xw_iret (aX9_push 7 rfl) rfl rfl ?_
    have e35 : ((4 : Int32)).toInt = 4 := (by decide : (4 : Int32).toInt = 4)
    exact ⟨(4 : Int32), rfl, FI, FL, rfl, hI, gf_rf, gf_rf⟩
def nX9_pushBytes : Nat := 0xac080400a79e00b6c500b61d1f1d00b42a2a130099c100b61d1f1d00b42a
theorem bX9_pushBytes : cX9_pushBytes.data.toList.map UInt8.toNat = x_un nX9_pushBytes 30 := by decide +kernel
def iX9_pushBytes : List (Nat × Jvm.ClassFile.Instr × Nat) := [(0, .aload_n 0, 1), (1, .getfield 29, 3), (4, .lload_n 1, 1), (5, .iload_n 3, 1), (6, .invokevirtual 193, 3), (9, .ifCond .eq 19, 3), (12, .aload_n 0, 1), (13, .aload_n 0, 1), (14, .getfield 29, 3), (17, .lload_n 1, 1), (18, .iload_n 3, 1), (19, .invokevirtual 197, 3), (22, .invokevirtual 158, 3), (25, .goto 4, 3), (28, .iconst 5, 1), (29, .ireturn, 1)]
theorem dX9_pushBytes : x_il nX9_pushBytes 30 iX9_pushBytes = true := by decide +kernel
theorem aX9_pushBytes (k : Nat) {pc : Nat} {i : Jvm.ClassFile.Instr} {len : Nat} (hk : iX9_pushBytes[k]? = some (pc, i, len)) : x_at xMM 100 pc i len yX9_pushBytes 4 (some .int) := ⟨cX9_pushBytes, rfl, x_il_ok bX9_pushBytes dX9_pushBytes k hk⟩
set_option maxHeartbeats 4000000 in
set_option maxRecDepth 100000 in
theorem k_X9_pushBytes {sk : xK} {base d n sl : Nat} {SH : Nat → Nat × Nat} {FI : Nat → Nat → Int32} {FL : Nat → Nat → Int64} {FR : Nat → Nat → Option Nat} (hS : h_S n SH) (hF : h_FR FR) (hI : g_I FI) (hR : g_R n SH FR) (c : Nat) {zc : Nat} (hc : c < n) (hsc : SH c = (9, zc)) (hoc : own c) (a1 : Int64) (a2 : Int32) (g0 : 0 ≤ (a2).toInt ∧ (a2).toInt ≤ 64) : hw sk base (d + 2) none 100 0 [(0, .ref (base + c)), (1, .long (a1)), (3, .int (a2))] [] (n, sl, SH, FI, FL, FR) (h_I (fun r s => ∃ FI' FL', s = (n, sl, SH, FI', FL', FR) ∧ g_I FI' ∧ g_fr n (shd SH) [] [] [9] FI FI' ∧ g_fr n (shd SH) [] [] [101] FL FL')) := by
  have rg_a1 := l_rng a1
  have rg_a2 := i_rng a2
  refine hw_aloadn (aX9_pushBytes 0 rfl) rfl ?_
  have h1 := g_nl (k := 0) (l := 23) hS hF hR hc hsc (by unfold g_dt; omega) (by decide +kernel)
  refine hw_get (v := .ref (base + 23)) (aX9_pushBytes 1 rfl) wf_RX9_29 hc hsc (by decide) (congrArg (fun r => va_rf (h_rf base r)) (show FR c 0 = some 23 from h1)) ?_
  refine xw_lloadn (aX9_pushBytes 2 rfl) rfl ?_
  refine xw_iloadn (aX9_pushBytes 3 rfl) rfl ?_
  refine hw_callV (Bs := [.long (a1), .int (a2)]) (rest := []) (aX9_pushBytes 4 rfl) wc_RX9_193 (by decide) rfl wi_yX1_hasBytes wv_yX1_hasBytes (c23 hS) (s23 hS) rfl rfl rfl (Nat.le_of_ble_eq_true rfl) (Nat.le_of_ble_eq_true rfl) (k_X1_hasBytes (d := d + 1) hS hF hI hR (a1) (a2) (by omega)) (fun v2 sv3 p4 => ?_)
  obtain ⟨r5, rfl, rfl, t9, t10⟩ := p4
  show hw sk base _ _ _ _ _ [.int (r5)] _ _
  refine hw_ifeq (tgt := 28) (aX9_pushBytes 5 rfl) (by decide) rfl (fun cd13 => ?_) (fun cd13 => ?_)
  · clear t9
    refine hw_ic (v := (5 : Int32)) (aX9_pushBytes 14 rfl) (by decide) ?_
    refine xw_iret (aX9_pushBytes 15 rfl) rfl rfl ?_
    have e14 : ((5 : Int32)).toInt = 5 := (by decide : (5 : Int32).toInt = 5)
    exact ⟨(5 : Int32), rfl, FI, FL, rfl, hI, gf_rf, gf_rf⟩
  · replace t9 := t9 (by omega)
    refine hw_aloadn (aX9_pushBytes 6 rfl) rfl ?_
    refine hw_aloadn (aX9_pushBytes 7 rfl) rfl ?_
    refine hw_get (v := .ref (base + 23)) (aX9_pushBytes 8 rfl) wf_RX9_29 hc hsc (by decide) (congrArg (fun r => va_rf (h_rf base r)) (show FR c 0 = some 23 from h1)) ?_
    refine xw_lloadn (aX9_pushBytes 9 rfl) rfl ?_
    refine xw_iloadn (aX9_pushBytes 10 rfl) rfl ?_
    refine hw_callV (Bs := [.long (a1), .int (a2)]) (rest := [.ref (base + c)]) (aX9_pushBytes 11 rfl) wc_RX9_197 (by decide) rfl wi_yX1_bytes wv_yX1_bytes (c23 hS) (s23 hS) rfl rfl rfl (Nat.le_of_ble_eq_true rfl) (Nat.le_of_ble_eq_true rfl) (k_X1_bytes (d := d) hS hF hI hR (a1) (a2) (by omega)) (fun v15 sv16 p17 => ?_)
    obtain ⟨r18, rfl, rfl⟩ := p17
    have rg_r18 := l_rng r18
    show hw sk base _ _ _ _ _ [.long (r18), .ref (base + c)] _ _
    refine hw_callV (Bs := [.long (r18)]) (rest := []) (aX9_pushBytes 12 rfl) wc_RX9_158 (by decide) rfl wi_yX9_push wv_yX9_push hc hsc rfl rfl rfl (Nat.le_of_ble_eq_true rfl) (Nat.le_of_ble_eq_true rfl) (k_X9_push (d := d) hS hF hI hR (c) hc hsc hoc (r18) ) (fun v24 sv25 p26 => ?_)
    obtain ⟨r27, rfl, FI28, FL29, rfl, hI30, f31, f32⟩ := p26
    have rg_r27 := i_rng r27
    show hw sk base _ _ _ _ _ [.int (r27)] _ _
    refine xw_goto (tgt := 29) (aX9_pushBytes 13 rfl) (by decide) ?_
    refine xw_iret (aX9_pushBytes 15 rfl) rfl rfl ?_
    exact ⟨r27, rfl, FI28, FL29, rfl, hI30, (gf_tr ex_rf gf_rf f31 rfl rfl rfl), (gf_tr ex_rf gf_rf f32 rfl rfl rfl)⟩
def nX9_shuffle : Nat := 0xac9e00b604162a579e00b606162a579e00b6202a06375c00b62aac9e00b604162a579e00b6202a1000a016101b04375c00b62a415c00b62aac9e00b6c900b6886000b42a2a2aac9e00b6c900b6042a2aac03585c00b62aac9e00b6c900b6032a2a3a00000030000000290000001f0000001500000012000000480000000000aa1b
theorem bX9_shuffle : cX9_shuffle.data.toList.map UInt8.toNat = x_un nX9_shuffle 129 := by decide +kernel
def iX9_shuffle : List (Nat × Jvm.ClassFile.Instr × Nat) := [(0, .iload_n 1, 1), (32, .aload_n 0, 1), (33, .aload_n 0, 1), (34, .iconst 0, 1), (35, .invokevirtual 201, 3), (38, .invokevirtual 158, 3), (41, .ireturn, 1), (42, .aload_n 0, 1), (43, .invokevirtual 92, 3), (46, .pop2, 1), (47, .iconst 0, 1), (48, .ireturn, 1), (49, .aload_n 0, 1), (50, .aload_n 0, 1), (51, .iconst 1, 1), (52, .invokevirtual 201, 3), (55, .invokevirtual 158, 3), (58, .ireturn, 1), (59, .aload_n 0, 1), (60, .aload_n 0, 1), (61, .aload_n 0, 1), (62, .getfield 96, 3), (65, .l2i, 1), (66, .invokevirtual 201, 3), (69, .invokevirtual 158, 3), (72, .ireturn, 1), (73, .aload_n 0, 1), (74, .invokevirtual 92, 3), (77, .lstore_n 2, 1), (78, .aload_n 0, 1), (79, .invokevirtual 92, 3), (82, .lstore 4, 2), (84, .iload_n 1, 1), (85, .bipush 22, 2), (87, .if_icmp .ne 16, 3), (90, .aload_n 0, 1), (91, .lload_n 2, 1), (92, .invokevirtual 158, 3), (95, .pop, 1), (96, .aload_n 0, 1), (97, .lload 4, 2), (99, .invokevirtual 158, 3), (102, .ireturn, 1), (103, .aload_n 0, 1), (104, .invokevirtual 92, 3), (107, .lstore 6, 2), (109, .aload_n 0, 1), (110, .lload_n 2, 1), (111, .invokevirtual 158, 3), (114, .pop, 1), (115, .aload_n 0, 1), (116, .lload 6, 2), (118, .invokevirtual 158, 3), (121, .pop, 1), (122, .aload_n 0, 1), (123, .lload 4, 2), (125, .invokevirtual 158, 3), (128, .ireturn, 1)]
theorem dX9_shuffle : x_il nX9_shuffle 129 iX9_shuffle = true := by decide +kernel
theorem aX9_shuffle (k : Nat) {pc : Nat} {i : Jvm.ClassFile.Instr} {len : Nat} (hk : iX9_shuffle[k]? = some (pc, i, len)) : x_at xMM 103 pc i len yX9_shuffle 8 (some .int) := ⟨cX9_shuffle, rfl, x_il_ok bX9_shuffle dX9_shuffle k hk⟩
theorem aX9_shuffle_1 : x_at xMM 103 1 (.tableswitch 72 18 21 #[31, 41, 48, 58]) 31 yX9_shuffle 8 (some .int) := ⟨cX9_shuffle, rfl, by decide +kernel⟩
set_option maxHeartbeats 4000000 in
set_option maxRecDepth 100000 in
theorem k_X9_shuffle {sk : xK} {base d n sl : Nat} {SH : Nat → Nat × Nat} {FI : Nat → Nat → Int32} {FL : Nat → Nat → Int64} {FR : Nat → Nat → Option Nat} (hS : h_S n SH) (hF : h_FR FR) (hI : g_I FI) (hR : g_R n SH FR) (c : Nat) {zc : Nat} (hc : c < n) (hsc : SH c = (9, zc)) (hoc : own c) (a1 : Int32) : hw sk base (d + 2) none 103 0 [(0, .ref (base + c)), (1, .int (a1))] [] (n, sl, SH, FI, FL, FR) (h_I (fun r s => ∃ FI' FL', s = (n, sl, SH, FI', FL', FR) ∧ g_I FI' ∧ g_fr n (shd SH) [] [] [9] FI FI' ∧ g_fr n (shd SH) [] [] [101] FL FL')) := by
  have rg_a1 := i_rng a1
  refine xw_iloadn (aX9_shuffle 0 rfl) rfl ?_
  have hsw : ((a1).toInt < 18 ∨ 21 < (a1).toInt) ∨ ((a1).toInt = 18) ∨ ((a1).toInt = 19) ∨ ((a1).toInt = 20) ∨ ((a1).toInt = 21) := by omega
  rcases hsw with hsw | hsw | hsw | hsw | hsw
  · refine xw_tsw (tgt := 73) aX9_shuffle_1 (Or.inl ⟨hsw, by decide⟩) ?_
    refine hw_aloadn (aX9_shuffle 26 rfl) rfl ?_
    refine hw_callV (Bs := []) (rest := []) (aX9_shuffle 27 rfl) wc_RX9_92 (by decide) rfl wi_yX9_pop wv_yX9_pop hc hsc rfl rfl rfl (Nat.le_of_ble_eq_true rfl) (Nat.le_of_ble_eq_true rfl) (k_X9_pop (d := d + 1) hS hF hI hR (c) hc hsc hoc ) (fun v1 sv2 p3 => ?_)
    obtain ⟨r4, rfl, FI5, rfl, hI6, f7⟩ := p3
    have rg_r4 := l_rng r4
    show hw sk base _ _ _ _ _ [.long (r4)] _ _
    refine xw_lstoren (L2 := [(2, .long (r4)), (0, .ref (base + c)), (1, .int (a1))]) (aX9_shuffle 28 rfl) (by decide) rfl ?_
    refine hw_aloadn (aX9_shuffle 29 rfl) rfl ?_
    refine hw_callV (Bs := []) (rest := []) (aX9_shuffle 30 rfl) wc_RX9_92 (by decide) rfl wi_yX9_pop wv_yX9_pop hc hsc rfl rfl rfl (Nat.le_of_ble_eq_true rfl) (Nat.le_of_ble_eq_true rfl) (k_X9_pop (d := d + 1) hS hF hI6 hR (c) hc hsc hoc ) (fun v12 sv13 p14 => ?_)
    obtain ⟨r15, rfl, FI16, rfl, hI17, f18⟩ := p14
    have rg_r15 := l_rng r15
    show hw sk base _ _ _ _ _ [.long (r15)] _ _
    refine xw_lstore (L2 := [(4, .long (r15)), (2, .long (r4)), (0, .ref (base + c)), (1, .int (a1))]) (aX9_shuffle 31 rfl) (by decide) rfl ?_
    refine xw_iloadn (aX9_shuffle 32 rfl) rfl ?_
    refine hw_bp (v := (22 : Int32)) (aX9_shuffle 33 rfl) (by decide) ?_
    refine hw_icne (tgt := 103) (aX9_shuffle 34 rfl) (by decide) rfl (by decide : (22 : Int32).toInt = 22) (fun cd23 => ?_) (fun cd23 => ?_)
    · refine hw_aloadn (aX9_shuffle 43 rfl) rfl ?_
      refine hw_callV (Bs := []) (rest := []) (aX9_shuffle 44 rfl) wc_RX9_92 (by decide) rfl wi_yX9_pop wv_yX9_pop hc hsc rfl rfl rfl (Nat.le_of_ble_eq_true rfl) (Nat.le_of_ble_eq_true rfl) (k_X9_pop (d := d + 1) hS hF hI17 hR (c) hc hsc hoc ) (fun v24 sv25 p26 => ?_)
      obtain ⟨r27, rfl, FI28, rfl, hI29, f30⟩ := p26
      have rg_r27 := l_rng r27
      show hw sk base _ _ _ _ _ [.long (r27)] _ _
      refine xw_lstore (L2 := [(6, .long (r27)), (4, .long (r15)), (2, .long (r4)), (0, .ref (base + c)), (1, .int (a1))]) (aX9_shuffle 45 rfl) (by decide) rfl ?_
      refine hw_aloadn (aX9_shuffle 46 rfl) rfl ?_
      refine xw_lloadn (aX9_shuffle 47 rfl) rfl ?_
      refine hw_callV (Bs := [.long (r4)]) (rest := []) (aX9_shuffle 48 rfl) wc_RX9_158 (by decide) rfl wi_yX9_push wv_yX9_push hc hsc rfl rfl rfl (Nat.le_of_ble_eq_true rfl) (Nat.le_of_ble_eq_true rfl) (k_X9_push (d := d) hS hF hI29 hR (c) hc hsc hoc (r4) ) (fun v35 sv36 p37 => ?_)
      obtain ⟨r38, rfl, FI39, FL40, rfl, hI41, f42, f43⟩ := p37
      have rg_r38 := i_rng r38
      show hw sk base _ _ _ _ _ [.int (r38)] _ _
      refine xw_pop (aX9_shuffle 49 rfl) rfl ?_
      refine hw_aloadn (aX9_shuffle 50 rfl) rfl ?_
      refine xw_lload (aX9_shuffle 51 rfl) rfl ?_
      refine hw_callV (Bs := [.long (r27)]) (rest := []) (aX9_shuffle 52 rfl) wc_RX9_158 (by decide) rfl wi_yX9_push wv_yX9_push hc hsc rfl rfl rfl (Nat.le_of_ble_eq_true rfl) (Nat.le_of_ble_eq_true rfl) (k_X9_push (d := d) hS hF hI41 hR (c) hc hsc hoc (r27) ) (fun v48 sv49 p50 => ?_)
      obtain ⟨r51, rfl, FI52, FL53, rfl, hI54, f55, f56⟩ := p50
      have rg_r51 := i_rng r51
      show hw sk base _ _ _ _ _ [.int (r51)] _ _
      refine xw_pop (aX9_shuffle 53 rfl) rfl ?_
      refine hw_aloadn (aX9_shuffle 54 rfl) rfl ?_
      refine xw_lload (aX9_shuffle 55 rfl) rfl ?_
      refine hw_callV (Bs := [.long (r15)]) (rest := []) (aX9_shuffle 56 rfl) wc_RX9_158 (by decide) rfl wi_yX9_push wv_yX9_push hc hsc rfl rfl rfl (Nat.le_of_ble_eq_true rfl) (Nat.le_of_ble_eq_true rfl) (k_X9_push (d := d) hS hF hI54 hR (c) hc hsc hoc (r15) ) (fun v61 sv62 p63 => ?_)
      obtain ⟨r64, rfl, FI65, FL66, rfl, hI67, f68, f69⟩ := p63
      have rg_r64 := i_rng r64
      show hw sk base _ _ _ _ _ [.int (r64)] _ _
      refine xw_iret (aX9_shuffle 57 rfl) rfl rfl ?_
      exact ⟨r64, rfl, FI65, FL66, rfl, hI67, (gf_tr ex_rf (gf_tr ex_rf (gf_tr ex_rf (gf_tr ex_rf (gf_tr ex_rf (gf_tr ex_rf gf_rf f7 rfl rfl rfl) f18 rfl rfl rfl) f30 rfl rfl rfl) f42 rfl rfl rfl) f55 rfl rfl rfl) f68 rfl rfl rfl), (gf_tr ex_rf (gf_tr ex_rf (gf_tr ex_rf gf_rf f43 rfl rfl rfl) f56 rfl rfl rfl) f69 rfl rfl rfl)⟩
    · refine hw_aloadn (aX9_shuffle 35 rfl) rfl ?_
      refine xw_lloadn (aX9_shuffle 36 rfl) rfl ?_
      refine hw_callV (Bs := [.long (r4)]) (rest := []) (aX9_shuffle 37 rfl) wc_RX9_158 (by decide) rfl wi_yX9_push wv_yX9_push hc hsc rfl rfl rfl (Nat.le_of_ble_eq_true rfl) (Nat.le_of_ble_eq_true rfl) (k_X9_push (d := d) hS hF hI17 hR (c) hc hsc hoc (r4) ) (fun v74 sv75 p76 => ?_)
      obtain ⟨r77, rfl, FI78, FL79, rfl, hI80, f81, f82⟩ := p76
      have rg_r77 := i_rng r77
      show hw sk base _ _ _ _ _ [.int (r77)] _ _
      refine xw_pop (aX9_shuffle 38 rfl) rfl ?_
      refine hw_aloadn (aX9_shuffle 39 rfl) rfl ?_
      refine xw_lload (aX9_shuffle 40 rfl) rfl ?_
      refine hw_callV (Bs := [.long (r15)]) (rest := []) (aX9_shuffle 41 rfl) wc_RX9_158 (by decide) rfl wi_yX9_push wv_yX9_push hc hsc rfl rfl rfl (Nat.le_of_ble_eq_true rfl) (Nat.le_of_ble_eq_true rfl) (k_X9_push (d := d) hS hF hI80 hR (c) hc hsc hoc (r15) ) (fun v87 sv88 p89 => ?_)
      obtain ⟨r90, rfl, FI91, FL92, rfl, hI93, f94, f95⟩ := p89
      have rg_r90 := i_rng r90
      show hw sk base _ _ _ _ _ [.int (r90)] _ _
      refine xw_iret (aX9_shuffle 42 rfl) rfl rfl ?_
      exact ⟨r90, rfl, FI91, FL92, rfl, hI93, (gf_tr ex_rf (gf_tr ex_rf (gf_tr ex_rf (gf_tr ex_rf gf_rf f7 rfl rfl rfl) f18 rfl rfl rfl) f81 rfl rfl rfl) f94 rfl rfl rfl), (gf_tr ex_rf (gf_tr ex_rf gf_rf f82 rfl rfl rfl) f95 rfl rfl rfl)⟩
  · refine xw_tsw (tgt := 32) aX9_shuffle_1 (by exact Or.inr ⟨by omega, by omega, _, by rw [hsw]; rfl, by decide⟩) ?_
    refine hw_aloadn (aX9_shuffle 1 rfl) rfl ?_
    refine hw_aloadn (aX9_shuffle 2 rfl) rfl ?_
    refine hw_ic (v := (0 : Int32)) (aX9_shuffle 3 rfl) (by decide) ?_
    refine hw_callV (Bs := [.int ((0 : Int32))]) (rest := [.ref (base + c)]) (aX9_shuffle 4 rfl) wc_RX9_201 (by decide) rfl wi_yX9_below wv_yX9_below hc hsc rfl rfl rfl (Nat.le_of_ble_eq_true rfl) (Nat.le_of_ble_eq_true rfl) (k_X9_below (d := d + 1) hS hF hI hR (c) hc hsc hoc ((0 : Int32)) ) (fun v100 sv101 p102 => ?_)
    obtain ⟨r103, rfl, rfl⟩ := p102
    have rg_r103 := l_rng r103
    show hw sk base _ _ _ _ _ [.long (r103), .ref (base + c)] _ _
    refine hw_callV (Bs := [.long (r103)]) (rest := []) (aX9_shuffle 5 rfl) wc_RX9_158 (by decide) rfl wi_yX9_push wv_yX9_push hc hsc rfl rfl rfl (Nat.le_of_ble_eq_true rfl) (Nat.le_of_ble_eq_true rfl) (k_X9_push (d := d) hS hF hI hR (c) hc hsc hoc (r103) ) (fun v109 sv110 p111 => ?_)
    obtain ⟨r112, rfl, FI113, FL114, rfl, hI115, f116, f117⟩ := p111
    have rg_r112 := i_rng r112
    show hw sk base _ _ _ _ _ [.int (r112)] _ _
    refine xw_iret (aX9_shuffle 6 rfl) rfl rfl ?_
    exact ⟨r112, rfl, FI113, FL114, rfl, hI115, (gf_tr ex_rf gf_rf f116 rfl rfl rfl), (gf_tr ex_rf gf_rf f117 rfl rfl rfl)⟩
  · refine xw_tsw (tgt := 42) aX9_shuffle_1 (by exact Or.inr ⟨by omega, by omega, _, by rw [hsw]; rfl, by decide⟩) ?_
    refine hw_aloadn (aX9_shuffle 7 rfl) rfl ?_
    refine hw_callV (Bs := []) (rest := []) (aX9_shuffle 8 rfl) wc_RX9_92 (by decide) rfl wi_yX9_pop wv_yX9_pop hc hsc rfl rfl rfl (Nat.le_of_ble_eq_true rfl) (Nat.le_of_ble_eq_true rfl) (k_X9_pop (d := d + 1) hS hF hI hR (c) hc hsc hoc ) (fun v122 sv123 p124 => ?_)
    obtain ⟨r125, rfl, FI126, rfl, hI127, f128⟩ := p124
    have rg_r125 := l_rng r125
    show hw sk base _ _ _ _ _ [.long (r125)] _ _
    refine xw_pop2 (aX9_shuffle 9 rfl) rfl ?_
    refine hw_ic (v := (0 : Int32)) (aX9_shuffle 10 rfl) (by decide) ?_
    refine xw_iret (aX9_shuffle 11 rfl) rfl rfl ?_
    have e133 : ((0 : Int32)).toInt = 0 := (by decide : (0 : Int32).toInt = 0)
    exact ⟨(0 : Int32), rfl, FI126, FL, rfl, hI127, (gf_tr ex_rf gf_rf f128 rfl rfl rfl), gf_rf⟩
  · refine xw_tsw (tgt := 49) aX9_shuffle_1 (by exact Or.inr ⟨by omega, by omega, _, by rw [hsw]; rfl, by decide⟩) ?_
    refine hw_aloadn (aX9_shuffle 12 rfl) rfl ?_
    refine hw_aloadn (aX9_shuffle 13 rfl) rfl ?_
    refine hw_ic (v := (1 : Int32)) (aX9_shuffle 14 rfl) (by decide) ?_
    refine hw_callV (Bs := [.int ((1 : Int32))]) (rest := [.ref (base + c)]) (aX9_shuffle 15 rfl) wc_RX9_201 (by decide) rfl wi_yX9_below wv_yX9_below hc hsc rfl rfl rfl (Nat.le_of_ble_eq_true rfl) (Nat.le_of_ble_eq_true rfl) (k_X9_below (d := d + 1) hS hF hI hR (c) hc hsc hoc ((1 : Int32)) ) (fun v134 sv135 p136 => ?_)
    obtain ⟨r137, rfl, rfl⟩ := p136
    have rg_r137 := l_rng r137
    show hw sk base _ _ _ _ _ [.long (r137), .ref (base + c)] _ _
    refine hw_callV (Bs := [.long (r137)]) (rest := []) (aX9_shuffle 16 rfl) wc_RX9_158 (by decide) rfl wi_yX9_push wv_yX9_push hc hsc rfl rfl rfl (Nat.le_of_ble_eq_true rfl) (Nat.le_of_ble_eq_true rfl) (k_X9_push (d := d) hS hF hI hR (c) hc hsc hoc (r137) ) (fun v143 sv144 p145 => ?_)
    obtain ⟨r146, rfl, FI147, FL148, rfl, hI149, f150, f151⟩ := p145
    have rg_r146 := i_rng r146
    show hw sk base _ _ _ _ _ [.int (r146)] _ _
    refine xw_iret (aX9_shuffle 17 rfl) rfl rfl ?_
    exact ⟨r146, rfl, FI147, FL148, rfl, hI149, (gf_tr ex_rf gf_rf f150 rfl rfl rfl), (gf_tr ex_rf gf_rf f151 rfl rfl rfl)⟩
  · refine xw_tsw (tgt := 59) aX9_shuffle_1 (by exact Or.inr ⟨by omega, by omega, _, by rw [hsw]; rfl, by decide⟩) ?_
    refine hw_aloadn (aX9_shuffle 18 rfl) rfl ?_
    refine hw_aloadn (aX9_shuffle 19 rfl) rfl ?_
    refine hw_aloadn (aX9_shuffle 20 rfl) rfl ?_
    obtain ⟨x156, h157⟩ : ∃ y, FL c 12 = y := ⟨_, rfl⟩
    have h157l := congrArg Int64.toInt h157
    have := l_rng x156
    refine hw_get (v := .long (x156)) (aX9_shuffle 21 rfl) wf_RX9_96 hc hsc (by decide) (congrArg Value.long (show FL c 12 = x156 from h157)) ?_
    refine xw_l2i (aX9_shuffle 22 rfl) ?_
    refine hw_ti (fun x158 => ?_)
    have b159 := i_rng x158
    refine hw_callV (Bs := [.int (x158)]) (rest := [.ref (base + c)]) (aX9_shuffle 23 rfl) wc_RX9_201 (by decide) rfl wi_yX9_below wv_yX9_below hc hsc rfl rfl rfl (Nat.le_of_ble_eq_true rfl) (Nat.le_of_ble_eq_true rfl) (k_X9_below (d := d + 1) hS hF hI hR (c) hc hsc hoc (x158) ) (fun v160 sv161 p162 => ?_)
    obtain ⟨r163, rfl, rfl⟩ := p162
    have rg_r163 := l_rng r163
    show hw sk base _ _ _ _ _ [.long (r163), .ref (base + c)] _ _
    refine hw_callV (Bs := [.long (r163)]) (rest := []) (aX9_shuffle 24 rfl) wc_RX9_158 (by decide) rfl wi_yX9_push wv_yX9_push hc hsc rfl rfl rfl (Nat.le_of_ble_eq_true rfl) (Nat.le_of_ble_eq_true rfl) (k_X9_push (d := d) hS hF hI hR (c) hc hsc hoc (r163) ) (fun v169 sv170 p171 => ?_)
    obtain ⟨r172, rfl, FI173, FL174, rfl, hI175, f176, f177⟩ := p171
    have rg_r172 := i_rng r172
    show hw sk base _ _ _ _ _ [.int (r172)] _ _
    refine xw_iret (aX9_shuffle 25 rfl) rfl rfl ?_
    exact ⟨r172, rfl, FI173, FL174, rfl, hI175, (gf_tr ex_rf gf_rf f176 rfl rfl rfl), (gf_tr ex_rf gf_rf f177 rfl rfl rfl)⟩
