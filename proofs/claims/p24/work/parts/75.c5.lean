def nX11_tell : Nat := 0xb14f0415061700b42a4f1d051700b42a4f1c0400a70207009a1b041700b42a4f1b031700b42a
theorem bX11_tell : cX11_tell.data.toList.map UInt8.toNat = x_un nX11_tell 38 := by decide +kernel
def iX11_tell : List (Nat × Jvm.ClassFile.Instr × Nat) := [(0, .aload_n 0, 1), (1, .getfield 23, 3), (4, .iconst 0, 1), (5, .iload_n 1, 1), (6, .iastore, 1), (7, .aload_n 0, 1), (8, .getfield 23, 3), (11, .iconst 1, 1), (12, .iload_n 1, 1), (13, .ifCond .ne 7, 3), (16, .iconst (-1), 1), (17, .goto 4, 3), (20, .iload_n 2, 1), (21, .iastore, 1), (22, .aload_n 0, 1), (23, .getfield 23, 3), (26, .iconst 2, 1), (27, .iload_n 3, 1), (28, .iastore, 1), (29, .aload_n 0, 1), (30, .getfield 23, 3), (33, .iconst 3, 1), (34, .iload 4, 2), (36, .iastore, 1), (37, .return_, 1)]
theorem dX11_tell : x_il nX11_tell 38 iX11_tell = true := by decide +kernel
theorem aX11_tell (k : Nat) {pc : Nat} {i : Jvm.ClassFile.Instr} {len : Nat} (hk : iX11_tell[k]? = some (pc, i, len)) : x_at xMM 137 pc i len yX11_tell 5 none := ⟨cX11_tell, rfl, x_il_ok bX11_tell dX11_tell k hk⟩
set_option maxHeartbeats 4000000 in
set_option maxRecDepth 100000 in
theorem k_X11_tell {sk : xK} {base d n sl : Nat} {SH : Nat → Nat × Nat} {FI : Nat → Nat → Int32} {FL : Nat → Nat → Int64} {FR : Nat → Nat → Option Nat} (hS : h_S n SH) (hF : h_FR FR) (hI : g_I FI) (hR : g_R n SH FR) (a1 : Int32) (a2 : Int32) (a3 : Int32) (a4 : Int32) : hw sk base d none 137 0 [(0, .ref (base + 0)), (1, .int (a1)), (2, .int (a2)), (3, .int (a3)), (4, .int (a4))] [] (n, sl, SH, FI, FL, FR) (h_V (fun s => ∃ FI', s = (n, sl, SH, FI', FL, FR) ∧ g_I FI' ∧ g_fr n (shd SH) [] [21] [] FI FI')) := by
  have rg_a1 := i_rng a1
  have rg_a2 := i_rng a2
  have rg_a3 := i_rng a3
  have rg_a4 := i_rng a4
  refine hw_aloadn (aX11_tell 0 rfl) rfl ?_
  refine hw_get (v := .ref (base + 21)) (aX11_tell 1 rfl) wf_RX11_23 (c0 hS) (s0 hS) (by decide) (congrArg (fun r => va_rf (h_rf base r)) (r0_8 hF)) ?_
  refine hw_ic (v := (0 : Int32)) (aX11_tell 2 rfl) (by decide) ?_
  refine xw_iloadn (aX11_tell 3 rfl) rfl ?_
  refine hv_iast (k := 0) (aX11_tell 4 rfl) (c21 hS) (s21 hS) (h_in (by decide : (0 : Int32).toInt = 0) (by omega) (by omega)) (by decide) (fun FI1 u2 => ?_)
  have hI3 : g_I FI1 := gU_F hI u2 rfl
  refine hw_aloadn (aX11_tell 5 rfl) rfl ?_
  refine hw_get (v := .ref (base + 21)) (aX11_tell 6 rfl) wf_RX11_23 (c0 hS) (s0 hS) (by decide) (congrArg (fun r => va_rf (h_rf base r)) (r0_8 hF)) ?_
  refine hw_ic (v := (1 : Int32)) (aX11_tell 7 rfl) (by decide) ?_
  refine xw_iloadn (aX11_tell 8 rfl) rfl ?_
  refine hw_ifne (tgt := 20) (aX11_tell 9 rfl) (by decide) rfl (fun cd4 => ?_) (fun cd4 => ?_)
  · refine xw_iloadn (aX11_tell 12 rfl) rfl ?_
    refine hv_iast (k := 1) (aX11_tell 13 rfl) (c21 hS) (s21 hS) (h_in (by decide : (1 : Int32).toInt = 1) (by omega) (by omega)) (by decide) (fun FI5 u6 => ?_)
    have hI7 : g_I FI5 := gU_F hI3 u6 rfl
    refine hw_aloadn (aX11_tell 14 rfl) rfl ?_
    refine hw_get (v := .ref (base + 21)) (aX11_tell 15 rfl) wf_RX11_23 (c0 hS) (s0 hS) (by decide) (congrArg (fun r => va_rf (h_rf base r)) (r0_8 hF)) ?_
    refine hw_ic (v := (2 : Int32)) (aX11_tell 16 rfl) (by decide) ?_
    refine xw_iloadn (aX11_tell 17 rfl) rfl ?_
    refine hv_iast (k := 2) (aX11_tell 18 rfl) (c21 hS) (s21 hS) (h_in (by decide : (2 : Int32).toInt = 2) (by omega) (by omega)) (by decide) (fun FI8 u9 => ?_)
    have hI10 : g_I FI8 := gU_F hI7 u9 rfl
    refine hw_aloadn (aX11_tell 19 rfl) rfl ?_
    refine hw_get (v := .ref (base + 21)) (aX11_tell 20 rfl) wf_RX11_23 (c0 hS) (s0 hS) (by decide) (congrArg (fun r => va_rf (h_rf base r)) (r0_8 hF)) ?_
    refine hw_ic (v := (3 : Int32)) (aX11_tell 21 rfl) (by decide) ?_
    refine xw_iload (aX11_tell 22 rfl) rfl ?_
    refine hv_iast (k := 3) (aX11_tell 23 rfl) (c21 hS) (s21 hS) (h_in (by decide : (3 : Int32).toInt = 3) (by omega) (by omega)) (by decide) (fun FI11 u12 => ?_)
    have hI13 : g_I FI11 := gU_F hI10 u12 rfl
    refine xw_vret (aX11_tell 24 rfl) rfl ?_
    exact ⟨rfl, FI11, rfl, hI13, (gf_a (gf_a (gf_a (gf_a gf_rf u2 (by decide)) u6 (by decide)) u9 (by decide)) u12 (by decide))⟩
  · refine hw_ic (v := ((-1) : Int32)) (aX11_tell 10 rfl) (by decide) ?_
    refine xw_goto (tgt := 21) (aX11_tell 11 rfl) (by decide) ?_
    refine hv_iast (k := 1) (aX11_tell 13 rfl) (c21 hS) (s21 hS) (h_in (by decide : (1 : Int32).toInt = 1) (by omega) (by omega)) (by decide) (fun FI14 u15 => ?_)
    have hI16 : g_I FI14 := gU_F hI3 u15 rfl
    refine hw_aloadn (aX11_tell 14 rfl) rfl ?_
    refine hw_get (v := .ref (base + 21)) (aX11_tell 15 rfl) wf_RX11_23 (c0 hS) (s0 hS) (by decide) (congrArg (fun r => va_rf (h_rf base r)) (r0_8 hF)) ?_
    refine hw_ic (v := (2 : Int32)) (aX11_tell 16 rfl) (by decide) ?_
    refine xw_iloadn (aX11_tell 17 rfl) rfl ?_
    refine hv_iast (k := 2) (aX11_tell 18 rfl) (c21 hS) (s21 hS) (h_in (by decide : (2 : Int32).toInt = 2) (by omega) (by omega)) (by decide) (fun FI17 u18 => ?_)
    have hI19 : g_I FI17 := gU_F hI16 u18 rfl
    refine hw_aloadn (aX11_tell 19 rfl) rfl ?_
    refine hw_get (v := .ref (base + 21)) (aX11_tell 20 rfl) wf_RX11_23 (c0 hS) (s0 hS) (by decide) (congrArg (fun r => va_rf (h_rf base r)) (r0_8 hF)) ?_
    refine hw_ic (v := (3 : Int32)) (aX11_tell 21 rfl) (by decide) ?_
    refine xw_iload (aX11_tell 22 rfl) rfl ?_
    refine hv_iast (k := 3) (aX11_tell 23 rfl) (c21 hS) (s21 hS) (h_in (by decide : (3 : Int32).toInt = 3) (by omega) (by omega)) (by decide) (fun FI20 u21 => ?_)
    have hI22 : g_I FI20 := gU_F hI19 u21 rfl
    refine xw_vret (aX11_tell 24 rfl) rfl ?_
    exact ⟨rfl, FI20, rfl, hI22, (gf_a (gf_a (gf_a (gf_a gf_rf u2 (by decide)) u15 (by decide)) u18 (by decide)) u21 (by decide))⟩
def nX11_end : Nat := 0xac1b4500b51b2aac020500a44500b42a1b0b009b1b
theorem bX11_end : cX11_end.data.toList.map UInt8.toNat = x_un nX11_end 21 := by decide +kernel
def iX11_end : List (Nat × Jvm.ClassFile.Instr × Nat) := [(0, .iload_n 1, 1), (1, .ifCond .lt 11, 3), (4, .iload_n 1, 1), (5, .aload_n 0, 1), (6, .getfield 69, 3), (9, .if_icmp .le 5, 3), (12, .iconst (-1), 1), (13, .ireturn, 1), (14, .aload_n 0, 1), (15, .iload_n 1, 1), (16, .putfield 69, 3), (19, .iload_n 1, 1), (20, .ireturn, 1)]
theorem dX11_end : x_il nX11_end 21 iX11_end = true := by decide +kernel
theorem aX11_end (k : Nat) {pc : Nat} {i : Jvm.ClassFile.Instr} {len : Nat} (hk : iX11_end[k]? = some (pc, i, len)) : x_at xMM 120 pc i len yX11_end 2 (some .int) := ⟨cX11_end, rfl, x_il_ok bX11_end dX11_end k hk⟩
set_option maxHeartbeats 4000000 in
set_option maxRecDepth 100000 in
theorem k_X11_end {sk : xK} {base d n sl : Nat} {SH : Nat → Nat × Nat} {FI : Nat → Nat → Int32} {FL : Nat → Nat → Int64} {FR : Nat → Nat → Option Nat} (hS : h_S n SH) (hF : h_FR FR) (hI : g_I FI) (hR : g_R n SH FR) (a1 : Int32) : hw sk base d none 120 0 [(0, .ref (base + 0)), (1, .int (a1))] [] (n, sl, SH, FI, FL, FR) (h_I (fun r s => ∃ FI', s = (n, sl, SH, FI', FL, FR) ∧ g_I FI' ∧ g_fr n (shd SH) [(0, 9)] [] [] FI FI' ∧ ((FI' 0 9).toInt ≤ (FI 0 9).toInt))) := by
  have rg_a1 := i_rng a1
  obtain ⟨x1, h2⟩ : ∃ y, FI 0 9 = y := ⟨_, rfl⟩
  have h2l := congrArg Int32.toInt h2
  have b3 := gI_0_9 hI; rw [h2] at b3
  refine xw_iloadn (aX11_end 0 rfl) rfl ?_
  refine hw_iflt (tgt := 12) (aX11_end 1 rfl) (by decide) rfl (fun cd4 => ?_) (fun cd4 => ?_)
  · refine hw_ic (v := ((-1) : Int32)) (aX11_end 6 rfl) (by decide) ?_
    refine xw_iret (aX11_end 7 rfl) rfl rfl ?_
    have e5 : (((-1) : Int32)).toInt = (-1) := (by decide : ((-1) : Int32).toInt = (-1))
    exact ⟨((-1) : Int32), rfl, FI, rfl, hI, gf_rf, (by have : (((-1) : Int32)).toInt = (-1) := (by decide); have := congrArg Int32.toInt (show FI 0 9 = x1 from h2); omega)⟩
  · refine xw_iloadn (aX11_end 2 rfl) rfl ?_
    refine hw_aloadn (aX11_end 3 rfl) rfl ?_
    refine hw_get (v := .int (x1)) (aX11_end 4 rfl) wf_RX11_69 (c0 hS) (s0 hS) (by decide) (congrArg Value.int (show FI 0 9 = x1 from h2)) ?_
    refine hw_icle (tgt := 14) (aX11_end 5 rfl) (by decide) rfl rfl (fun cd6 => ?_) (fun cd6 => ?_)
    · refine hw_aloadn (aX11_end 8 rfl) rfl ?_
      refine xw_iloadn (aX11_end 9 rfl) rfl ?_
      refine hv_puti (aX11_end 10 rfl) wf_RX11_69 (c0 hS) (s0 hS) (by decide) rfl rfl (fun FI7 u8 => ?_)
      have hI9 : g_I FI7 := gU_0_9 hI u8 (by omega) (by omega)
      refine xw_iloadn (aX11_end 11 rfl) rfl ?_
      refine xw_iret (aX11_end 12 rfl) rfl rfl ?_
      exact ⟨a1, rfl, FI7, rfl, hI9, (gf_f gf_rf u8 (by decide)), (by have := congrArg Int32.toInt (show FI7 0 9 = a1 from up_eq u8); omega)⟩
    · refine hw_ic (v := ((-1) : Int32)) (aX11_end 6 rfl) (by decide) ?_
      refine xw_iret (aX11_end 7 rfl) rfl rfl ?_
      have e10 : (((-1) : Int32)).toInt = (-1) := (by decide : ((-1) : Int32).toInt = (-1))
      exact ⟨((-1) : Int32), rfl, FI, rfl, hI, gf_rf, (by have : (((-1) : Int32)).toInt = (-1) := (by decide); have := congrArg Int32.toInt (show FI 0 9 = x1 from h2); omega)⟩
def nX11_load : Nat := 0xac0450201b5e00b42300b42aac030500a1be5e00b42300b42a1b0f009b1b
theorem bX11_load : cX11_load.data.toList.map UInt8.toNat = x_un nX11_load 30 := by decide +kernel
def iX11_load : List (Nat × Jvm.ClassFile.Instr × Nat) := [(0, .iload_n 1, 1), (1, .ifCond .lt 15, 3), (4, .iload_n 1, 1), (5, .aload_n 0, 1), (6, .getfield 35, 3), (9, .getfield 94, 3), (12, .arraylength, 1), (13, .if_icmp .lt 5, 3), (16, .iconst 0, 1), (17, .ireturn, 1), (18, .aload_n 0, 1), (19, .getfield 35, 3), (22, .getfield 94, 3), (25, .iload_n 1, 1), (26, .lload_n 2, 1), (27, .lastore, 1), (28, .iconst 1, 1), (29, .ireturn, 1)]
theorem dX11_load : x_il nX11_load 30 iX11_load = true := by decide +kernel
theorem aX11_load (k : Nat) {pc : Nat} {i : Jvm.ClassFile.Instr} {len : Nat} (hk : iX11_load[k]? = some (pc, i, len)) : x_at xMM 124 pc i len yX11_load 4 (some .boolean) := ⟨cX11_load, rfl, x_il_ok bX11_load dX11_load k hk⟩
set_option maxHeartbeats 4000000 in
set_option maxRecDepth 100000 in
theorem k_X11_load {sk : xK} {base d n sl : Nat} {SH : Nat → Nat × Nat} {FI : Nat → Nat → Int32} {FL : Nat → Nat → Int64} {FR : Nat → Nat → Option Nat} (hS : h_S n SH) (hF : h_FR FR) (hI : g_I FI) (hR : g_R n SH FR) (a1 : Int32) (a2 : Int64) : hw sk base d none 124 0 [(0, .ref (base + 0)), (1, .int (a1)), (2, .long (a2))] [] (n, sl, SH, FI, FL, FR) (h_I (fun r s => ∃ FL', s = (n, sl, SH, FI, FL', FR) ∧ g_fr n (shd SH) [] [24] [] FL FL' ∧ (0 ≤ r.toInt ∧ r.toInt ≤ 1))) := by
  have rg_a1 := i_rng a1
  have rg_a2 := l_rng a2
  refine xw_iloadn (aX11_load 0 rfl) rfl ?_
  refine hw_iflt (tgt := 16) (aX11_load 1 rfl) (by decide) rfl (fun cd1 => ?_) (fun cd1 => ?_)
  · refine hw_ic (v := (0 : Int32)) (aX11_load 8 rfl) (by decide) ?_
    refine xw_iret (aX11_load 9 rfl) rfl (by decide) ?_
    have e2 : ((0 : Int32)).toInt = 0 := (by decide : (0 : Int32).toInt = 0)
    exact ⟨(0 : Int32), rfl, FL, rfl, gf_rf, (by have : ((0 : Int32)).toInt = 0 := (by decide); omega)⟩
  · refine xw_iloadn (aX11_load 2 rfl) rfl ?_
    refine hw_aloadn (aX11_load 3 rfl) rfl ?_
    refine hw_get (v := .ref (base + 23)) (aX11_load 4 rfl) wf_RX11_35 (c0 hS) (s0 hS) (by decide) (congrArg (fun r => va_rf (h_rf base r)) (r0_0 hF)) ?_
    refine hw_get (v := .ref (base + 24)) (aX11_load 5 rfl) wf_RX11_94 (c23 hS) (s23 hS) (by decide) (congrArg (fun r => va_rf (h_rf base r)) (r23_0 hF)) ?_
    refine hw_alen (k := 1) (z := 32) (v := (32 : Int32)) (aX11_load 6 rfl) (c24 hS) (s24 hS) (by decide) (by decide) ?_
    refine hw_iclt (tgt := 18) (aX11_load 7 rfl) (by decide) rfl (by decide : (32 : Int32).toInt = 32) (fun cd3 => ?_) (fun cd3 => ?_)
    · refine hw_aloadn (aX11_load 10 rfl) rfl ?_
      refine hw_get (v := .ref (base + 23)) (aX11_load 11 rfl) wf_RX11_35 (c0 hS) (s0 hS) (by decide) (congrArg (fun r => va_rf (h_rf base r)) (r0_0 hF)) ?_
      refine hw_get (v := .ref (base + 24)) (aX11_load 12 rfl) wf_RX11_94 (c23 hS) (s23 hS) (by decide) (congrArg (fun r => va_rf (h_rf base r)) (r23_0 hF)) ?_
      refine xw_iloadn (aX11_load 13 rfl) rfl ?_
      refine xw_lloadn (aX11_load 14 rfl) rfl ?_
      refine hv_last (k := (a1).toNatClampNeg) (aX11_load 15 rfl) (c24 hS) (s24 hS) (h_in rfl (by omega) (by omega)) rfl (fun FL4 u5 => ?_)
      refine hw_ic (v := (1 : Int32)) (aX11_load 16 rfl) (by decide) ?_
      refine xw_iret (aX11_load 17 rfl) rfl (by decide) ?_
      have e6 : ((1 : Int32)).toInt = 1 := (by decide : (1 : Int32).toInt = 1)
      exact ⟨(1 : Int32), rfl, FL4, rfl, (gf_a gf_rf u5 (by decide)), (by have : ((1 : Int32)).toInt = 1 := (by decide); omega)⟩
    · refine hw_ic (v := (0 : Int32)) (aX11_load 8 rfl) (by decide) ?_
      refine xw_iret (aX11_load 9 rfl) rfl (by decide) ?_
      have e7 : ((0 : Int32)).toInt = 0 := (by decide : (0 : Int32).toInt = 0)
      exact ⟨(0 : Int32), rfl, FL, rfl, gf_rf, (by have : ((0 : Int32)).toInt = 0 := (by decide); omega)⟩
def nX11_poke : Nat := 0xac044f7eff00111c1b6600b42300b42aac030500a1be6600b42300b42a1b0f009b1b
theorem bX11_poke : cX11_poke.data.toList.map UInt8.toNat = x_un nX11_poke 34 := by decide +kernel
def iX11_poke : List (Nat × Jvm.ClassFile.Instr × Nat) := [(0, .iload_n 1, 1), (1, .ifCond .lt 15, 3), (4, .iload_n 1, 1), (5, .aload_n 0, 1), (6, .getfield 35, 3), (9, .getfield 102, 3), (12, .arraylength, 1), (13, .if_icmp .lt 5, 3), (16, .iconst 0, 1), (17, .ireturn, 1), (18, .aload_n 0, 1), (19, .getfield 35, 3), (22, .getfield 102, 3), (25, .iload_n 1, 1), (26, .iload_n 2, 1), (27, .sipush 255, 3), (30, .iand, 1), (31, .iastore, 1), (32, .iconst 1, 1), (33, .ireturn, 1)]
theorem dX11_poke : x_il nX11_poke 34 iX11_poke = true := by decide +kernel
theorem aX11_poke (k : Nat) {pc : Nat} {i : Jvm.ClassFile.Instr} {len : Nat} (hk : iX11_poke[k]? = some (pc, i, len)) : x_at xMM 126 pc i len yX11_poke 3 (some .boolean) := ⟨cX11_poke, rfl, x_il_ok bX11_poke dX11_poke k hk⟩
set_option maxHeartbeats 4000000 in
set_option maxRecDepth 100000 in
theorem k_X11_poke {sk : xK} {base d n sl : Nat} {SH : Nat → Nat × Nat} {FI : Nat → Nat → Int32} {FL : Nat → Nat → Int64} {FR : Nat → Nat → Option Nat} (hS : h_S n SH) (hF : h_FR FR) (hI : g_I FI) (hR : g_R n SH FR) (a1 : Int32) (a2 : Int32) : hw sk base d none 126 0 [(0, .ref (base + 0)), (1, .int (a1)), (2, .int (a2))] [] (n, sl, SH, FI, FL, FR) (h_I (fun r s => ∃ FI', s = (n, sl, SH, FI', FL, FR) ∧ g_I FI' ∧ g_fr n (shd SH) [] [25] [] FI FI' ∧ (0 ≤ r.toInt ∧ r.toInt ≤ 1))) := by
  have rg_a1 := i_rng a1
  have rg_a2 := i_rng a2
  refine xw_iloadn (aX11_poke 0 rfl) rfl ?_
  refine hw_iflt (tgt := 16) (aX11_poke 1 rfl) (by decide) rfl (fun cd1 => ?_) (fun cd1 => ?_)
  · refine hw_ic (v := (0 : Int32)) (aX11_poke 8 rfl) (by decide) ?_
    refine xw_iret (aX11_poke 9 rfl) rfl (by decide) ?_
    have e2 : ((0 : Int32)).toInt = 0 := (by decide : (0 : Int32).toInt = 0)
    exact ⟨(0 : Int32), rfl, FI, rfl, hI, gf_rf, (by have : ((0 : Int32)).toInt = 0 := (by decide); omega)⟩
  · refine xw_iloadn (aX11_poke 2 rfl) rfl ?_
    refine hw_aloadn (aX11_poke 3 rfl) rfl ?_
    refine hw_get (v := .ref (base + 23)) (aX11_poke 4 rfl) wf_RX11_35 (c0 hS) (s0 hS) (by decide) (congrArg (fun r => va_rf (h_rf base r)) (r0_0 hF)) ?_
    refine hw_get (v := .ref (base + 25)) (aX11_poke 5 rfl) wf_RX11_102 (c23 hS) (s23 hS) (by decide) (congrArg (fun r => va_rf (h_rf base r)) (r23_1 hF)) ?_
    refine hw_alen (k := 0) (z := 4096) (v := (4096 : Int32)) (aX11_poke 6 rfl) (c25 hS) (s25 hS) (by decide) (by decide) ?_
    refine hw_iclt (tgt := 18) (aX11_poke 7 rfl) (by decide) rfl (by decide : (4096 : Int32).toInt = 4096) (fun cd3 => ?_) (fun cd3 => ?_)
    · refine hw_aloadn (aX11_poke 10 rfl) rfl ?_
      refine hw_get (v := .ref (base + 23)) (aX11_poke 11 rfl) wf_RX11_35 (c0 hS) (s0 hS) (by decide) (congrArg (fun r => va_rf (h_rf base r)) (r0_0 hF)) ?_
      refine hw_get (v := .ref (base + 25)) (aX11_poke 12 rfl) wf_RX11_102 (c23 hS) (s23 hS) (by decide) (congrArg (fun r => va_rf (h_rf base r)) (r23_1 hF)) ?_
      refine xw_iloadn (aX11_poke 13 rfl) rfl ?_
      refine xw_iloadn (aX11_poke 14 rfl) rfl ?_
      refine hw_sp (v := (255 : Int32)) (aX11_poke 15 rfl) (by decide) ?_
      refine xw_iand (aX11_poke 16 rfl) ?_
      refine hw_tib (lo := 0) (hi := 255) (i_and (x := a2) (m := (255 : Int32)) (M := 255) (by decide) (by decide)) (fun x4 b5 => ?_)
      refine hv_iast (k := (a1).toNatClampNeg) (aX11_poke 17 rfl) (c25 hS) (s25 hS) (h_in rfl (by omega) (by omega)) rfl (fun FI6 u7 => ?_)
      have hI8 : g_I FI6 := gU_F hI u7 rfl
      refine hw_ic (v := (1 : Int32)) (aX11_poke 18 rfl) (by decide) ?_
      refine xw_iret (aX11_poke 19 rfl) rfl (by decide) ?_
      have e9 : ((1 : Int32)).toInt = 1 := (by decide : (1 : Int32).toInt = 1)
      exact ⟨(1 : Int32), rfl, FI6, rfl, hI8, (gf_a gf_rf u7 (by decide)), (by have : ((1 : Int32)).toInt = 1 := (by decide); omega)⟩
    · refine hw_ic (v := (0 : Int32)) (aX11_poke 8 rfl) (by decide) ?_
      refine xw_iret (aX11_poke 9 rfl) rfl (by decide) ?_
      have e10 : ((0 : Int32)).toInt = 0 := (by decide : (0 : Int32).toInt = 0)
      exact ⟨(0 : Int32), rfl, FI, rfl, hI, gf_rf, (by have : ((0 : Int32)).toInt = 0 := (by decide); omega)⟩
def nX11_peek : Nat := 0xac2e1b6600b42300b42a0c00a7020700a1be6600b42300b42a1b0f009b1b
theorem bX11_peek : cX11_peek.data.toList.map UInt8.toNat = x_un nX11_peek 30 := by decide +kernel
def iX11_peek : List (Nat × Jvm.ClassFile.Instr × Nat) := [(0, .iload_n 1, 1), (1, .ifCond .lt 15, 3), (4, .iload_n 1, 1), (5, .aload_n 0, 1), (6, .getfield 35, 3), (9, .getfield 102, 3), (12, .arraylength, 1), (13, .if_icmp .lt 7, 3), (16, .iconst (-1), 1), (17, .goto 12, 3), (20, .aload_n 0, 1), (21, .getfield 35, 3), (24, .getfield 102, 3), (27, .iload_n 1, 1), (28, .iaload, 1), (29, .ireturn, 1)]
theorem dX11_peek : x_il nX11_peek 30 iX11_peek = true := by decide +kernel
theorem aX11_peek (k : Nat) {pc : Nat} {i : Jvm.ClassFile.Instr} {len : Nat} (hk : iX11_peek[k]? = some (pc, i, len)) : x_at xMM 127 pc i len yX11_peek 2 (some .int) := ⟨cX11_peek, rfl, x_il_ok bX11_peek dX11_peek k hk⟩
set_option maxHeartbeats 4000000 in
set_option maxRecDepth 100000 in
theorem k_X11_peek {sk : xK} {base d n sl : Nat} {SH : Nat → Nat × Nat} {FI : Nat → Nat → Int32} {FL : Nat → Nat → Int64} {FR : Nat → Nat → Option Nat} (hS : h_S n SH) (hF : h_FR FR) (hI : g_I FI) (hR : g_R n SH FR) (a1 : Int32) : hw sk base d none 127 0 [(0, .ref (base + 0)), (1, .int (a1))] [] (n, sl, SH, FI, FL, FR) (h_I (fun r s => s = (n, sl, SH, FI, FL, FR))) := by
  have rg_a1 := i_rng a1
  refine xw_iloadn (aX11_peek 0 rfl) rfl ?_
  refine hw_iflt (tgt := 16) (aX11_peek 1 rfl) (by decide) rfl (fun cd1 => ?_) (fun cd1 => ?_)
  · refine hw_ic (v := ((-1) : Int32)) (aX11_peek 8 rfl) (by decide) ?_
    refine xw_goto (tgt := 29) (aX11_peek 9 rfl) (by decide) ?_
    refine xw_iret (aX11_peek 15 rfl) rfl rfl ?_
    have e2 : (((-1) : Int32)).toInt = (-1) := (by decide : ((-1) : Int32).toInt = (-1))
    exact ⟨((-1) : Int32), rfl, rfl⟩
  · refine xw_iloadn (aX11_peek 2 rfl) rfl ?_
    refine hw_aloadn (aX11_peek 3 rfl) rfl ?_
    refine hw_get (v := .ref (base + 23)) (aX11_peek 4 rfl) wf_RX11_35 (c0 hS) (s0 hS) (by decide) (congrArg (fun r => va_rf (h_rf base r)) (r0_0 hF)) ?_
    refine hw_get (v := .ref (base + 25)) (aX11_peek 5 rfl) wf_RX11_102 (c23 hS) (s23 hS) (by decide) (congrArg (fun r => va_rf (h_rf base r)) (r23_1 hF)) ?_
    refine hw_alen (k := 0) (z := 4096) (v := (4096 : Int32)) (aX11_peek 6 rfl) (c25 hS) (s25 hS) (by decide) (by decide) ?_
    refine hw_iclt (tgt := 20) (aX11_peek 7 rfl) (by decide) rfl (by decide : (4096 : Int32).toInt = 4096) (fun cd3 => ?_) (fun cd3 => ?_)
    · refine hw_aloadn (aX11_peek 10 rfl) rfl ?_
      refine hw_get (v := .ref (base + 23)) (aX11_peek 11 rfl) wf_RX11_35 (c0 hS) (s0 hS) (by decide) (congrArg (fun r => va_rf (h_rf base r)) (r0_0 hF)) ?_
      refine hw_get (v := .ref (base + 25)) (aX11_peek 12 rfl) wf_RX11_102 (c23 hS) (s23 hS) (by decide) (congrArg (fun r => va_rf (h_rf base r)) (r23_1 hF)) ?_
      refine xw_iloadn (aX11_peek 13 rfl) rfl ?_
      obtain ⟨x4, h5⟩ : ∃ y, FI 25 (a1).toNatClampNeg = y := ⟨_, rfl⟩
      have h5l := congrArg Int32.toInt h5
      have := i_rng x4
      refine hw_iald (v := x4) (aX11_peek 14 rfl) (c25 hS) (s25 hS) (h_in rfl (by omega) (by omega)) (show FI 25 (a1).toNatClampNeg = x4 from h5) ?_
      refine xw_iret (aX11_peek 15 rfl) rfl rfl ?_
      exact ⟨x4, rfl, rfl⟩
    · refine hw_ic (v := ((-1) : Int32)) (aX11_peek 8 rfl) (by decide) ?_
      refine xw_goto (tgt := 29) (aX11_peek 9 rfl) (by decide) ?_
      refine xw_iret (aX11_peek 15 rfl) rfl rfl ?_
      have e6 : (((-1) : Int32)).toInt = (-1) := (by decide : ((-1) : Int32).toInt = (-1))
      exact ⟨((-1) : Int32), rfl, rfl⟩
def nX11_frame : Nat := 0xac046900b51b2300b42aac030500a1be4d00b42300b42a1b0f00a1021b
theorem bX11_frame : cX11_frame.data.toList.map UInt8.toNat = x_un nX11_frame 29 := by decide +kernel
def iX11_frame : List (Nat × Jvm.ClassFile.Instr × Nat) := [(0, .iload_n 1, 1), (1, .iconst (-1), 1), (2, .if_icmp .lt 15, 3), (5, .iload_n 1, 1), (6, .aload_n 0, 1), (7, .getfield 35, 3), (10, .getfield 77, 3), (13, .arraylength, 1), (14, .if_icmp .lt 5, 3), (17, .iconst 0, 1), (18, .ireturn, 1), (19, .aload_n 0, 1), (20, .getfield 35, 3), (23, .iload_n 1, 1), (24, .putfield 105, 3), (27, .iconst 1, 1), (28, .ireturn, 1)]
theorem dX11_frame : x_il nX11_frame 29 iX11_frame = true := by decide +kernel
theorem aX11_frame (k : Nat) {pc : Nat} {i : Jvm.ClassFile.Instr} {len : Nat} (hk : iX11_frame[k]? = some (pc, i, len)) : x_at xMM 128 pc i len yX11_frame 2 (some .boolean) := ⟨cX11_frame, rfl, x_il_ok bX11_frame dX11_frame k hk⟩
set_option maxHeartbeats 4000000 in
set_option maxRecDepth 100000 in
theorem k_X11_frame {sk : xK} {base d n sl : Nat} {SH : Nat → Nat × Nat} {FI : Nat → Nat → Int32} {FL : Nat → Nat → Int64} {FR : Nat → Nat → Option Nat} (hS : h_S n SH) (hF : h_FR FR) (hI : g_I FI) (hR : g_R n SH FR) (a1 : Int32) : hw sk base d none 128 0 [(0, .ref (base + 0)), (1, .int (a1))] [] (n, sl, SH, FI, FL, FR) (h_I (fun r s => ∃ FI', s = (n, sl, SH, FI', FL, FR) ∧ g_I FI' ∧ g_fr n (shd SH) [(23, 4)] [] [] FI FI' ∧ (0 ≤ r.toInt ∧ r.toInt ≤ 1))) := by
  have rg_a1 := i_rng a1
  refine xw_iloadn (aX11_frame 0 rfl) rfl ?_
  refine hw_ic (v := ((-1) : Int32)) (aX11_frame 1 rfl) (by decide) ?_
  refine hw_iclt (tgt := 17) (aX11_frame 2 rfl) (by decide) rfl (by decide : ((-1) : Int32).toInt = (-1)) (fun cd1 => ?_) (fun cd1 => ?_)
  · refine hw_ic (v := (0 : Int32)) (aX11_frame 9 rfl) (by decide) ?_
    refine xw_iret (aX11_frame 10 rfl) rfl (by decide) ?_
    have e2 : ((0 : Int32)).toInt = 0 := (by decide : (0 : Int32).toInt = 0)
    exact ⟨(0 : Int32), rfl, FI, rfl, hI, gf_rf, (by have : ((0 : Int32)).toInt = 0 := (by decide); omega)⟩
  · refine xw_iloadn (aX11_frame 3 rfl) rfl ?_
    refine hw_aloadn (aX11_frame 4 rfl) rfl ?_
    refine hw_get (v := .ref (base + 23)) (aX11_frame 5 rfl) wf_RX11_35 (c0 hS) (s0 hS) (by decide) (congrArg (fun r => va_rf (h_rf base r)) (r0_0 hF)) ?_
    refine hw_get (v := .ref (base + 26)) (aX11_frame 6 rfl) wf_RX11_77 (c23 hS) (s23 hS) (by decide) (congrArg (fun r => va_rf (h_rf base r)) (r23_2 hF)) ?_
    refine hw_alen (k := 6) (z := 16) (v := (16 : Int32)) (aX11_frame 7 rfl) (c26 hS) (s26 hS) (by decide) (by decide) ?_
    refine hw_iclt (tgt := 19) (aX11_frame 8 rfl) (by decide) rfl (by decide : (16 : Int32).toInt = 16) (fun cd3 => ?_) (fun cd3 => ?_)
    · refine hw_aloadn (aX11_frame 11 rfl) rfl ?_
      refine hw_get (v := .ref (base + 23)) (aX11_frame 12 rfl) wf_RX11_35 (c0 hS) (s0 hS) (by decide) (congrArg (fun r => va_rf (h_rf base r)) (r0_0 hF)) ?_
      refine xw_iloadn (aX11_frame 13 rfl) rfl ?_
      refine hv_puti (aX11_frame 14 rfl) wf_RX11_105 (c23 hS) (s23 hS) (by decide) rfl rfl (fun FI4 u5 => ?_)
      have hI6 : g_I FI4 := gU_23_4 hI u5 (by omega) (by omega)
      refine hw_ic (v := (1 : Int32)) (aX11_frame 15 rfl) (by decide) ?_
      refine xw_iret (aX11_frame 16 rfl) rfl (by decide) ?_
      have e7 : ((1 : Int32)).toInt = 1 := (by decide : (1 : Int32).toInt = 1)
      exact ⟨(1 : Int32), rfl, FI4, rfl, hI6, (gf_f gf_rf u5 (by decide)), (by have : ((1 : Int32)).toInt = 1 := (by decide); omega)⟩
    · refine hw_ic (v := (0 : Int32)) (aX11_frame 9 rfl) (by decide) ?_
      refine xw_iret (aX11_frame 10 rfl) rfl (by decide) ?_
      have e8 : ((0 : Int32)).toInt = 0 := (by decide : (0 : Int32).toInt = 0)
      exact ⟨(0 : Int32), rfl, FI, rfl, hI, gf_rf, (by have : ((0 : Int32)).toInt = 0 := (by decide); omega)⟩
def nX11_cfa : Nat := 0xac046f00b5202300b42a6c00b51b2300b42aac030500a1be5e00b42300b42a1b0f00a1021b
theorem bX11_cfa : cX11_cfa.data.toList.map UInt8.toNat = x_un nX11_cfa 37 := by decide +kernel
def iX11_cfa : List (Nat × Jvm.ClassFile.Instr × Nat) := [(0, .iload_n 1, 1), (1, .iconst (-1), 1), (2, .if_icmp .lt 15, 3), (5, .iload_n 1, 1), (6, .aload_n 0, 1), (7, .getfield 35, 3), (10, .getfield 94, 3), (13, .arraylength, 1), (14, .if_icmp .lt 5, 3), (17, .iconst 0, 1), (18, .ireturn, 1), (19, .aload_n 0, 1), (20, .getfield 35, 3), (23, .iload_n 1, 1), (24, .putfield 108, 3), (27, .aload_n 0, 1), (28, .getfield 35, 3), (31, .lload_n 2, 1), (32, .putfield 111, 3), (35, .iconst 1, 1), (36, .ireturn, 1)]
theorem dX11_cfa : x_il nX11_cfa 37 iX11_cfa = true := by decide +kernel
theorem aX11_cfa (k : Nat) {pc : Nat} {i : Jvm.ClassFile.Instr} {len : Nat} (hk : iX11_cfa[k]? = some (pc, i, len)) : x_at xMM 129 pc i len yX11_cfa 4 (some .boolean) := ⟨cX11_cfa, rfl, x_il_ok bX11_cfa dX11_cfa k hk⟩
set_option maxHeartbeats 4000000 in
set_option maxRecDepth 100000 in
theorem k_X11_cfa {sk : xK} {base d n sl : Nat} {SH : Nat → Nat × Nat} {FI : Nat → Nat → Int32} {FL : Nat → Nat → Int64} {FR : Nat → Nat → Option Nat} (hS : h_S n SH) (hF : h_FR FR) (hI : g_I FI) (hR : g_R n SH FR) (a1 : Int32) (a2 : Int64) : hw sk base d none 129 0 [(0, .ref (base + 0)), (1, .int (a1)), (2, .long (a2))] [] (n, sl, SH, FI, FL, FR) (h_I (fun r s => ∃ FI' FL', s = (n, sl, SH, FI', FL', FR) ∧ g_I FI' ∧ g_fr n (shd SH) [(23, 5)] [] [] FI FI' ∧ g_fr n (shd SH) [(23, 6)] [] [] FL FL' ∧ (0 ≤ r.toInt ∧ r.toInt ≤ 1))) := by
  have rg_a1 := i_rng a1
  have rg_a2 := l_rng a2
  refine xw_iloadn (aX11_cfa 0 rfl) rfl ?_
  refine hw_ic (v := ((-1) : Int32)) (aX11_cfa 1 rfl) (by decide) ?_
  refine hw_iclt (tgt := 17) (aX11_cfa 2 rfl) (by decide) rfl (by decide : ((-1) : Int32).toInt = (-1)) (fun cd1 => ?_) (fun cd1 => ?_)
  · refine hw_ic (v := (0 : Int32)) (aX11_cfa 9 rfl) (by decide) ?_
    refine xw_iret (aX11_cfa 10 rfl) rfl (by decide) ?_
    have e2 : ((0 : Int32)).toInt = 0 := (by decide : (0 : Int32).toInt = 0)
    exact ⟨(0 : Int32), rfl, FI, FL, rfl, hI, gf_rf, gf_rf, (by have : ((0 : Int32)).toInt = 0 := (by decide); omega)⟩
  · refine xw_iloadn (aX11_cfa 3 rfl) rfl ?_
    refine hw_aloadn (aX11_cfa 4 rfl) rfl ?_
    refine hw_get (v := .ref (base + 23)) (aX11_cfa 5 rfl) wf_RX11_35 (c0 hS) (s0 hS) (by decide) (congrArg (fun r => va_rf (h_rf base r)) (r0_0 hF)) ?_
    refine hw_get (v := .ref (base + 24)) (aX11_cfa 6 rfl) wf_RX11_94 (c23 hS) (s23 hS) (by decide) (congrArg (fun r => va_rf (h_rf base r)) (r23_0 hF)) ?_
    refine hw_alen (k := 1) (z := 32) (v := (32 : Int32)) (aX11_cfa 7 rfl) (c24 hS) (s24 hS) (by decide) (by decide) ?_
    refine hw_iclt (tgt := 19) (aX11_cfa 8 rfl) (by decide) rfl (by decide : (32 : Int32).toInt = 32) (fun cd3 => ?_) (fun cd3 => ?_)
    · refine hw_aloadn (aX11_cfa 11 rfl) rfl ?_
      refine hw_get (v := .ref (base + 23)) (aX11_cfa 12 rfl) wf_RX11_35 (c0 hS) (s0 hS) (by decide) (congrArg (fun r => va_rf (h_rf base r)) (r0_0 hF)) ?_
      refine xw_iloadn (aX11_cfa 13 rfl) rfl ?_
      refine hv_puti (aX11_cfa 14 rfl) wf_RX11_108 (c23 hS) (s23 hS) (by decide) rfl rfl (fun FI4 u5 => ?_)
      have hI6 : g_I FI4 := gU_23_5 hI u5 (by omega) (by omega)
      refine hw_aloadn (aX11_cfa 15 rfl) rfl ?_
      refine hw_get (v := .ref (base + 23)) (aX11_cfa 16 rfl) wf_RX11_35 (c0 hS) (s0 hS) (by decide) (congrArg (fun r => va_rf (h_rf base r)) (r0_0 hF)) ?_
      refine xw_lloadn (aX11_cfa 17 rfl) rfl ?_
      refine hv_putl (aX11_cfa 18 rfl) wf_RX11_111 (c23 hS) (s23 hS) (by decide) rfl rfl (fun FL7 u8 => ?_)
      refine hw_ic (v := (1 : Int32)) (aX11_cfa 19 rfl) (by decide) ?_
      refine xw_iret (aX11_cfa 20 rfl) rfl (by decide) ?_
      have e9 : ((1 : Int32)).toInt = 1 := (by decide : (1 : Int32).toInt = 1)
      exact ⟨(1 : Int32), rfl, FI4, FL7, rfl, hI6, (gf_f gf_rf u5 (by decide)), (gf_f gf_rf u8 (by decide)), (by have : ((1 : Int32)).toInt = 1 := (by decide); omega)⟩
    · refine hw_ic (v := (0 : Int32)) (aX11_cfa 9 rfl) (by decide) ?_
      refine xw_iret (aX11_cfa 10 rfl) rfl (by decide) ?_
      have e10 : ((0 : Int32)).toInt = 0 := (by decide : (0 : Int32).toInt = 0)
      exact ⟨(0 : Int32), rfl, FI, FL, rfl, hI, gf_rf, gf_rf, (by have : ((0 : Int32)).toInt = 0 := (by decide); omega)⟩
def nX11_set : Nat := 0xac03ac047d00b504152300b42a7a00b5202300b42a1600a0041bac047600b504152300b42a7300b5202300b42a16009a1b
theorem bX11_set : cX11_set.data.toList.map UInt8.toNat = x_un nX11_set 49 := by decide +kernel
def iX11_set : List (Nat × Jvm.ClassFile.Instr × Nat) := [(0, .iload_n 1, 1), (1, .ifCond .ne 22, 3), (4, .aload_n 0, 1), (5, .getfield 35, 3), (8, .lload_n 2, 1), (9, .putfield 115, 3), (12, .aload_n 0, 1), (13, .getfield 35, 3), (16, .iload 4, 2), (18, .putfield 118, 3), (21, .iconst 1, 1), (22, .ireturn, 1), (23, .iload_n 1, 1), (24, .iconst 1, 1), (25, .if_icmp .ne 22, 3), (28, .aload_n 0, 1), (29, .getfield 35, 3), (32, .lload_n 2, 1), (33, .putfield 122, 3), (36, .aload_n 0, 1), (37, .getfield 35, 3), (40, .iload 4, 2), (42, .putfield 125, 3), (45, .iconst 1, 1), (46, .ireturn, 1), (47, .iconst 0, 1), (48, .ireturn, 1)]
theorem dX11_set : x_il nX11_set 49 iX11_set = true := by decide +kernel
theorem aX11_set (k : Nat) {pc : Nat} {i : Jvm.ClassFile.Instr} {len : Nat} (hk : iX11_set[k]? = some (pc, i, len)) : x_at xMM 130 pc i len yX11_set 5 (some .boolean) := ⟨cX11_set, rfl, x_il_ok bX11_set dX11_set k hk⟩
set_option maxHeartbeats 4000000 in
set_option maxRecDepth 100000 in
theorem k_X11_set {sk : xK} {base d n sl : Nat} {SH : Nat → Nat × Nat} {FI : Nat → Nat → Int32} {FL : Nat → Nat → Int64} {FR : Nat → Nat → Option Nat} (hS : h_S n SH) (hF : h_FR FR) (hI : g_I FI) (hR : g_R n SH FR) (a1 : Int32) (a2 : Int64) (a3 : Int32) (g0 : 0 ≤ (a3).toInt ∧ (a3).toInt ≤ 1) : hw sk base d none 130 0 [(0, .ref (base + 0)), (1, .int (a1)), (2, .long (a2)), (4, .int (a3))] [] (n, sl, SH, FI, FL, FR) (h_I (fun r s => ∃ FI' FL', s = (n, sl, SH, FI', FL', FR) ∧ g_I FI' ∧ g_fr n (shd SH) [(23, 7), (23, 9)] [] [] FI FI' ∧ g_fr n (shd SH) [(23, 8), (23, 10)] [] [] FL FL' ∧ (0 ≤ r.toInt ∧ r.toInt ≤ 1))) := by
  have rg_a1 := i_rng a1
  have rg_a2 := l_rng a2
  have rg_a3 := i_rng a3
  refine xw_iloadn (aX11_set 0 rfl) rfl ?_
  refine hw_ifne (tgt := 23) (aX11_set 1 rfl) (by decide) rfl (fun cd1 => ?_) (fun cd1 => ?_)
  · refine xw_iloadn (aX11_set 12 rfl) rfl ?_
    refine hw_ic (v := (1 : Int32)) (aX11_set 13 rfl) (by decide) ?_
    refine hw_icne (tgt := 47) (aX11_set 14 rfl) (by decide) rfl (by decide : (1 : Int32).toInt = 1) (fun cd2 => ?_) (fun cd2 => ?_)
    · refine hw_ic (v := (0 : Int32)) (aX11_set 25 rfl) (by decide) ?_
      refine xw_iret (aX11_set 26 rfl) rfl (by decide) ?_
      have e3 : ((0 : Int32)).toInt = 0 := (by decide : (0 : Int32).toInt = 0)
      exact ⟨(0 : Int32), rfl, FI, FL, rfl, hI, gf_rf, gf_rf, (by have : ((0 : Int32)).toInt = 0 := (by decide); omega)⟩
    · refine hw_aloadn (aX11_set 15 rfl) rfl ?_
      refine hw_get (v := .ref (base + 23)) (aX11_set 16 rfl) wf_RX11_35 (c0 hS) (s0 hS) (by decide) (congrArg (fun r => va_rf (h_rf base r)) (r0_0 hF)) ?_
      refine xw_lloadn (aX11_set 17 rfl) rfl ?_
      refine hv_putl (aX11_set 18 rfl) wf_RX11_122 (c23 hS) (s23 hS) (by decide) rfl rfl (fun FL4 u5 => ?_)
      refine hw_aloadn (aX11_set 19 rfl) rfl ?_
      refine hw_get (v := .ref (base + 23)) (aX11_set 20 rfl) wf_RX11_35 (c0 hS) (s0 hS) (by decide) (congrArg (fun r => va_rf (h_rf base r)) (r0_0 hF)) ?_
      refine xw_iload (aX11_set 21 rfl) rfl ?_
      refine hv_putz (aX11_set 22 rfl) wf_RX11_125 (c23 hS) (s23 hS) (by decide) rfl rfl (i_01 rfl (by omega) (by omega)) (fun FI6 u7 => ?_)
      have hI8 : g_I FI6 := gU_23_9 hI u7 (by omega) (by omega)
      refine hw_ic (v := (1 : Int32)) (aX11_set 23 rfl) (by decide) ?_
      refine xw_iret (aX11_set 24 rfl) rfl (by decide) ?_
      have e9 : ((1 : Int32)).toInt = 1 := (by decide : (1 : Int32).toInt = 1)
      exact ⟨(1 : Int32), rfl, FI6, FL4, rfl, hI8, (gf_f gf_rf u7 (by decide)), (gf_f gf_rf u5 (by decide)), (by have : ((1 : Int32)).toInt = 1 := (by decide); omega)⟩
  · refine hw_aloadn (aX11_set 2 rfl) rfl ?_
    refine hw_get (v := .ref (base + 23)) (aX11_set 3 rfl) wf_RX11_35 (c0 hS) (s0 hS) (by decide) (congrArg (fun r => va_rf (h_rf base r)) (r0_0 hF)) ?_
    refine xw_lloadn (aX11_set 4 rfl) rfl ?_
    refine hv_putl (aX11_set 5 rfl) wf_RX11_115 (c23 hS) (s23 hS) (by decide) rfl rfl (fun FL10 u11 => ?_)
    refine hw_aloadn (aX11_set 6 rfl) rfl ?_
    refine hw_get (v := .ref (base + 23)) (aX11_set 7 rfl) wf_RX11_35 (c0 hS) (s0 hS) (by decide) (congrArg (fun r => va_rf (h_rf base r)) (r0_0 hF)) ?_
    refine xw_iload (aX11_set 8 rfl) rfl ?_
    refine hv_putz (aX11_set 9 rfl) wf_RX11_118 (c23 hS) (s23 hS) (by decide) rfl rfl (i_01 rfl (by omega) (by omega)) (fun FI12 u13 => ?_)
    have hI14 : g_I FI12 := gU_23_7 hI u13 (by omega) (by omega)
    refine hw_ic (v := (1 : Int32)) (aX11_set 10 rfl) (by decide) ?_
    refine xw_iret (aX11_set 11 rfl) rfl (by decide) ?_
    have e15 : ((1 : Int32)).toInt = 1 := (by decide : (1 : Int32).toInt = 1)
    exact ⟨(1 : Int32), rfl, FI12, FL10, rfl, hI14, (gf_f gf_rf u13 (by decide)), (gf_f gf_rf u11 (by decide)), (by have : ((1 : Int32)).toInt = 1 := (by decide); omega)⟩
def nX11_told : Nat := 0xac2e1b1700b42a0900a7020700a1be1700b42a1b0c009b1b
theorem bX11_told : cX11_told.data.toList.map UInt8.toNat = x_un nX11_told 24 := by decide +kernel
def iX11_told : List (Nat × Jvm.ClassFile.Instr × Nat) := [(0, .iload_n 1, 1), (1, .ifCond .lt 12, 3), (4, .iload_n 1, 1), (5, .aload_n 0, 1), (6, .getfield 23, 3), (9, .arraylength, 1), (10, .if_icmp .lt 7, 3), (13, .iconst (-1), 1), (14, .goto 9, 3), (17, .aload_n 0, 1), (18, .getfield 23, 3), (21, .iload_n 1, 1), (22, .iaload, 1), (23, .ireturn, 1)]
theorem dX11_told : x_il nX11_told 24 iX11_told = true := by decide +kernel
theorem aX11_told (k : Nat) {pc : Nat} {i : Jvm.ClassFile.Instr} {len : Nat} (hk : iX11_told[k]? = some (pc, i, len)) : x_at xMM 140 pc i len yX11_told 2 (some .int) := ⟨cX11_told, rfl, x_il_ok bX11_told dX11_told k hk⟩
set_option maxHeartbeats 4000000 in
set_option maxRecDepth 100000 in
theorem k_X11_told {sk : xK} {base d n sl : Nat} {SH : Nat → Nat × Nat} {FI : Nat → Nat → Int32} {FL : Nat → Nat → Int64} {FR : Nat → Nat → Option Nat} (hS : h_S n SH) (hF : h_FR FR) (hI : g_I FI) (hR : g_R n SH FR) (a1 : Int32) : hw sk base d none 140 0 [(0, .ref (base + 0)), (1, .int (a1))] [] (n, sl, SH, FI, FL, FR) (h_I (fun r s => s = (n, sl, SH, FI, FL, FR))) := by
  have rg_a1 := i_rng a1
  refine xw_iloadn (aX11_told 0 rfl) rfl ?_
  refine hw_iflt (tgt := 13) (aX11_told 1 rfl) (by decide) rfl (fun cd1 => ?_) (fun cd1 => ?_)
  · refine hw_ic (v := ((-1) : Int32)) (aX11_told 7 rfl) (by decide) ?_
    refine xw_goto (tgt := 23) (aX11_told 8 rfl) (by decide) ?_
    refine xw_iret (aX11_told 13 rfl) rfl rfl ?_
    have e2 : (((-1) : Int32)).toInt = (-1) := (by decide : ((-1) : Int32).toInt = (-1))
    exact ⟨((-1) : Int32), rfl, rfl⟩
  · refine xw_iloadn (aX11_told 2 rfl) rfl ?_
    refine hw_aloadn (aX11_told 3 rfl) rfl ?_
    refine hw_get (v := .ref (base + 21)) (aX11_told 4 rfl) wf_RX11_23 (c0 hS) (s0 hS) (by decide) (congrArg (fun r => va_rf (h_rf base r)) (r0_8 hF)) ?_
    refine hw_alen (k := 0) (z := 4) (v := (4 : Int32)) (aX11_told 5 rfl) (c21 hS) (s21 hS) (by decide) (by decide) ?_
    refine hw_iclt (tgt := 17) (aX11_told 6 rfl) (by decide) rfl (by decide : (4 : Int32).toInt = 4) (fun cd3 => ?_) (fun cd3 => ?_)
    · refine hw_aloadn (aX11_told 9 rfl) rfl ?_
      refine hw_get (v := .ref (base + 21)) (aX11_told 10 rfl) wf_RX11_23 (c0 hS) (s0 hS) (by decide) (congrArg (fun r => va_rf (h_rf base r)) (r0_8 hF)) ?_
      refine xw_iloadn (aX11_told 11 rfl) rfl ?_
      obtain ⟨x4, h5⟩ : ∃ y, FI 21 (a1).toNatClampNeg = y := ⟨_, rfl⟩
      have h5l := congrArg Int32.toInt h5
      have := i_rng x4
      refine hw_iald (v := x4) (aX11_told 12 rfl) (c21 hS) (s21 hS) (h_in rfl (by omega) (by omega)) (show FI 21 (a1).toNatClampNeg = x4 from h5) ?_
      refine xw_iret (aX11_told 13 rfl) rfl rfl ?_
      exact ⟨x4, rfl, rfl⟩
    · refine hw_ic (v := ((-1) : Int32)) (aX11_told 7 rfl) (by decide) ?_
      refine xw_goto (tgt := 23) (aX11_told 8 rfl) (by decide) ?_
      refine xw_iret (aX11_told 13 rfl) rfl rfl ?_
      have e6 : (((-1) : Int32)).toInt = (-1) := (by decide : ((-1) : Int32).toInt = (-1))
      exact ⟨((-1) : Int32), rfl, rfl⟩
def nX11_part : Nat := 0xad85cf00b665cd0014851c2dad85ca00b42dad85c700b42dadc500b42dad85c000b42d2f00000029000000240000001e00000003000000000000003500000000aa1c4e321bbc00b40a00b42aadab00140700a1b800b60a00b42a1b0e009b1b
theorem bX11_part : cX11_part.data.toList.map UInt8.toNat = x_un nX11_part 95 := by decide +kernel
def iX11_part : List (Nat × Jvm.ClassFile.Instr × Nat) := [(0, .iload_n 1, 1), (1, .ifCond .lt 14, 3), (4, .iload_n 1, 1), (5, .aload_n 0, 1), (6, .getfield 10, 3), (9, .invokevirtual 184, 3), (12, .if_icmp .lt 7, 3), (15, .ldc2_w 171, 3), (18, .lreturn, 1), (19, .aload_n 0, 1), (20, .getfield 10, 3), (23, .getfield 188, 3), (26, .iload_n 1, 1), (27, .aaload, 1), (28, .astore_n 3, 1), (29, .iload_n 2, 1), (60, .aload_n 3, 1), (61, .getfield 192, 3), (64, .i2l, 1), (65, .lreturn, 1), (66, .aload_n 3, 1), (67, .getfield 197, 3), (70, .lreturn, 1), (71, .aload_n 3, 1), (72, .getfield 199, 3), (75, .i2l, 1), (76, .lreturn, 1), (77, .aload_n 3, 1), (78, .getfield 202, 3), (81, .i2l, 1), (82, .lreturn, 1), (83, .aload_n 3, 1), (84, .iload_n 2, 1), (85, .i2l, 1), (86, .ldc2_w 205, 3), (89, .lsub, 1), (90, .invokevirtual 207, 3), (93, .i2l, 1), (94, .lreturn, 1)]
theorem dX11_part : x_il nX11_part 95 iX11_part = true := by decide +kernel
theorem aX11_part (k : Nat) {pc : Nat} {i : Jvm.ClassFile.Instr} {len : Nat} (hk : iX11_part[k]? = some (pc, i, len)) : x_at xMM 142 pc i len yX11_part 4 (some .long) := ⟨cX11_part, rfl, x_il_ok bX11_part dX11_part k hk⟩
theorem aX11_part_30 : x_at xMM 142 30 (.tableswitch 53 0 3 #[30, 36, 41, 47]) 30 yX11_part 4 (some .long) := ⟨cX11_part, rfl, by decide +kernel⟩
set_option maxHeartbeats 4000000 in
set_option maxRecDepth 100000 in
theorem k_X11_part {sk : xK} {base d n sl : Nat} {SH : Nat → Nat × Nat} {FI : Nat → Nat → Int32} {FL : Nat → Nat → Int64} {FR : Nat → Nat → Option Nat} (hS : h_S n SH) (hF : h_FR FR) (hI : g_I FI) (hR : g_R n SH FR) (a1 : Int32) (a2 : Int32) : hw sk base (d + 2) none 142 0 [(0, .ref (base + 0)), (1, .int (a1)), (2, .int (a2))] [] (n, sl, SH, FI, FL, FR) (h_J (fun r s => s = (n, sl, SH, FI, FL, FR))) := by
  have rg_a1 := i_rng a1
  have rg_a2 := i_rng a2
  refine xw_iloadn (aX11_part 0 rfl) rfl ?_
  refine hw_iflt (tgt := 15) (aX11_part 1 rfl) (by decide) rfl (fun cd1 => ?_) (fun cd1 => ?_)
  · refine xw_ldc2 (aX11_part 7 rfl) wk_RX11_171 ?_
    refine xw_lret (aX11_part 8 rfl) rfl ?_
    have e2 : (((-1) : Int64)).toInt = (-1) := (by decide : ((-1) : Int64).toInt = (-1))
    exact ⟨((-1) : Int64), rfl, rfl⟩
  · refine xw_iloadn (aX11_part 2 rfl) rfl ?_
    refine hw_aloadn (aX11_part 3 rfl) rfl ?_
    refine hw_get (v := .ref (base + 1)) (aX11_part 4 rfl) wf_RX11_10 (c0 hS) (s0 hS) (by decide) (congrArg (fun r => va_rf (h_rf base r)) (r0_5 hF)) ?_
    refine hw_callV (Bs := []) (rest := [.int (a1)]) (aX11_part 5 rfl) wc_RX11_184 (by decide) rfl wi_yX8_count wv_yX8_count (c1 hS) (s1 hS) rfl rfl rfl (Nat.le_of_ble_eq_true rfl) (Nat.le_of_ble_eq_true rfl) (k_X8_count (d := d + 1) hS hF hI hR (1) (c1 hS) (s1 hS) (Or.inl (by decide)) ) (fun v3 sv4 p5 => ?_)
    obtain ⟨x13, h14⟩ : ∃ y, FI 1 1 = y := ⟨_, rfl⟩
    have h14l := congrArg Int32.toInt h14
    have b15 := gI_1_1 hI; rw [h14] at b15
    have := congrArg Int32.toInt (show FI 1 1 = x13 from h14)
    obtain ⟨r6, rfl, rfl, t10⟩ := p5
    have rg_r6 := i_rng r6
    show hw sk base _ _ _ _ _ [.int (r6), .int (a1)] _ _
    refine hw_iclt (tgt := 19) (aX11_part 6 rfl) (by decide) rfl rfl (fun cd16 => ?_) (fun cd16 => ?_)
    · refine hw_aloadn (aX11_part 9 rfl) rfl ?_
      refine hw_get (v := .ref (base + 1)) (aX11_part 10 rfl) wf_RX11_10 (c0 hS) (s0 hS) (by decide) (congrArg (fun r => va_rf (h_rf base r)) (r0_5 hF)) ?_
      refine hw_get (v := .ref (base + 2)) (aX11_part 11 rfl) wf_RX11_188 (c1 hS) (s1 hS) (by decide) (congrArg (fun r => va_rf (h_rf base r)) (r1_0 hF)) ?_
      refine xw_iloadn (aX11_part 12 rfl) rfl ?_
      obtain ⟨o17, h18⟩ : ∃ y, FR 2 (a1).toNatClampNeg = y := ⟨_, rfl⟩
      have ht19 : ∀ r, o17 = some r → r < n ∧ own r ∧ SH r = (5, (SH r).2) := fun r e => gR_get hR (c2 hS) (Or.inl (by decide)) (s2 hS) (h18.trans e)
      refine hw_aald (k := 3) (v := o17) (aX11_part 13 rfl) (c2 hS) (s2 hS) (by decide) (by decide) (h_in rfl (by omega) (by omega)) (show FR 2 (a1).toNatClampNeg = o17 from h18) ?_
      obtain ⟨r20, rfl⟩ : ∃ r, o17 = some r := by obtain ⟨r, hr⟩ := g_th hS hF hR (c2 hS) (s2 hS) (i := (a1).toNatClampNeg) (i_lt (x := a1) rfl (by omega) (by omega)); exact ⟨r, (show _ = _ from h18).symm.trans hr⟩
      obtain ⟨lt22, ow23, sh24⟩ := ht19 r20 rfl
      show hw sk base _ _ _ _ [(0, .ref (base + 0)), (1, .int (a1)), (2, .int (a2))] [.ref (base + r20)] _ _
      refine hw_astoren (L2 := [(3, .ref (base + r20)), (0, .ref (base + 0)), (1, .int (a1)), (2, .int (a2))]) (aX11_part 14 rfl) (by decide) rfl ?_
      refine xw_iloadn (aX11_part 15 rfl) rfl ?_
      have hsw : ((a2).toInt < 0 ∨ 3 < (a2).toInt) ∨ ((a2).toInt = 0) ∨ ((a2).toInt = 1) ∨ ((a2).toInt = 2) ∨ ((a2).toInt = 3) := by omega
      rcases hsw with hsw | hsw | hsw | hsw | hsw
      · refine xw_tsw (tgt := 83) aX11_part_30 (Or.inl ⟨hsw, by decide⟩) ?_
        refine hw_aloadn (aX11_part 31 rfl) rfl ?_
        refine xw_iloadn (aX11_part 32 rfl) rfl ?_
        refine xw_i2l (aX11_part 33 rfl) ?_
        refine hw_tle (A := (a2).toInt) (i_2l rfl) (fun x25 e26 => ?_)
        refine xw_ldc2 (aX11_part 34 rfl) wk_RX11_205 ?_
        refine xw_lsub (aX11_part 35 rfl) ?_
        refine hw_tle (A := ((a2).toInt) - (100)) (l_sub e26 (by decide : (100 : Int64).toInt = 100) (by omega) (by omega)) (fun x27 e28 => ?_)
        refine hw_callV (Bs := [.long (x27)]) (rest := []) (aX11_part 36 rfl) wc_RX11_207 (by decide) rfl wi_yX5_blockByte wv_yX5_blockByte lt22 sh24 rfl rfl rfl (Nat.le_of_ble_eq_true rfl) (Nat.le_of_ble_eq_true rfl) (k_X5_blockByte (d := d) hS hF hI hR (r20) lt22 sh24 ow23 (x27) ) (fun v29 sv30 p31 => ?_)
        obtain ⟨r32, rfl, rfl⟩ := p31
        have rg_r32 := i_rng r32
        show hw sk base _ _ _ _ _ [.int (r32)] _ _
        refine xw_i2l (aX11_part 37 rfl) ?_
        refine hw_tle (A := (r32).toInt) (i_2l rfl) (fun x38 e39 => ?_)
        refine xw_lret (aX11_part 38 rfl) rfl ?_
        have e40 : (x38).toInt = (r32).toInt := e39
        exact ⟨x38, rfl, rfl⟩
      · refine xw_tsw (tgt := 60) aX11_part_30 (by exact Or.inr ⟨by omega, by omega, _, by rw [hsw]; rfl, by decide⟩) ?_
        refine hw_aloadn (aX11_part 16 rfl) rfl ?_
        obtain ⟨x41, h42⟩ : ∃ y, FI r20 0 = y := ⟨_, rfl⟩
        have h42l := congrArg Int32.toInt h42
        have := i_rng x41
        refine hw_get (v := .int (x41)) (aX11_part 17 rfl) wf_RX11_192 lt22 sh24 (by decide) (congrArg Value.int (show FI r20 0 = x41 from h42)) ?_
        refine xw_i2l (aX11_part 18 rfl) ?_
        refine hw_tle (A := (x41).toInt) (i_2l rfl) (fun x43 e44 => ?_)
        refine xw_lret (aX11_part 19 rfl) rfl ?_
        have e45 : (x43).toInt = (x41).toInt := e44
        exact ⟨x43, rfl, rfl⟩
      · refine xw_tsw (tgt := 66) aX11_part_30 (by exact Or.inr ⟨by omega, by omega, _, by rw [hsw]; rfl, by decide⟩) ?_
        refine hw_aloadn (aX11_part 20 rfl) rfl ?_
        obtain ⟨x46, h47⟩ : ∃ y, FL r20 1 = y := ⟨_, rfl⟩
        have h47l := congrArg Int64.toInt h47
        have := l_rng x46
        refine hw_get (v := .long (x46)) (aX11_part 21 rfl) wf_RX11_197 lt22 sh24 (by decide) (congrArg Value.long (show FL r20 1 = x46 from h47)) ?_
        refine xw_lret (aX11_part 22 rfl) rfl ?_
        exact ⟨x46, rfl, rfl⟩
      · refine xw_tsw (tgt := 71) aX11_part_30 (by exact Or.inr ⟨by omega, by omega, _, by rw [hsw]; rfl, by decide⟩) ?_
        refine hw_aloadn (aX11_part 23 rfl) rfl ?_
        obtain ⟨x48, h49⟩ : ∃ y, FI r20 2 = y := ⟨_, rfl⟩
        have h49l := congrArg Int32.toInt h49
        have := i_rng x48
        refine hw_get (v := .int (x48)) (aX11_part 24 rfl) wf_RX11_199 lt22 sh24 (by decide) (congrArg Value.int (show FI r20 2 = x48 from h49)) ?_
        refine xw_i2l (aX11_part 25 rfl) ?_
        refine hw_tle (A := (x48).toInt) (i_2l rfl) (fun x50 e51 => ?_)
        refine xw_lret (aX11_part 26 rfl) rfl ?_
        have e52 : (x50).toInt = (x48).toInt := e51
        exact ⟨x50, rfl, rfl⟩
      · refine xw_tsw (tgt := 77) aX11_part_30 (by exact Or.inr ⟨by omega, by omega, _, by rw [hsw]; rfl, by decide⟩) ?_
        refine hw_aloadn (aX11_part 27 rfl) rfl ?_
        obtain ⟨x53, h54⟩ : ∃ y, FI r20 3 = y := ⟨_, rfl⟩
        have h54l := congrArg Int32.toInt h54
        have := i_rng x53
        refine hw_get (v := .int (x53)) (aX11_part 28 rfl) wf_RX11_202 lt22 sh24 (by decide) (congrArg Value.int (show FI r20 3 = x53 from h54)) ?_
        refine xw_i2l (aX11_part 29 rfl) ?_
        refine hw_tle (A := (x53).toInt) (i_2l rfl) (fun x55 e56 => ?_)
        refine xw_lret (aX11_part 30 rfl) rfl ?_
        have e57 : (x55).toInt = (x53).toInt := e56
        exact ⟨x55, rfl, rfl⟩
    · refine xw_ldc2 (aX11_part 7 rfl) wk_RX11_171 ?_
      refine xw_lret (aX11_part 8 rfl) rfl ?_
      have e58 : (((-1) : Int64)).toInt = (-1) := (by decide : ((-1) : Int64).toInt = (-1))
      exact ⟨((-1) : Int64), rfl, rfl⟩
def nX11_out : Nat := 0xac2e1b1400b42a0900a7020700a1d700b42a1b0b009b1b
theorem bX11_out : cX11_out.data.toList.map UInt8.toNat = x_un nX11_out 23 := by decide +kernel
def iX11_out : List (Nat × Jvm.ClassFile.Instr × Nat) := [(0, .iload_n 1, 1), (1, .ifCond .lt 11, 3), (4, .iload_n 1, 1), (5, .aload_n 0, 1), (6, .getfield 215, 3), (9, .if_icmp .lt 7, 3), (12, .iconst (-1), 1), (13, .goto 9, 3), (16, .aload_n 0, 1), (17, .getfield 20, 3), (20, .iload_n 1, 1), (21, .iaload, 1), (22, .ireturn, 1)]
theorem dX11_out : x_il nX11_out 23 iX11_out = true := by decide +kernel
theorem aX11_out (k : Nat) {pc : Nat} {i : Jvm.ClassFile.Instr} {len : Nat} (hk : iX11_out[k]? = some (pc, i, len)) : x_at xMM 145 pc i len yX11_out 2 (some .int) := ⟨cX11_out, rfl, x_il_ok bX11_out dX11_out k hk⟩
set_option maxHeartbeats 4000000 in
set_option maxRecDepth 100000 in
theorem k_X11_out {sk : xK} {base d n sl : Nat} {SH : Nat → Nat × Nat} {FI : Nat → Nat → Int32} {FL : Nat → Nat → Int64} {FR : Nat → Nat → Option Nat} (hS : h_S n SH) (hF : h_FR FR) (hI : g_I FI) (hR : g_R n SH FR) (a1 : Int32) : hw sk base d none 145 0 [(0, .ref (base + 0)), (1, .int (a1))] [] (n, sl, SH, FI, FL, FR) (h_I (fun r s => s = (n, sl, SH, FI, FL, FR))) := by
  have rg_a1 := i_rng a1
  refine xw_iloadn (aX11_out 0 rfl) rfl ?_
  refine hw_iflt (tgt := 12) (aX11_out 1 rfl) (by decide) rfl (fun cd1 => ?_) (fun cd1 => ?_)
  · refine hw_ic (v := ((-1) : Int32)) (aX11_out 6 rfl) (by decide) ?_
    refine xw_goto (tgt := 22) (aX11_out 7 rfl) (by decide) ?_
    refine xw_iret (aX11_out 12 rfl) rfl rfl ?_
    have e2 : (((-1) : Int32)).toInt = (-1) := (by decide : ((-1) : Int32).toInt = (-1))
    exact ⟨((-1) : Int32), rfl, rfl⟩
  · refine xw_iloadn (aX11_out 2 rfl) rfl ?_
    refine hw_aloadn (aX11_out 3 rfl) rfl ?_
    obtain ⟨x3, h4⟩ : ∃ y, FI 0 10 = y := ⟨_, rfl⟩
    have h4l := congrArg Int32.toInt h4
    have b5 := gI_0_10 hI; rw [h4] at b5
    refine hw_get (v := .int (x3)) (aX11_out 4 rfl) wf_RX11_215 (c0 hS) (s0 hS) (by decide) (congrArg Value.int (show FI 0 10 = x3 from h4)) ?_
    refine hw_iclt (tgt := 16) (aX11_out 5 rfl) (by decide) rfl rfl (fun cd6 => ?_) (fun cd6 => ?_)
    · refine hw_aloadn (aX11_out 8 rfl) rfl ?_
      refine hw_get (v := .ref (base + 20)) (aX11_out 9 rfl) wf_RX11_20 (c0 hS) (s0 hS) (by decide) (congrArg (fun r => va_rf (h_rf base r)) (r0_7 hF)) ?_
      refine xw_iloadn (aX11_out 10 rfl) rfl ?_
      obtain ⟨x7, h8⟩ : ∃ y, FI 20 (a1).toNatClampNeg = y := ⟨_, rfl⟩
      have h8l := congrArg Int32.toInt h8
      have := i_rng x7
      refine hw_iald (v := x7) (aX11_out 11 rfl) (c20 hS) (s20 hS) (h_in rfl (by omega) (by omega)) (show FI 20 (a1).toNatClampNeg = x7 from h8) ?_
      refine xw_iret (aX11_out 12 rfl) rfl rfl ?_
      exact ⟨x7, rfl, rfl⟩
    · refine hw_ic (v := ((-1) : Int32)) (aX11_out 6 rfl) (by decide) ?_
      refine xw_goto (tgt := 22) (aX11_out 7 rfl) (by decide) ?_
      refine xw_iret (aX11_out 12 rfl) rfl rfl ?_
      have e9 : (((-1) : Int32)).toInt = (-1) := (by decide : ((-1) : Int32).toInt = (-1))
      exact ⟨((-1) : Int32), rfl, rfl⟩
def nX11_isVariable : Nat := 0xac030400a7040700a2be1c00b42a1b1000a2fd00b42a1b18009b1b
theorem bX11_isVariable : cX11_isVariable.data.toList.map UInt8.toNat = x_un nX11_isVariable 27 := by decide +kernel
def iX11_isVariable : List (Nat × Jvm.ClassFile.Instr × Nat) := [(0, .iload_n 1, 1), (1, .ifCond .lt 24, 3), (4, .iload_n 1, 1), (5, .aload_n 0, 1), (6, .getfield 253, 3), (9, .if_icmp .ge 16, 3), (12, .iload_n 1, 1), (13, .aload_n 0, 1), (14, .getfield 28, 3), (17, .arraylength, 1), (18, .if_icmp .ge 7, 3), (21, .iconst 1, 1), (22, .goto 4, 3), (25, .iconst 0, 1), (26, .ireturn, 1)]
theorem dX11_isVariable : x_il nX11_isVariable 27 iX11_isVariable = true := by decide +kernel
theorem aX11_isVariable (k : Nat) {pc : Nat} {i : Jvm.ClassFile.Instr} {len : Nat} (hk : iX11_isVariable[k]? = some (pc, i, len)) : x_at xMM 147 pc i len yX11_isVariable 2 (some .boolean) := ⟨cX11_isVariable, rfl, x_il_ok bX11_isVariable dX11_isVariable k hk⟩
set_option maxHeartbeats 4000000 in
set_option maxRecDepth 100000 in
theorem k_X11_isVariable {sk : xK} {base d n sl : Nat} {SH : Nat → Nat × Nat} {FI : Nat → Nat → Int32} {FL : Nat → Nat → Int64} {FR : Nat → Nat → Option Nat} (hS : h_S n SH) (hF : h_FR FR) (hI : g_I FI) (hR : g_R n SH FR) (a1 : Int32) : hw sk base d none 147 0 [(0, .ref (base + 0)), (1, .int (a1))] [] (n, sl, SH, FI, FL, FR) (h_I (fun r s => s = (n, sl, SH, FI, FL, FR) ∧ (0 ≤ r.toInt ∧ r.toInt ≤ 1))) := by
  have rg_a1 := i_rng a1
  refine xw_iloadn (aX11_isVariable 0 rfl) rfl ?_
  refine hw_iflt (tgt := 25) (aX11_isVariable 1 rfl) (by decide) rfl (fun cd1 => ?_) (fun cd1 => ?_)
  · refine hw_ic (v := (0 : Int32)) (aX11_isVariable 13 rfl) (by decide) ?_
    refine xw_iret (aX11_isVariable 14 rfl) rfl (by decide) ?_
    have e2 : ((0 : Int32)).toInt = 0 := (by decide : (0 : Int32).toInt = 0)
    exact ⟨(0 : Int32), rfl, rfl, (by have : ((0 : Int32)).toInt = 0 := (by decide); omega)⟩
  · refine xw_iloadn (aX11_isVariable 2 rfl) rfl ?_
    refine hw_aloadn (aX11_isVariable 3 rfl) rfl ?_
    obtain ⟨x3, h4⟩ : ∃ y, FI 0 12 = y := ⟨_, rfl⟩
    have h4l := congrArg Int32.toInt h4
    have b5 := gI_0_12 hI; rw [h4] at b5
    refine hw_get (v := .int (x3)) (aX11_isVariable 4 rfl) wf_RX11_253 (c0 hS) (s0 hS) (by decide) (congrArg Value.int (show FI 0 12 = x3 from h4)) ?_
    refine hw_icge (tgt := 25) (aX11_isVariable 5 rfl) (by decide) rfl rfl (fun cd6 => ?_) (fun cd6 => ?_)
    · refine hw_ic (v := (0 : Int32)) (aX11_isVariable 13 rfl) (by decide) ?_
      refine xw_iret (aX11_isVariable 14 rfl) rfl (by decide) ?_
      have e7 : ((0 : Int32)).toInt = 0 := (by decide : (0 : Int32).toInt = 0)
      exact ⟨(0 : Int32), rfl, rfl, (by have : ((0 : Int32)).toInt = 0 := (by decide); omega)⟩
    · refine xw_iloadn (aX11_isVariable 6 rfl) rfl ?_
      refine hw_aloadn (aX11_isVariable 7 rfl) rfl ?_
      obtain ⟨o8, h9⟩ : ∃ y, FR 0 11 = y := ⟨_, rfl⟩
      have ht10 : ∀ r, o8 = some r → r < n ∧ own r ∧ SH r = (104, (SH r).2) := fun r e => gR_get hR (c0 hS) (Or.inl (by decide)) (s0 hS) (h9.trans e)
      obtain ⟨r11, rfl⟩ := gR_nn hR (by unfold g_nn; omega) h9
      obtain ⟨lt12, ow13, sh14⟩ := ht10 r11 rfl
      refine hw_get (v := .ref (base + r11)) (aX11_isVariable 8 rfl) wf_RX11_28 (c0 hS) (s0 hS) (by decide) (congrArg (fun r => va_rf (h_rf base r)) (show FR 0 11 = some r11 from h9)) ?_
      obtain ⟨x15, h16⟩ : ∃ y, Int32.ofNat (SH r11).2 = y := ⟨_, rfl⟩
      have b17 : (x15).toInt ≤ (((SH r11).2 : Nat) : Int) := by rw [← h16]; exact i_len
      have := i_rng x15
      refine hw_alen (k := 4) (v := x15) (aX11_isVariable 9 rfl) lt12 sh14 (by decide) h16 ?_
      refine hw_icge (tgt := 25) (aX11_isVariable 10 rfl) (by decide) rfl rfl (fun cd18 => ?_) (fun cd18 => ?_)
      · refine hw_ic (v := (0 : Int32)) (aX11_isVariable 13 rfl) (by decide) ?_
        refine xw_iret (aX11_isVariable 14 rfl) rfl (by decide) ?_
        have e19 : ((0 : Int32)).toInt = 0 := (by decide : (0 : Int32).toInt = 0)
        exact ⟨(0 : Int32), rfl, rfl, (by have : ((0 : Int32)).toInt = 0 := (by decide); omega)⟩
      · refine hw_ic (v := (1 : Int32)) (aX11_isVariable 11 rfl) (by decide) ?_
        refine xw_goto (tgt := 26) (aX11_isVariable 12 rfl) (by decide) ?_
        refine xw_iret (aX11_isVariable 14 rfl) rfl (by decide) ?_
        have e20 : ((1 : Int32)).toInt = 1 := (by decide : (1 : Int32).toInt = 1)
        exact ⟨(1 : Int32), rfl, rfl, (by have : ((1 : Int32)).toInt = 1 := (by decide); omega)⟩
def nX0_putUnary : Nat := 0xb10300a73e00b6886300b42b2a3e00b69400112a1600a73e00b606102a0c009a947800146300b42b2a00a73e00b69b00112a3400a73e00b620102a3d00a73e00b61f102a350000007e0000002c0000002d0000003e0000000e0000004800000006000000040000006f000000000000ab6000b42b
theorem bX0_putUnary : cX0_putUnary.data.toList.map UInt8.toNat = x_un nX0_putUnary 116 := by decide +kernel
def iX0_putUnary : List (Nat × Jvm.ClassFile.Instr × Nat) := [(0, .aload_n 1, 1), (1, .getfield 96, 3), (48, .aload_n 0, 1), (49, .bipush 31, 2), (51, .invokevirtual 62, 3), (54, .goto 61, 3), (57, .aload_n 0, 1), (58, .bipush 32, 2), (60, .invokevirtual 62, 3), (63, .goto 52, 3), (66, .aload_n 0, 1), (67, .sipush 155, 3), (70, .invokevirtual 62, 3), (73, .goto 42, 3), (76, .aload_n 1, 1), (77, .getfield 99, 3), (80, .ldc2_w 120, 3), (83, .lcmp, 1), (84, .ifCond .ne 12, 3), (87, .aload_n 0, 1), (88, .bipush 6, 2), (90, .invokevirtual 62, 3), (93, .goto 22, 3), (96, .aload_n 0, 1), (97, .sipush 148, 3), (100, .invokevirtual 62, 3), (103, .aload_n 0, 1), (104, .aload_n 1, 1), (105, .getfield 99, 3), (108, .l2i, 1), (109, .invokevirtual 62, 3), (112, .goto 3, 3), (115, .return_, 1)]
theorem dX0_putUnary : x_il nX0_putUnary 116 iX0_putUnary = true := by decide +kernel
theorem aX0_putUnary (k : Nat) {pc : Nat} {i : Jvm.ClassFile.Instr} {len : Nat} (hk : iX0_putUnary[k]? = some (pc, i, len)) : x_at xMM 7 pc i len yX0_putUnary 2 none := ⟨cX0_putUnary, rfl, x_il_ok bX0_putUnary dX0_putUnary k hk⟩
theorem aX0_putUnary_4 : x_at xMM 7 4 (.lookupswitch 111 #[(6, 72), (14, 62), (45, 44), (126, 53)]) 44 yX0_putUnary 2 none := ⟨cX0_putUnary, rfl, by decide +kernel⟩
set_option maxHeartbeats 4000000 in
set_option maxRecDepth 100000 in
theorem k_X0_putUnary {sk : xK} {base d n sl : Nat} {SH : Nat → Nat × Nat} {FI : Nat → Nat → Int32} {FL : Nat → Nat → Int64} {FR : Nat → Nat → Option Nat} (hS : h_S n SH) (hF : h_FR FR) (hI : g_I FI) (hR : g_R n SH FR) (a1 : Nat) {z1 : Nat} (ha1l : a1 < n) (ha1s : SH a1 = (3, z1)) (ha1o : own a1) (g0 : (FI 119 1).toInt ≤ 1999999998) : hw sk base (d + 1) none 7 0 [(0, .ref (base + 119)), (1, .ref (base + a1))] [] (n, sl, SH, FI, FL, FR) (h_V (fun s => ∃ FI', s = (n, sl, SH, FI', FL, FR) ∧ g_I FI' ∧ g_fr n (shd SH) [(119, 1)] [120] [] FI FI' ∧ ((FI' 119 1).toInt ≤ (FI 119 1).toInt + 2) ∧ ((FI 119 1).toInt ≤ (FI' 119 1).toInt))) := by
  obtain ⟨x1, h2⟩ : ∃ y, FI 119 1 = y := ⟨_, rfl⟩
  have h2l := congrArg Int32.toInt h2
  have b3 := gI_119_1 hI; rw [h2] at b3
  refine hw_aloadn (aX0_putUnary 0 rfl) rfl ?_
  obtain ⟨x4, h5⟩ : ∃ y, FI a1 0 = y := ⟨_, rfl⟩
  have h5l := congrArg Int32.toInt h5
  have := i_rng x4
  refine hw_get (v := .int (x4)) (aX0_putUnary 1 rfl) wf_RX0_96 ha1l ha1s (by decide) (congrArg Value.int (show FI a1 0 = x4 from h5)) ?_
  have hsw : ((x4).toInt ≠ 6 ∧ (x4).toInt ≠ 14 ∧ (x4).toInt ≠ 45 ∧ (x4).toInt ≠ 126) ∨ ((x4).toInt = 6) ∨ ((x4).toInt = 14) ∨ ((x4).toInt = 45) ∨ ((x4).toInt = 126) := by omega
  rcases hsw with hsw | hsw | hsw | hsw | hsw
  · refine xw_lsw (tgt := 115) aX0_putUnary_4 (by decide) (by show (4 : Int) + Jvm.Op.lookupswitch.offset [(6, 72), (14, 62), (45, 44), (126, 53)] (111) (x4).toInt = 115; simp only [Jvm.Op.lookupswitch.offset]; rw [if_neg (by omega), if_neg (by omega), if_neg (by omega), if_neg (by omega)]; rfl) ?_
    clear hsw
    refine xw_vret (aX0_putUnary 32 rfl) rfl ?_
    exact ⟨rfl, FI, rfl, hI, gf_rf, (by have := congrArg Int32.toInt (show FI 119 1 = x1 from h2); omega), (by have := congrArg Int32.toInt (show FI 119 1 = x1 from h2); omega)⟩
  · refine xw_lsw (tgt := 76) aX0_putUnary_4 (by decide) (by rw [hsw]; decide) ?_
    refine hw_aloadn (aX0_putUnary 14 rfl) rfl ?_
    obtain ⟨x6, h7⟩ : ∃ y, FL a1 1 = y := ⟨_, rfl⟩
    have h7l := congrArg Int64.toInt h7
    have := l_rng x6
    refine hw_get (v := .long (x6)) (aX0_putUnary 15 rfl) wf_RX0_99 ha1l ha1s (by decide) (congrArg Value.long (show FL a1 1 = x6 from h7)) ?_
    refine xw_ldc2 (aX0_putUnary 16 rfl) wk_RX0_120 ?_
    refine hw_lcne (tgt := 96) (aX0_putUnary 17 rfl) (aX0_putUnary 18 rfl) (by decide) rfl (by decide : (8 : Int64).toInt = 8) (fun cd8 => ?_) (fun cd8 => ?_)
    · refine hw_aloadn (aX0_putUnary 23 rfl) rfl ?_
      refine hw_sp (v := (148 : Int32)) (aX0_putUnary 24 rfl) (by decide) ?_
      refine hw_callV (Bs := [.int ((148 : Int32))]) (rest := []) (aX0_putUnary 25 rfl) wc_RX0_62 (by decide) rfl wi_yX0_put wv_yX0_put (c119 hS) (s119 hS) rfl rfl rfl (Nat.le_of_ble_eq_true rfl) (Nat.le_of_ble_eq_true rfl) (k_X0_put (d := d) hS hF hI hR ((148 : Int32)) (by have := congrArg Int32.toInt (show FI 119 1 = x1 from h2); omega)) (fun v9 sv10 p11 => ?_)
      have := congrArg Int32.toInt (show FI 119 1 = x1 from h2)
      obtain ⟨rfl, FI13, rfl, hI14, f15, t18⟩ := p11
      obtain ⟨x21, h22⟩ : ∃ y, FI13 119 1 = y := ⟨_, rfl⟩
      have h22l := congrArg Int32.toInt h22
      have b23 := gI_119_1 hI14; rw [h22] at b23
      show hw sk base _ _ _ _ _ [] _ _
      refine hw_aloadn (aX0_putUnary 26 rfl) rfl ?_
      refine hw_aloadn (aX0_putUnary 27 rfl) rfl ?_
      refine hw_get (v := .long (x6)) (aX0_putUnary 28 rfl) wf_RX0_99 ha1l ha1s (by decide) (congrArg Value.long (show FL a1 1 = x6 from h7)) ?_
      refine xw_l2i (aX0_putUnary 29 rfl) ?_
      refine hw_ti (fun x24 => ?_)
      have b25 := i_rng x24
      refine hw_callV (Bs := [.int (x24)]) (rest := []) (aX0_putUnary 30 rfl) wc_RX0_62 (by decide) rfl wi_yX0_put wv_yX0_put (c119 hS) (s119 hS) rfl rfl rfl (Nat.le_of_ble_eq_true rfl) (Nat.le_of_ble_eq_true rfl) (k_X0_put (d := d) hS hF hI14 hR (x24) (by have := congrArg Int32.toInt (show FI13 119 1 = x21 from h22); omega)) (fun v26 sv27 p28 => ?_)
      have := congrArg Int32.toInt (show FI13 119 1 = x21 from h22)
      obtain ⟨rfl, FI30, rfl, hI31, f32, t35⟩ := p28
      obtain ⟨x38, h39⟩ : ∃ y, FI30 119 1 = y := ⟨_, rfl⟩
      have h39l := congrArg Int32.toInt h39
      have b40 := gI_119_1 hI31; rw [h39] at b40
      show hw sk base _ _ _ _ _ [] _ _
      refine xw_goto (tgt := 115) (aX0_putUnary 31 rfl) (by decide) ?_
      refine xw_vret (aX0_putUnary 32 rfl) rfl ?_
      exact ⟨rfl, FI30, rfl, hI31, (gf_tr ex_rf (gf_tr ex_rf gf_rf f15 rfl rfl rfl) f32 rfl rfl rfl), (by have := congrArg Int32.toInt (show FI30 119 1 = x38 from h39); omega), (by have := congrArg Int32.toInt (show FI30 119 1 = x38 from h39); omega)⟩
    · refine hw_aloadn (aX0_putUnary 19 rfl) rfl ?_
      refine hw_bp (v := (6 : Int32)) (aX0_putUnary 20 rfl) (by decide) ?_
      refine hw_callV (Bs := [.int ((6 : Int32))]) (rest := []) (aX0_putUnary 21 rfl) wc_RX0_62 (by decide) rfl wi_yX0_put wv_yX0_put (c119 hS) (s119 hS) rfl rfl rfl (Nat.le_of_ble_eq_true rfl) (Nat.le_of_ble_eq_true rfl) (k_X0_put (d := d) hS hF hI hR ((6 : Int32)) (by have := congrArg Int32.toInt (show FI 119 1 = x1 from h2); omega)) (fun v41 sv42 p43 => ?_)
      have := congrArg Int32.toInt (show FI 119 1 = x1 from h2)
      obtain ⟨rfl, FI45, rfl, hI46, f47, t50⟩ := p43
      obtain ⟨x53, h54⟩ : ∃ y, FI45 119 1 = y := ⟨_, rfl⟩
      have h54l := congrArg Int32.toInt h54
      have b55 := gI_119_1 hI46; rw [h54] at b55
      show hw sk base _ _ _ _ _ [] _ _
      refine xw_goto (tgt := 115) (aX0_putUnary 22 rfl) (by decide) ?_
      refine xw_vret (aX0_putUnary 32 rfl) rfl ?_
      exact ⟨rfl, FI45, rfl, hI46, (gf_tr ex_rf gf_rf f47 rfl rfl rfl), (by have := congrArg Int32.toInt (show FI45 119 1 = x53 from h54); omega), (by have := congrArg Int32.toInt (show FI45 119 1 = x53 from h54); omega)⟩
  · refine xw_lsw (tgt := 66) aX0_putUnary_4 (by decide) (by rw [hsw]; decide) ?_
    refine hw_aloadn (aX0_putUnary 10 rfl) rfl ?_
    refine hw_sp (v := (155 : Int32)) (aX0_putUnary 11 rfl) (by decide) ?_
    refine hw_callV (Bs := [.int ((155 : Int32))]) (rest := []) (aX0_putUnary 12 rfl) wc_RX0_62 (by decide) rfl wi_yX0_put wv_yX0_put (c119 hS) (s119 hS) rfl rfl rfl (Nat.le_of_ble_eq_true rfl) (Nat.le_of_ble_eq_true rfl) (k_X0_put (d := d) hS hF hI hR ((155 : Int32)) (by have := congrArg Int32.toInt (show FI 119 1 = x1 from h2); omega)) (fun v56 sv57 p58 => ?_)
    have := congrArg Int32.toInt (show FI 119 1 = x1 from h2)
    obtain ⟨rfl, FI60, rfl, hI61, f62, t65⟩ := p58
    obtain ⟨x68, h69⟩ : ∃ y, FI60 119 1 = y := ⟨_, rfl⟩
    have h69l := congrArg Int32.toInt h69
    have b70 := gI_119_1 hI61; rw [h69] at b70
    show hw sk base _ _ _ _ _ [] _ _
    refine xw_goto (tgt := 115) (aX0_putUnary 13 rfl) (by decide) ?_
    refine xw_vret (aX0_putUnary 32 rfl) rfl ?_
    exact ⟨rfl, FI60, rfl, hI61, (gf_tr ex_rf gf_rf f62 rfl rfl rfl), (by have := congrArg Int32.toInt (show FI60 119 1 = x68 from h69); omega), (by have := congrArg Int32.toInt (show FI60 119 1 = x68 from h69); omega)⟩
  · refine xw_lsw (tgt := 48) aX0_putUnary_4 (by decide) (by rw [hsw]; decide) ?_
    refine hw_aloadn (aX0_putUnary 2 rfl) rfl ?_
    refine hw_bp (v := (31 : Int32)) (aX0_putUnary 3 rfl) (by decide) ?_
    refine hw_callV (Bs := [.int ((31 : Int32))]) (rest := []) (aX0_putUnary 4 rfl) wc_RX0_62 (by decide) rfl wi_yX0_put wv_yX0_put (c119 hS) (s119 hS) rfl rfl rfl (Nat.le_of_ble_eq_true rfl) (Nat.le_of_ble_eq_true rfl) (k_X0_put (d := d) hS hF hI hR ((31 : Int32)) (by have := congrArg Int32.toInt (show FI 119 1 = x1 from h2); omega)) (fun v71 sv72 p73 => ?_)
    have := congrArg Int32.toInt (show FI 119 1 = x1 from h2)
    obtain ⟨rfl, FI75, rfl, hI76, f77, t80⟩ := p73
    obtain ⟨x83, h84⟩ : ∃ y, FI75 119 1 = y := ⟨_, rfl⟩
    have h84l := congrArg Int32.toInt h84
    have b85 := gI_119_1 hI76; rw [h84] at b85
    show hw sk base _ _ _ _ _ [] _ _
    refine xw_goto (tgt := 115) (aX0_putUnary 5 rfl) (by decide) ?_
    refine xw_vret (aX0_putUnary 32 rfl) rfl ?_
    exact ⟨rfl, FI75, rfl, hI76, (gf_tr ex_rf gf_rf f77 rfl rfl rfl), (by have := congrArg Int32.toInt (show FI75 119 1 = x83 from h84); omega), (by have := congrArg Int32.toInt (show FI75 119 1 = x83 from h84); omega)⟩
  · refine xw_lsw (tgt := 57) aX0_putUnary_4 (by decide) (by rw [hsw]; decide) ?_
    refine hw_aloadn (aX0_putUnary 6 rfl) rfl ?_
    refine hw_bp (v := (32 : Int32)) (aX0_putUnary 7 rfl) (by decide) ?_
    refine hw_callV (Bs := [.int ((32 : Int32))]) (rest := []) (aX0_putUnary 8 rfl) wc_RX0_62 (by decide) rfl wi_yX0_put wv_yX0_put (c119 hS) (s119 hS) rfl rfl rfl (Nat.le_of_ble_eq_true rfl) (Nat.le_of_ble_eq_true rfl) (k_X0_put (d := d) hS hF hI hR ((32 : Int32)) (by have := congrArg Int32.toInt (show FI 119 1 = x1 from h2); omega)) (fun v86 sv87 p88 => ?_)
    have := congrArg Int32.toInt (show FI 119 1 = x1 from h2)
    obtain ⟨rfl, FI90, rfl, hI91, f92, t95⟩ := p88
    obtain ⟨x98, h99⟩ : ∃ y, FI90 119 1 = y := ⟨_, rfl⟩
    have h99l := congrArg Int32.toInt h99
    have b100 := gI_119_1 hI91; rw [h99] at b100
    show hw sk base _ _ _ _ _ [] _ _
    refine xw_goto (tgt := 115) (aX0_putUnary 9 rfl) (by decide) ?_
    refine xw_vret (aX0_putUnary 32 rfl) rfl ?_
    exact ⟨rfl, FI90, rfl, hI91, (gf_tr ex_rf gf_rf f92 rfl rfl rfl), (by have := congrArg Int32.toInt (show FI90 119 1 = x98 from h99); omega), (by have := congrArg Int32.toInt (show FI90 119 1 = x98 from h99); omega)⟩
def nX9_check : Nat := 0xac030400a7060700a28f00b61b2a3e00b42aac0d100600998c00b61b2a0e00a09d00111b0a009f9300111bac0a1006009e948a00146000b42a0e009b940a6000b42a1a00a09400111bac0e1006009b948800146000b42a0e009b94096000b42a1a00a09200111b0a009f9000111bac091006009a8200b81b0d00997f00b41200b42a
theorem bX9_check : cX9_check.data.toList.map UInt8.toNat = x_un nX9_check 130 := by decide +kernel
def iX9_check : List (Nat × Jvm.ClassFile.Instr × Nat) := [(0, .aload_n 0, 1), (1, .getfield 18, 3), (4, .getfield 127, 3), (7, .ifCond .eq 13, 3), (10, .iload_n 1, 1), (11, .invokestatic 130, 3), (14, .ifCond .ne 6, 3), (17, .bipush 9, 2), (19, .ireturn, 1), (20, .iload_n 1, 1), (21, .sipush 144, 3), (24, .if_icmp .eq 10, 3), (27, .iload_n 1, 1), (28, .sipush 146, 3), (31, .if_icmp .ne 26, 3), (34, .aload_n 0, 1), (35, .getfield 96, 3), (38, .lconst 0, 1), (39, .lcmp, 1), (40, .ifCond .lt 14, 3), (43, .aload_n 0, 1), (44, .getfield 96, 3), (47, .ldc2_w 136, 3), (50, .lcmp, 1), (51, .ifCond .lt 6, 3), (54, .bipush 14, 2), (56, .ireturn, 1), (57, .iload_n 1, 1), (58, .sipush 148, 3), (61, .if_icmp .ne 26, 3), (64, .aload_n 0, 1), (65, .getfield 96, 3), (68, .lconst 1, 1), (69, .lcmp, 1), (70, .ifCond .lt 14, 3), (73, .aload_n 0, 1), (74, .getfield 96, 3), (77, .ldc2_w 138, 3), (80, .lcmp, 1), (81, .ifCond .le 6, 3), (84, .bipush 10, 2), (86, .ireturn, 1), (87, .iload_n 1, 1), (88, .sipush 147, 3), (91, .if_icmp .eq 10, 3), (94, .iload_n 1, 1), (95, .sipush 157, 3), (98, .if_icmp .ne 14, 3), (101, .aload_n 0, 1), (102, .iload_n 1, 1), (103, .invokevirtual 140, 3), (106, .ifCond .eq 6, 3), (109, .bipush 13, 2), (111, .ireturn, 1), (112, .aload_n 0, 1), (113, .getfield 62, 3), (116, .aload_n 0, 1), (117, .iload_n 1, 1), (118, .invokevirtual 143, 3), (121, .if_icmp .ge 7, 3), (124, .iconst 3, 1), (125, .goto 4, 3), (128, .iconst 0, 1), (129, .ireturn, 1)]
theorem dX9_check : x_il nX9_check 130 iX9_check = true := by decide +kernel
theorem aX9_check (k : Nat) {pc : Nat} {i : Jvm.ClassFile.Instr} {len : Nat} (hk : iX9_check[k]? = some (pc, i, len)) : x_at xMM 93 pc i len yX9_check 2 (some .int) := ⟨cX9_check, rfl, x_il_ok bX9_check dX9_check k hk⟩
set_option maxHeartbeats 4000000 in
set_option maxRecDepth 100000 in
theorem k_X9_check {sk : xK} {base d n sl : Nat} {SH : Nat → Nat × Nat} {FI : Nat → Nat → Int32} {FL : Nat → Nat → Int64} {FR : Nat → Nat → Option Nat} (hS : h_S n SH) (hF : h_FR FR) (hI : g_I FI) (hR : g_R n SH FR) (c : Nat) {zc : Nat} (hc : c < n) (hsc : SH c = (9, zc)) (hoc : own c) (a1 : Int32) : hw sk base (d + 1) none 93 0 [(0, .ref (base + c)), (1, .int (a1))] [] (n, sl, SH, FI, FL, FR) (h_I (fun r s => s = (n, sl, SH, FI, FL, FR))) := by
  have rg_a1 := i_rng a1
  refine hw_aloadn (aX9_check 0 rfl) rfl ?_
  obtain ⟨r1, h2, lt3, ow4, sh5, fx6⟩ := g_nz (k := 3) (ty := 5) (zz := 0) hS hF hR hc hsc (by unfold g_dt; omega) (by decide +kernel)
  refine hw_get (v := .ref (base + r1)) (aX9_check 1 rfl) wf_RX9_18 hc hsc (by decide) (congrArg (fun r => va_rf (h_rf base r)) (show FR c 3 = some r1 from h2)) ?_
  obtain ⟨x7, h8⟩ : ∃ y, FI r1 0 = y := ⟨_, rfl⟩
  have h8l := congrArg Int32.toInt h8
  have := i_rng x7
  refine hw_get (v := .int (x7)) (aX9_check 2 rfl) wf_RX9_127 lt3 sh5 (by decide) (congrArg Value.int (show FI r1 0 = x7 from h8)) ?_
  refine hw_ifeq (tgt := 20) (aX9_check 3 rfl) (by decide) rfl (fun cd9 => ?_) (fun cd9 => ?_)
  · refine xw_iloadn (aX9_check 9 rfl) rfl ?_
    refine hw_sp (v := (144 : Int32)) (aX9_check 10 rfl) (by decide) ?_
    refine hw_iceq (tgt := 34) (aX9_check 11 rfl) (by decide) rfl (by decide : (144 : Int32).toInt = 144) (fun cd10 => ?_) (fun cd10 => ?_)
    · refine hw_aloadn (aX9_check 15 rfl) rfl ?_
      obtain ⟨x11, h12⟩ : ∃ y, FL c 12 = y := ⟨_, rfl⟩
      have h12l := congrArg Int64.toInt h12
      have := l_rng x11
      refine hw_get (v := .long (x11)) (aX9_check 16 rfl) wf_RX9_96 hc hsc (by decide) (congrArg Value.long (show FL c 12 = x11 from h12)) ?_
      refine hw_lc (v := (0 : Int64)) (aX9_check 17 rfl) (by decide) ?_
      refine hw_lclt (tgt := 54) (aX9_check 18 rfl) (aX9_check 19 rfl) (by decide) rfl (by decide : (0 : Int64).toInt = 0) (fun cd13 => ?_) (fun cd13 => ?_)
      · refine hw_bp (v := (14 : Int32)) (aX9_check 25 rfl) (by decide) ?_
        refine xw_iret (aX9_check 26 rfl) rfl rfl ?_
        have e14 : ((14 : Int32)).toInt = 14 := (by decide : (14 : Int32).toInt = 14)
        exact ⟨(14 : Int32), rfl, rfl⟩
      · refine hw_aloadn (aX9_check 20 rfl) rfl ?_
        refine hw_get (v := .long (x11)) (aX9_check 21 rfl) wf_RX9_96 hc hsc (by decide) (congrArg Value.long (show FL c 12 = x11 from h12)) ?_
        refine xw_ldc2 (aX9_check 22 rfl) wk_RX9_136 ?_
        refine hw_lclt (tgt := 57) (aX9_check 23 rfl) (aX9_check 24 rfl) (by decide) rfl (by decide : (32 : Int64).toInt = 32) (fun cd15 => ?_) (fun cd15 => ?_)
        · refine xw_iloadn (aX9_check 27 rfl) rfl ?_
          refine hw_sp (v := (148 : Int32)) (aX9_check 28 rfl) (by decide) ?_
          refine hw_icne (tgt := 87) (aX9_check 29 rfl) (by decide) rfl (by decide : (148 : Int32).toInt = 148) (fun cd16 => ?_) (fun cd16 => ?_)
          · refine xw_iloadn (aX9_check 42 rfl) rfl ?_
            refine hw_sp (v := (147 : Int32)) (aX9_check 43 rfl) (by decide) ?_
            refine hw_iceq (tgt := 101) (aX9_check 44 rfl) (by decide) rfl (by decide : (147 : Int32).toInt = 147) (fun cd17 => ?_) (fun cd17 => ?_)
            · omega
            · refine xw_iloadn (aX9_check 45 rfl) rfl ?_
              refine hw_sp (v := (157 : Int32)) (aX9_check 46 rfl) (by decide) ?_
              refine hw_icne (tgt := 112) (aX9_check 47 rfl) (by decide) rfl (by decide : (157 : Int32).toInt = 157) (fun cd18 => ?_) (fun cd18 => ?_)
              · refine hw_aloadn (aX9_check 54 rfl) rfl ?_
                obtain ⟨x19, h20⟩ : ∃ y, FI c 5 = y := ⟨_, rfl⟩
                have h20l := congrArg Int32.toInt h20
                have := i_rng x19
                have b21 := gI_s (k := 5) (lo := 0) (hi := 128) hI hS hR hc hsc (by unfold g_dt; omega) (by decide +kernel); rw [h20] at b21
                refine hw_get (v := .int (x19)) (aX9_check 55 rfl) wf_RX9_62 hc hsc (by decide) (congrArg Value.int (show FI c 5 = x19 from h20)) ?_
                refine hw_aloadn (aX9_check 56 rfl) rfl ?_
                refine xw_iloadn (aX9_check 57 rfl) rfl ?_
                refine hw_callV (Bs := [.int (a1)]) (rest := [.int (x19)]) (aX9_check 58 rfl) wc_RX9_143 (by decide) rfl wi_yX9_wanted wv_yX9_wanted hc hsc rfl rfl rfl (Nat.le_of_ble_eq_true rfl) (Nat.le_of_ble_eq_true rfl) (k_X9_wanted (d := d) hS hF hI hR (c) hc hsc hoc (a1) ) (fun v22 sv23 p24 => ?_)
                obtain ⟨r25, rfl, rfl⟩ := p24
                have rg_r25 := i_rng r25
                show hw sk base _ _ _ _ _ [.int (r25), .int (x19)] _ _
                refine hw_icge (tgt := 128) (aX9_check 59 rfl) (by decide) rfl rfl (fun cd31 => ?_) (fun cd31 => ?_)
                · refine hw_ic (v := (0 : Int32)) (aX9_check 62 rfl) (by decide) ?_
                  refine xw_iret (aX9_check 63 rfl) rfl rfl ?_
                  have e32 : ((0 : Int32)).toInt = 0 := (by decide : (0 : Int32).toInt = 0)
                  exact ⟨(0 : Int32), rfl, rfl⟩
                · refine hw_ic (v := (3 : Int32)) (aX9_check 60 rfl) (by decide) ?_
                  refine xw_goto (tgt := 129) (aX9_check 61 rfl) (by decide) ?_
                  refine xw_iret (aX9_check 63 rfl) rfl rfl ?_
                  have e33 : ((3 : Int32)).toInt = 3 := (by decide : (3 : Int32).toInt = 3)
                  exact ⟨(3 : Int32), rfl, rfl⟩
              · omega
          · omega
        · refine hw_bp (v := (14 : Int32)) (aX9_check 25 rfl) (by decide) ?_
          refine xw_iret (aX9_check 26 rfl) rfl rfl ?_
          have e34 : ((14 : Int32)).toInt = 14 := (by decide : (14 : Int32).toInt = 14)
          exact ⟨(14 : Int32), rfl, rfl⟩
    · refine xw_iloadn (aX9_check 12 rfl) rfl ?_
      refine hw_sp (v := (146 : Int32)) (aX9_check 13 rfl) (by decide) ?_
      refine hw_icne (tgt := 57) (aX9_check 14 rfl) (by decide) rfl (by decide : (146 : Int32).toInt = 146) (fun cd35 => ?_) (fun cd35 => ?_)
      · refine xw_iloadn (aX9_check 27 rfl) rfl ?_
        refine hw_sp (v := (148 : Int32)) (aX9_check 28 rfl) (by decide) ?_
        refine hw_icne (tgt := 87) (aX9_check 29 rfl) (by decide) rfl (by decide : (148 : Int32).toInt = 148) (fun cd36 => ?_) (fun cd36 => ?_)
        · refine xw_iloadn (aX9_check 42 rfl) rfl ?_
          refine hw_sp (v := (147 : Int32)) (aX9_check 43 rfl) (by decide) ?_
          refine hw_iceq (tgt := 101) (aX9_check 44 rfl) (by decide) rfl (by decide : (147 : Int32).toInt = 147) (fun cd37 => ?_) (fun cd37 => ?_)
          · refine hw_aloadn (aX9_check 48 rfl) rfl ?_
            refine xw_iloadn (aX9_check 49 rfl) rfl ?_
            refine hw_callV (Bs := [.int (a1)]) (rest := []) (aX9_check 50 rfl) wc_RX9_140 (by decide) rfl wi_yX9_isTooMuch wv_yX9_isTooMuch hc hsc rfl rfl rfl (Nat.le_of_ble_eq_true rfl) (Nat.le_of_ble_eq_true rfl) (k_X9_isTooMuch (d := d) hS hF hI hR (c) hc hsc hoc (a1) ) (fun v38 sv39 p40 => ?_)
            obtain ⟨r41, rfl, rfl, t45⟩ := p40
            show hw sk base _ _ _ _ _ [.int (r41)] _ _
            refine hw_ifeq (tgt := 112) (aX9_check 51 rfl) (by decide) rfl (fun cd48 => ?_) (fun cd48 => ?_)
            · refine hw_aloadn (aX9_check 54 rfl) rfl ?_
              obtain ⟨x49, h50⟩ : ∃ y, FI c 5 = y := ⟨_, rfl⟩
              have h50l := congrArg Int32.toInt h50
              have := i_rng x49
              have b51 := gI_s (k := 5) (lo := 0) (hi := 128) hI hS hR hc hsc (by unfold g_dt; omega) (by decide +kernel); rw [h50] at b51
              refine hw_get (v := .int (x49)) (aX9_check 55 rfl) wf_RX9_62 hc hsc (by decide) (congrArg Value.int (show FI c 5 = x49 from h50)) ?_
              refine hw_aloadn (aX9_check 56 rfl) rfl ?_
              refine xw_iloadn (aX9_check 57 rfl) rfl ?_
              refine hw_callV (Bs := [.int (a1)]) (rest := [.int (x49)]) (aX9_check 58 rfl) wc_RX9_143 (by decide) rfl wi_yX9_wanted wv_yX9_wanted hc hsc rfl rfl rfl (Nat.le_of_ble_eq_true rfl) (Nat.le_of_ble_eq_true rfl) (k_X9_wanted (d := d) hS hF hI hR (c) hc hsc hoc (a1) ) (fun v52 sv53 p54 => ?_)
              obtain ⟨r55, rfl, rfl⟩ := p54
              have rg_r55 := i_rng r55
              show hw sk base _ _ _ _ _ [.int (r55), .int (x49)] _ _
              refine hw_icge (tgt := 128) (aX9_check 59 rfl) (by decide) rfl rfl (fun cd61 => ?_) (fun cd61 => ?_)
              · refine hw_ic (v := (0 : Int32)) (aX9_check 62 rfl) (by decide) ?_
                refine xw_iret (aX9_check 63 rfl) rfl rfl ?_
                have e62 : ((0 : Int32)).toInt = 0 := (by decide : (0 : Int32).toInt = 0)
                exact ⟨(0 : Int32), rfl, rfl⟩
              · refine hw_ic (v := (3 : Int32)) (aX9_check 60 rfl) (by decide) ?_
                refine xw_goto (tgt := 129) (aX9_check 61 rfl) (by decide) ?_
                refine xw_iret (aX9_check 63 rfl) rfl rfl ?_
                have e63 : ((3 : Int32)).toInt = 3 := (by decide : (3 : Int32).toInt = 3)
                exact ⟨(3 : Int32), rfl, rfl⟩
            · refine hw_bp (v := (13 : Int32)) (aX9_check 52 rfl) (by decide) ?_
              refine xw_iret (aX9_check 53 rfl) rfl rfl ?_
              have e64 : ((13 : Int32)).toInt = 13 := (by decide : (13 : Int32).toInt = 13)
              exact ⟨(13 : Int32), rfl, rfl⟩
          · refine xw_iloadn (aX9_check 45 rfl) rfl ?_
            refine hw_sp (v := (157 : Int32)) (aX9_check 46 rfl) (by decide) ?_
            refine hw_icne (tgt := 112) (aX9_check 47 rfl) (by decide) rfl (by decide : (157 : Int32).toInt = 157) (fun cd65 => ?_) (fun cd65 => ?_)
            · refine hw_aloadn (aX9_check 54 rfl) rfl ?_
              obtain ⟨x66, h67⟩ : ∃ y, FI c 5 = y := ⟨_, rfl⟩
              have h67l := congrArg Int32.toInt h67
              have := i_rng x66
              have b68 := gI_s (k := 5) (lo := 0) (hi := 128) hI hS hR hc hsc (by unfold g_dt; omega) (by decide +kernel); rw [h67] at b68
              refine hw_get (v := .int (x66)) (aX9_check 55 rfl) wf_RX9_62 hc hsc (by decide) (congrArg Value.int (show FI c 5 = x66 from h67)) ?_
              refine hw_aloadn (aX9_check 56 rfl) rfl ?_
              refine xw_iloadn (aX9_check 57 rfl) rfl ?_
              refine hw_callV (Bs := [.int (a1)]) (rest := [.int (x66)]) (aX9_check 58 rfl) wc_RX9_143 (by decide) rfl wi_yX9_wanted wv_yX9_wanted hc hsc rfl rfl rfl (Nat.le_of_ble_eq_true rfl) (Nat.le_of_ble_eq_true rfl) (k_X9_wanted (d := d) hS hF hI hR (c) hc hsc hoc (a1) ) (fun v69 sv70 p71 => ?_)
              obtain ⟨r72, rfl, rfl⟩ := p71
              have rg_r72 := i_rng r72
              show hw sk base _ _ _ _ _ [.int (r72), .int (x66)] _ _
              refine hw_icge (tgt := 128) (aX9_check 59 rfl) (by decide) rfl rfl (fun cd78 => ?_) (fun cd78 => ?_)
              · refine hw_ic (v := (0 : Int32)) (aX9_check 62 rfl) (by decide) ?_
                refine xw_iret (aX9_check 63 rfl) rfl rfl ?_
                have e79 : ((0 : Int32)).toInt = 0 := (by decide : (0 : Int32).toInt = 0)
                exact ⟨(0 : Int32), rfl, rfl⟩
              · refine hw_ic (v := (3 : Int32)) (aX9_check 60 rfl) (by decide) ?_
                refine xw_goto (tgt := 129) (aX9_check 61 rfl) (by decide) ?_
                refine xw_iret (aX9_check 63 rfl) rfl rfl ?_
                have e80 : ((3 : Int32)).toInt = 3 := (by decide : (3 : Int32).toInt = 3)
                exact ⟨(3 : Int32), rfl, rfl⟩
            · refine hw_aloadn (aX9_check 48 rfl) rfl ?_
              refine xw_iloadn (aX9_check 49 rfl) rfl ?_
              refine hw_callV (Bs := [.int (a1)]) (rest := []) (aX9_check 50 rfl) wc_RX9_140 (by decide) rfl wi_yX9_isTooMuch wv_yX9_isTooMuch hc hsc rfl rfl rfl (Nat.le_of_ble_eq_true rfl) (Nat.le_of_ble_eq_true rfl) (k_X9_isTooMuch (d := d) hS hF hI hR (c) hc hsc hoc (a1) ) (fun v81 sv82 p83 => ?_)
              obtain ⟨r84, rfl, rfl, t88⟩ := p83
              show hw sk base _ _ _ _ _ [.int (r84)] _ _
              refine hw_ifeq (tgt := 112) (aX9_check 51 rfl) (by decide) rfl (fun cd91 => ?_) (fun cd91 => ?_)
              · refine hw_aloadn (aX9_check 54 rfl) rfl ?_
                obtain ⟨x92, h93⟩ : ∃ y, FI c 5 = y := ⟨_, rfl⟩
                have h93l := congrArg Int32.toInt h93
                have := i_rng x92
                have b94 := gI_s (k := 5) (lo := 0) (hi := 128) hI hS hR hc hsc (by unfold g_dt; omega) (by decide +kernel); rw [h93] at b94
                refine hw_get (v := .int (x92)) (aX9_check 55 rfl) wf_RX9_62 hc hsc (by decide) (congrArg Value.int (show FI c 5 = x92 from h93)) ?_
                refine hw_aloadn (aX9_check 56 rfl) rfl ?_
                refine xw_iloadn (aX9_check 57 rfl) rfl ?_
                refine hw_callV (Bs := [.int (a1)]) (rest := [.int (x92)]) (aX9_check 58 rfl) wc_RX9_143 (by decide) rfl wi_yX9_wanted wv_yX9_wanted hc hsc rfl rfl rfl (Nat.le_of_ble_eq_true rfl) (Nat.le_of_ble_eq_true rfl) (k_X9_wanted (d := d) hS hF hI hR (c) hc hsc hoc (a1) ) (fun v95 sv96 p97 => ?_)
                obtain ⟨r98, rfl, rfl⟩ := p97
                have rg_r98 := i_rng r98
                show hw sk base _ _ _ _ _ [.int (r98), .int (x92)] _ _
                refine hw_icge (tgt := 128) (aX9_check 59 rfl) (by decide) rfl rfl (fun cd104 => ?_) (fun cd104 => ?_)
                · refine hw_ic (v := (0 : Int32)) (aX9_check 62 rfl) (by decide) ?_
                  refine xw_iret (aX9_check 63 rfl) rfl rfl ?_
                  have e105 : ((0 : Int32)).toInt = 0 := (by decide : (0 : Int32).toInt = 0)
                  exact ⟨(0 : Int32), rfl, rfl⟩
                · refine hw_ic (v := (3 : Int32)) (aX9_check 60 rfl) (by decide) ?_
                  refine xw_goto (tgt := 129) (aX9_check 61 rfl) (by decide) ?_
                  refine xw_iret (aX9_check 63 rfl) rfl rfl ?_
                  have e106 : ((3 : Int32)).toInt = 3 := (by decide : (3 : Int32).toInt = 3)
                  exact ⟨(3 : Int32), rfl, rfl⟩
              · refine hw_bp (v := (13 : Int32)) (aX9_check 52 rfl) (by decide) ?_
                refine xw_iret (aX9_check 53 rfl) rfl rfl ?_
                have e107 : ((13 : Int32)).toInt = 13 := (by decide : (13 : Int32).toInt = 13)
                exact ⟨(13 : Int32), rfl, rfl⟩
        · refine hw_aloadn (aX9_check 30 rfl) rfl ?_
          obtain ⟨x108, h109⟩ : ∃ y, FL c 12 = y := ⟨_, rfl⟩
          have h109l := congrArg Int64.toInt h109
          have := l_rng x108
          refine hw_get (v := .long (x108)) (aX9_check 31 rfl) wf_RX9_96 hc hsc (by decide) (congrArg Value.long (show FL c 12 = x108 from h109)) ?_
          refine hw_lc (v := (1 : Int64)) (aX9_check 32 rfl) (by decide) ?_
          refine hw_lclt (tgt := 84) (aX9_check 33 rfl) (aX9_check 34 rfl) (by decide) rfl (by decide : (1 : Int64).toInt = 1) (fun cd110 => ?_) (fun cd110 => ?_)
          · refine hw_bp (v := (10 : Int32)) (aX9_check 40 rfl) (by decide) ?_
            refine xw_iret (aX9_check 41 rfl) rfl rfl ?_
            have e111 : ((10 : Int32)).toInt = 10 := (by decide : (10 : Int32).toInt = 10)
            exact ⟨(10 : Int32), rfl, rfl⟩
          · refine hw_aloadn (aX9_check 35 rfl) rfl ?_
            refine hw_get (v := .long (x108)) (aX9_check 36 rfl) wf_RX9_96 hc hsc (by decide) (congrArg Value.long (show FL c 12 = x108 from h109)) ?_
            refine xw_ldc2 (aX9_check 37 rfl) wk_RX9_138 ?_
            refine hw_lcle (tgt := 87) (aX9_check 38 rfl) (aX9_check 39 rfl) (by decide) rfl (by decide : (8 : Int64).toInt = 8) (fun cd112 => ?_) (fun cd112 => ?_)
            · refine xw_iloadn (aX9_check 42 rfl) rfl ?_
              refine hw_sp (v := (147 : Int32)) (aX9_check 43 rfl) (by decide) ?_
              refine hw_iceq (tgt := 101) (aX9_check 44 rfl) (by decide) rfl (by decide : (147 : Int32).toInt = 147) (fun cd113 => ?_) (fun cd113 => ?_)
              · omega
              · refine xw_iloadn (aX9_check 45 rfl) rfl ?_
                refine hw_sp (v := (157 : Int32)) (aX9_check 46 rfl) (by decide) ?_
                refine hw_icne (tgt := 112) (aX9_check 47 rfl) (by decide) rfl (by decide : (157 : Int32).toInt = 157) (fun cd114 => ?_) (fun cd114 => ?_)
                · refine hw_aloadn (aX9_check 54 rfl) rfl ?_
                  obtain ⟨x115, h116⟩ : ∃ y, FI c 5 = y := ⟨_, rfl⟩
                  have h116l := congrArg Int32.toInt h116
                  have := i_rng x115
                  have b117 := gI_s (k := 5) (lo := 0) (hi := 128) hI hS hR hc hsc (by unfold g_dt; omega) (by decide +kernel); rw [h116] at b117
                  refine hw_get (v := .int (x115)) (aX9_check 55 rfl) wf_RX9_62 hc hsc (by decide) (congrArg Value.int (show FI c 5 = x115 from h116)) ?_
                  refine hw_aloadn (aX9_check 56 rfl) rfl ?_
                  refine xw_iloadn (aX9_check 57 rfl) rfl ?_
                  refine hw_callV (Bs := [.int (a1)]) (rest := [.int (x115)]) (aX9_check 58 rfl) wc_RX9_143 (by decide) rfl wi_yX9_wanted wv_yX9_wanted hc hsc rfl rfl rfl (Nat.le_of_ble_eq_true rfl) (Nat.le_of_ble_eq_true rfl) (k_X9_wanted (d := d) hS hF hI hR (c) hc hsc hoc (a1) ) (fun v118 sv119 p120 => ?_)
                  obtain ⟨r121, rfl, rfl⟩ := p120
                  have rg_r121 := i_rng r121
                  show hw sk base _ _ _ _ _ [.int (r121), .int (x115)] _ _
                  refine hw_icge (tgt := 128) (aX9_check 59 rfl) (by decide) rfl rfl (fun cd127 => ?_) (fun cd127 => ?_)
                  · refine hw_ic (v := (0 : Int32)) (aX9_check 62 rfl) (by decide) ?_
                    refine xw_iret (aX9_check 63 rfl) rfl rfl ?_
                    have e128 : ((0 : Int32)).toInt = 0 := (by decide : (0 : Int32).toInt = 0)
                    exact ⟨(0 : Int32), rfl, rfl⟩
                  · refine hw_ic (v := (3 : Int32)) (aX9_check 60 rfl) (by decide) ?_
                    refine xw_goto (tgt := 129) (aX9_check 61 rfl) (by decide) ?_
                    refine xw_iret (aX9_check 63 rfl) rfl rfl ?_
                    have e129 : ((3 : Int32)).toInt = 3 := (by decide : (3 : Int32).toInt = 3)
                    exact ⟨(3 : Int32), rfl, rfl⟩
                · omega
            · refine hw_bp (v := (10 : Int32)) (aX9_check 40 rfl) (by decide) ?_
              refine xw_iret (aX9_check 41 rfl) rfl rfl ?_
              have e130 : ((10 : Int32)).toInt = 10 := (by decide : (10 : Int32).toInt = 10)
              exact ⟨(10 : Int32), rfl, rfl⟩
      · refine hw_aloadn (aX9_check 15 rfl) rfl ?_
        obtain ⟨x131, h132⟩ : ∃ y, FL c 12 = y := ⟨_, rfl⟩
        have h132l := congrArg Int64.toInt h132
        have := l_rng x131
        refine hw_get (v := .long (x131)) (aX9_check 16 rfl) wf_RX9_96 hc hsc (by decide) (congrArg Value.long (show FL c 12 = x131 from h132)) ?_
        refine hw_lc (v := (0 : Int64)) (aX9_check 17 rfl) (by decide) ?_
        refine hw_lclt (tgt := 54) (aX9_check 18 rfl) (aX9_check 19 rfl) (by decide) rfl (by decide : (0 : Int64).toInt = 0) (fun cd133 => ?_) (fun cd133 => ?_)
        · refine hw_bp (v := (14 : Int32)) (aX9_check 25 rfl) (by decide) ?_
          refine xw_iret (aX9_check 26 rfl) rfl rfl ?_
          have e134 : ((14 : Int32)).toInt = 14 := (by decide : (14 : Int32).toInt = 14)
          exact ⟨(14 : Int32), rfl, rfl⟩
        · refine hw_aloadn (aX9_check 20 rfl) rfl ?_
          refine hw_get (v := .long (x131)) (aX9_check 21 rfl) wf_RX9_96 hc hsc (by decide) (congrArg Value.long (show FL c 12 = x131 from h132)) ?_
          refine xw_ldc2 (aX9_check 22 rfl) wk_RX9_136 ?_
          refine hw_lclt (tgt := 57) (aX9_check 23 rfl) (aX9_check 24 rfl) (by decide) rfl (by decide : (32 : Int64).toInt = 32) (fun cd135 => ?_) (fun cd135 => ?_)
          · refine xw_iloadn (aX9_check 27 rfl) rfl ?_
            refine hw_sp (v := (148 : Int32)) (aX9_check 28 rfl) (by decide) ?_
            refine hw_icne (tgt := 87) (aX9_check 29 rfl) (by decide) rfl (by decide : (148 : Int32).toInt = 148) (fun cd136 => ?_) (fun cd136 => ?_)
            · refine xw_iloadn (aX9_check 42 rfl) rfl ?_
              refine hw_sp (v := (147 : Int32)) (aX9_check 43 rfl) (by decide) ?_
              refine hw_iceq (tgt := 101) (aX9_check 44 rfl) (by decide) rfl (by decide : (147 : Int32).toInt = 147) (fun cd137 => ?_) (fun cd137 => ?_)
              · omega
              · refine xw_iloadn (aX9_check 45 rfl) rfl ?_
                refine hw_sp (v := (157 : Int32)) (aX9_check 46 rfl) (by decide) ?_
                refine hw_icne (tgt := 112) (aX9_check 47 rfl) (by decide) rfl (by decide : (157 : Int32).toInt = 157) (fun cd138 => ?_) (fun cd138 => ?_)
                · refine hw_aloadn (aX9_check 54 rfl) rfl ?_
                  obtain ⟨x139, h140⟩ : ∃ y, FI c 5 = y := ⟨_, rfl⟩
                  have h140l := congrArg Int32.toInt h140
                  have := i_rng x139
                  have b141 := gI_s (k := 5) (lo := 0) (hi := 128) hI hS hR hc hsc (by unfold g_dt; omega) (by decide +kernel); rw [h140] at b141
                  refine hw_get (v := .int (x139)) (aX9_check 55 rfl) wf_RX9_62 hc hsc (by decide) (congrArg Value.int (show FI c 5 = x139 from h140)) ?_
                  refine hw_aloadn (aX9_check 56 rfl) rfl ?_
                  refine xw_iloadn (aX9_check 57 rfl) rfl ?_
                  refine hw_callV (Bs := [.int (a1)]) (rest := [.int (x139)]) (aX9_check 58 rfl) wc_RX9_143 (by decide) rfl wi_yX9_wanted wv_yX9_wanted hc hsc rfl rfl rfl (Nat.le_of_ble_eq_true rfl) (Nat.le_of_ble_eq_true rfl) (k_X9_wanted (d := d) hS hF hI hR (c) hc hsc hoc (a1) ) (fun v142 sv143 p144 => ?_)
                  obtain ⟨r145, rfl, rfl⟩ := p144
                  have rg_r145 := i_rng r145
                  show hw sk base _ _ _ _ _ [.int (r145), .int (x139)] _ _
                  refine hw_icge (tgt := 128) (aX9_check 59 rfl) (by decide) rfl rfl (fun cd151 => ?_) (fun cd151 => ?_)
                  · refine hw_ic (v := (0 : Int32)) (aX9_check 62 rfl) (by decide) ?_
                    refine xw_iret (aX9_check 63 rfl) rfl rfl ?_
                    have e152 : ((0 : Int32)).toInt = 0 := (by decide : (0 : Int32).toInt = 0)
                    exact ⟨(0 : Int32), rfl, rfl⟩
                  · refine hw_ic (v := (3 : Int32)) (aX9_check 60 rfl) (by decide) ?_
                    refine xw_goto (tgt := 129) (aX9_check 61 rfl) (by decide) ?_
                    refine xw_iret (aX9_check 63 rfl) rfl rfl ?_
                    have e153 : ((3 : Int32)).toInt = 3 := (by decide : (3 : Int32).toInt = 3)
                    exact ⟨(3 : Int32), rfl, rfl⟩
                · omega
            · omega
          · refine hw_bp (v := (14 : Int32)) (aX9_check 25 rfl) (by decide) ?_
            refine xw_iret (aX9_check 26 rfl) rfl rfl ?_
            have e154 : ((14 : Int32)).toInt = 14 := (by decide : (14 : Int32).toInt = 14)
            exact ⟨(14 : Int32), rfl, rfl⟩
  · refine xw_iloadn (aX9_check 4 rfl) rfl ?_
    refine hw_callS (As := [.int (a1)]) (rest := []) (aX9_check 5 rfl) wc_RX9_130 (by decide) rfl wt_yX9_goesWithHold rfl rfl (Nat.le_of_ble_eq_true rfl) (Nat.le_of_ble_eq_true rfl) (k_X9_goesWithHold (d := d) hS hF hI hR (a1) ) (fun v155 sv156 p157 => ?_)
    obtain ⟨r158, rfl, rfl, t162⟩ := p157
    show hw sk base _ _ _ _ _ [.int (r158)] _ _
    refine hw_ifne (tgt := 20) (aX9_check 6 rfl) (by decide) rfl (fun cd165 => ?_) (fun cd165 => ?_)
    · refine xw_iloadn (aX9_check 9 rfl) rfl ?_
      refine hw_sp (v := (144 : Int32)) (aX9_check 10 rfl) (by decide) ?_
      refine hw_iceq (tgt := 34) (aX9_check 11 rfl) (by decide) rfl (by decide : (144 : Int32).toInt = 144) (fun cd166 => ?_) (fun cd166 => ?_)
      · refine hw_aloadn (aX9_check 15 rfl) rfl ?_
        obtain ⟨x167, h168⟩ : ∃ y, FL c 12 = y := ⟨_, rfl⟩
        have h168l := congrArg Int64.toInt h168
        have := l_rng x167
        refine hw_get (v := .long (x167)) (aX9_check 16 rfl) wf_RX9_96 hc hsc (by decide) (congrArg Value.long (show FL c 12 = x167 from h168)) ?_
        refine hw_lc (v := (0 : Int64)) (aX9_check 17 rfl) (by decide) ?_
        refine hw_lclt (tgt := 54) (aX9_check 18 rfl) (aX9_check 19 rfl) (by decide) rfl (by decide : (0 : Int64).toInt = 0) (fun cd169 => ?_) (fun cd169 => ?_)
        · refine hw_bp (v := (14 : Int32)) (aX9_check 25 rfl) (by decide) ?_
          refine xw_iret (aX9_check 26 rfl) rfl rfl ?_
          have e170 : ((14 : Int32)).toInt = 14 := (by decide : (14 : Int32).toInt = 14)
          exact ⟨(14 : Int32), rfl, rfl⟩
        · refine hw_aloadn (aX9_check 20 rfl) rfl ?_
          refine hw_get (v := .long (x167)) (aX9_check 21 rfl) wf_RX9_96 hc hsc (by decide) (congrArg Value.long (show FL c 12 = x167 from h168)) ?_
          refine xw_ldc2 (aX9_check 22 rfl) wk_RX9_136 ?_
          refine hw_lclt (tgt := 57) (aX9_check 23 rfl) (aX9_check 24 rfl) (by decide) rfl (by decide : (32 : Int64).toInt = 32) (fun cd171 => ?_) (fun cd171 => ?_)
          · refine xw_iloadn (aX9_check 27 rfl) rfl ?_
            refine hw_sp (v := (148 : Int32)) (aX9_check 28 rfl) (by decide) ?_
            refine hw_icne (tgt := 87) (aX9_check 29 rfl) (by decide) rfl (by decide : (148 : Int32).toInt = 148) (fun cd172 => ?_) (fun cd172 => ?_)
            · refine xw_iloadn (aX9_check 42 rfl) rfl ?_
              refine hw_sp (v := (147 : Int32)) (aX9_check 43 rfl) (by decide) ?_
              refine hw_iceq (tgt := 101) (aX9_check 44 rfl) (by decide) rfl (by decide : (147 : Int32).toInt = 147) (fun cd173 => ?_) (fun cd173 => ?_)
              · omega
              · refine xw_iloadn (aX9_check 45 rfl) rfl ?_
                refine hw_sp (v := (157 : Int32)) (aX9_check 46 rfl) (by decide) ?_
                refine hw_icne (tgt := 112) (aX9_check 47 rfl) (by decide) rfl (by decide : (157 : Int32).toInt = 157) (fun cd174 => ?_) (fun cd174 => ?_)
                · refine hw_aloadn (aX9_check 54 rfl) rfl ?_
                  obtain ⟨x175, h176⟩ : ∃ y, FI c 5 = y := ⟨_, rfl⟩
                  have h176l := congrArg Int32.toInt h176
                  have := i_rng x175
                  have b177 := gI_s (k := 5) (lo := 0) (hi := 128) hI hS hR hc hsc (by unfold g_dt; omega) (by decide +kernel); rw [h176] at b177
                  refine hw_get (v := .int (x175)) (aX9_check 55 rfl) wf_RX9_62 hc hsc (by decide) (congrArg Value.int (show FI c 5 = x175 from h176)) ?_
                  refine hw_aloadn (aX9_check 56 rfl) rfl ?_
                  refine xw_iloadn (aX9_check 57 rfl) rfl ?_
                  refine hw_callV (Bs := [.int (a1)]) (rest := [.int (x175)]) (aX9_check 58 rfl) wc_RX9_143 (by decide) rfl wi_yX9_wanted wv_yX9_wanted hc hsc rfl rfl rfl (Nat.le_of_ble_eq_true rfl) (Nat.le_of_ble_eq_true rfl) (k_X9_wanted (d := d) hS hF hI hR (c) hc hsc hoc (a1) ) (fun v178 sv179 p180 => ?_)
                  obtain ⟨r181, rfl, rfl⟩ := p180
                  have rg_r181 := i_rng r181
                  show hw sk base _ _ _ _ _ [.int (r181), .int (x175)] _ _
                  refine hw_icge (tgt := 128) (aX9_check 59 rfl) (by decide) rfl rfl (fun cd187 => ?_) (fun cd187 => ?_)
                  · refine hw_ic (v := (0 : Int32)) (aX9_check 62 rfl) (by decide) ?_
                    refine xw_iret (aX9_check 63 rfl) rfl rfl ?_
                    have e188 : ((0 : Int32)).toInt = 0 := (by decide : (0 : Int32).toInt = 0)
                    exact ⟨(0 : Int32), rfl, rfl⟩
                  · refine hw_ic (v := (3 : Int32)) (aX9_check 60 rfl) (by decide) ?_
                    refine xw_goto (tgt := 129) (aX9_check 61 rfl) (by decide) ?_
                    refine xw_iret (aX9_check 63 rfl) rfl rfl ?_
                    have e189 : ((3 : Int32)).toInt = 3 := (by decide : (3 : Int32).toInt = 3)
                    exact ⟨(3 : Int32), rfl, rfl⟩
                · omega
            · omega
          · refine hw_bp (v := (14 : Int32)) (aX9_check 25 rfl) (by decide) ?_
            refine xw_iret (aX9_check 26 rfl) rfl rfl ?_
            have e190 : ((14 : Int32)).toInt = 14 := (by decide : (14 : Int32).toInt = 14)
            exact ⟨(14 : Int32), rfl, rfl⟩
      · refine xw_iloadn (aX9_check 12 rfl) rfl ?_
        refine hw_sp (v := (146 : Int32)) (aX9_check 13 rfl) (by decide) ?_
        refine hw_icne (tgt := 57) (aX9_check 14 rfl) (by decide) rfl (by decide : (146 : Int32).toInt = 146) (fun cd191 => ?_) (fun cd191 => ?_)
        · refine xw_iloadn (aX9_check 27 rfl) rfl ?_
          refine hw_sp (v := (148 : Int32)) (aX9_check 28 rfl) (by decide) ?_
          refine hw_icne (tgt := 87) (aX9_check 29 rfl) (by decide) rfl (by decide : (148 : Int32).toInt = 148) (fun cd192 => ?_) (fun cd192 => ?_)
          · refine xw_iloadn (aX9_check 42 rfl) rfl ?_
            refine hw_sp (v := (147 : Int32)) (aX9_check 43 rfl) (by decide) ?_
            refine hw_iceq (tgt := 101) (aX9_check 44 rfl) (by decide) rfl (by decide : (147 : Int32).toInt = 147) (fun cd193 => ?_) (fun cd193 => ?_)
            · refine hw_aloadn (aX9_check 48 rfl) rfl ?_
              refine xw_iloadn (aX9_check 49 rfl) rfl ?_
              refine hw_callV (Bs := [.int (a1)]) (rest := []) (aX9_check 50 rfl) wc_RX9_140 (by decide) rfl wi_yX9_isTooMuch wv_yX9_isTooMuch hc hsc rfl rfl rfl (Nat.le_of_ble_eq_true rfl) (Nat.le_of_ble_eq_true rfl) (k_X9_isTooMuch (d := d) hS hF hI hR (c) hc hsc hoc (a1) ) (fun v194 sv195 p196 => ?_)
              obtain ⟨r197, rfl, rfl, t201⟩ := p196
              show hw sk base _ _ _ _ _ [.int (r197)] _ _
              refine hw_ifeq (tgt := 112) (aX9_check 51 rfl) (by decide) rfl (fun cd204 => ?_) (fun cd204 => ?_)
              · refine hw_aloadn (aX9_check 54 rfl) rfl ?_
                obtain ⟨x205, h206⟩ : ∃ y, FI c 5 = y := ⟨_, rfl⟩
                have h206l := congrArg Int32.toInt h206
                have := i_rng x205
                have b207 := gI_s (k := 5) (lo := 0) (hi := 128) hI hS hR hc hsc (by unfold g_dt; omega) (by decide +kernel); rw [h206] at b207
                refine hw_get (v := .int (x205)) (aX9_check 55 rfl) wf_RX9_62 hc hsc (by decide) (congrArg Value.int (show FI c 5 = x205 from h206)) ?_
                refine hw_aloadn (aX9_check 56 rfl) rfl ?_
                refine xw_iloadn (aX9_check 57 rfl) rfl ?_
                refine hw_callV (Bs := [.int (a1)]) (rest := [.int (x205)]) (aX9_check 58 rfl) wc_RX9_143 (by decide) rfl wi_yX9_wanted wv_yX9_wanted hc hsc rfl rfl rfl (Nat.le_of_ble_eq_true rfl) (Nat.le_of_ble_eq_true rfl) (k_X9_wanted (d := d) hS hF hI hR (c) hc hsc hoc (a1) ) (fun v208 sv209 p210 => ?_)
                obtain ⟨r211, rfl, rfl⟩ := p210
                have rg_r211 := i_rng r211
                show hw sk base _ _ _ _ _ [.int (r211), .int (x205)] _ _
                refine hw_icge (tgt := 128) (aX9_check 59 rfl) (by decide) rfl rfl (fun cd217 => ?_) (fun cd217 => ?_)
                · refine hw_ic (v := (0 : Int32)) (aX9_check 62 rfl) (by decide) ?_
                  refine xw_iret (aX9_check 63 rfl) rfl rfl ?_
                  have e218 : ((0 : Int32)).toInt = 0 := (by decide : (0 : Int32).toInt = 0)
                  exact ⟨(0 : Int32), rfl, rfl⟩
                · refine hw_ic (v := (3 : Int32)) (aX9_check 60 rfl) (by decide) ?_
                  refine xw_goto (tgt := 129) (aX9_check 61 rfl) (by decide) ?_
                  refine xw_iret (aX9_check 63 rfl) rfl rfl ?_
                  have e219 : ((3 : Int32)).toInt = 3 := (by decide : (3 : Int32).toInt = 3)
                  exact ⟨(3 : Int32), rfl, rfl⟩
              · refine hw_bp (v := (13 : Int32)) (aX9_check 52 rfl) (by decide) ?_
                refine xw_iret (aX9_check 53 rfl) rfl rfl ?_
                have e220 : ((13 : Int32)).toInt = 13 := (by decide : (13 : Int32).toInt = 13)
                exact ⟨(13 : Int32), rfl, rfl⟩
            · refine xw_iloadn (aX9_check 45 rfl) rfl ?_
              refine hw_sp (v := (157 : Int32)) (aX9_check 46 rfl) (by decide) ?_
              refine hw_icne (tgt := 112) (aX9_check 47 rfl) (by decide) rfl (by decide : (157 : Int32).toInt = 157) (fun cd221 => ?_) (fun cd221 => ?_)
              · refine hw_aloadn (aX9_check 54 rfl) rfl ?_
                obtain ⟨x222, h223⟩ : ∃ y, FI c 5 = y := ⟨_, rfl⟩
                have h223l := congrArg Int32.toInt h223
                have := i_rng x222
                have b224 := gI_s (k := 5) (lo := 0) (hi := 128) hI hS hR hc hsc (by unfold g_dt; omega) (by decide +kernel); rw [h223] at b224
                refine hw_get (v := .int (x222)) (aX9_check 55 rfl) wf_RX9_62 hc hsc (by decide) (congrArg Value.int (show FI c 5 = x222 from h223)) ?_
                refine hw_aloadn (aX9_check 56 rfl) rfl ?_
                refine xw_iloadn (aX9_check 57 rfl) rfl ?_
                refine hw_callV (Bs := [.int (a1)]) (rest := [.int (x222)]) (aX9_check 58 rfl) wc_RX9_143 (by decide) rfl wi_yX9_wanted wv_yX9_wanted hc hsc rfl rfl rfl (Nat.le_of_ble_eq_true rfl) (Nat.le_of_ble_eq_true rfl) (k_X9_wanted (d := d) hS hF hI hR (c) hc hsc hoc (a1) ) (fun v225 sv226 p227 => ?_)
                obtain ⟨r228, rfl, rfl⟩ := p227
                have rg_r228 := i_rng r228
                show hw sk base _ _ _ _ _ [.int (r228), .int (x222)] _ _
                refine hw_icge (tgt := 128) (aX9_check 59 rfl) (by decide) rfl rfl (fun cd234 => ?_) (fun cd234 => ?_)
                · refine hw_ic (v := (0 : Int32)) (aX9_check 62 rfl) (by decide) ?_
                  refine xw_iret (aX9_check 63 rfl) rfl rfl ?_
                  have e235 : ((0 : Int32)).toInt = 0 := (by decide : (0 : Int32).toInt = 0)
                  exact ⟨(0 : Int32), rfl, rfl⟩
                · refine hw_ic (v := (3 : Int32)) (aX9_check 60 rfl) (by decide) ?_
                  refine xw_goto (tgt := 129) (aX9_check 61 rfl) (by decide) ?_
                  refine xw_iret (aX9_check 63 rfl) rfl rfl ?_
                  have e236 : ((3 : Int32)).toInt = 3 := (by decide : (3 : Int32).toInt = 3)
                  exact ⟨(3 : Int32), rfl, rfl⟩
              · refine hw_aloadn (aX9_check 48 rfl) rfl ?_
                refine xw_iloadn (aX9_check 49 rfl) rfl ?_
                refine hw_callV (Bs := [.int (a1)]) (rest := []) (aX9_check 50 rfl) wc_RX9_140 (by decide) rfl wi_yX9_isTooMuch wv_yX9_isTooMuch hc hsc rfl rfl rfl (Nat.le_of_ble_eq_true rfl) (Nat.le_of_ble_eq_true rfl) (k_X9_isTooMuch (d := d) hS hF hI hR (c) hc hsc hoc (a1) ) (fun v237 sv238 p239 => ?_)
                obtain ⟨r240, rfl, rfl, t244⟩ := p239
                show hw sk base _ _ _ _ _ [.int (r240)] _ _
                refine hw_ifeq (tgt := 112) (aX9_check 51 rfl) (by decide) rfl (fun cd247 => ?_) (fun cd247 => ?_)
                · refine hw_aloadn (aX9_check 54 rfl) rfl ?_
                  obtain ⟨x248, h249⟩ : ∃ y, FI c 5 = y := ⟨_, rfl⟩
                  have h249l := congrArg Int32.toInt h249
                  have := i_rng x248
                  have b250 := gI_s (k := 5) (lo := 0) (hi := 128) hI hS hR hc hsc (by unfold g_dt; omega) (by decide +kernel); rw [h249] at b250
                  refine hw_get (v := .int (x248)) (aX9_check 55 rfl) wf_RX9_62 hc hsc (by decide) (congrArg Value.int (show FI c 5 = x248 from h249)) ?_
                  refine hw_aloadn (aX9_check 56 rfl) rfl ?_
                  refine xw_iloadn (aX9_check 57 rfl) rfl ?_
                  refine hw_callV (Bs := [.int (a1)]) (rest := [.int (x248)]) (aX9_check 58 rfl) wc_RX9_143 (by decide) rfl wi_yX9_wanted wv_yX9_wanted hc hsc rfl rfl rfl (Nat.le_of_ble_eq_true rfl) (Nat.le_of_ble_eq_true rfl) (k_X9_wanted (d := d) hS hF hI hR (c) hc hsc hoc (a1) ) (fun v251 sv252 p253 => ?_)
                  obtain ⟨r254, rfl, rfl⟩ := p253
                  have rg_r254 := i_rng r254
                  show hw sk base _ _ _ _ _ [.int (r254), .int (x248)] _ _
                  refine hw_icge (tgt := 128) (aX9_check 59 rfl) (by decide) rfl rfl (fun cd260 => ?_) (fun cd260 => ?_)
                  · refine hw_ic (v := (0 : Int32)) (aX9_check 62 rfl) (by decide) ?_
                    refine xw_iret (aX9_check 63 rfl) rfl rfl ?_
                    have e261 : ((0 : Int32)).toInt = 0 := (by decide : (0 : Int32).toInt = 0)
                    exact ⟨(0 : Int32), rfl, rfl⟩
                  · refine hw_ic (v := (3 : Int32)) (aX9_check 60 rfl) (by decide) ?_
                    refine xw_goto (tgt := 129) (aX9_check 61 rfl) (by decide) ?_
                    refine xw_iret (aX9_check 63 rfl) rfl rfl ?_
                    have e262 : ((3 : Int32)).toInt = 3 := (by decide : (3 : Int32).toInt = 3)
                    exact ⟨(3 : Int32), rfl, rfl⟩
                · refine hw_bp (v := (13 : Int32)) (aX9_check 52 rfl) (by decide) ?_
                  refine xw_iret (aX9_check 53 rfl) rfl rfl ?_
                  have e263 : ((13 : Int32)).toInt = 13 := (by decide : (13 : Int32).toInt = 13)
                  exact ⟨(13 : Int32), rfl, rfl⟩
          · refine hw_aloadn (aX9_check 30 rfl) rfl ?_
            obtain ⟨x264, h265⟩ : ∃ y, FL c 12 = y := ⟨_, rfl⟩
            have h265l := congrArg Int64.toInt h265
            have := l_rng x264
            refine hw_get (v := .long (x264)) (aX9_check 31 rfl) wf_RX9_96 hc hsc (by decide) (congrArg Value.long (show FL c 12 = x264 from h265)) ?_
            refine hw_lc (v := (1 : Int64)) (aX9_check 32 rfl) (by decide) ?_
            refine hw_lclt (tgt := 84) (aX9_check 33 rfl) (aX9_check 34 rfl) (by decide) rfl (by decide : (1 : Int64).toInt = 1) (fun cd266 => ?_) (fun cd266 => ?_)
            · refine hw_bp (v := (10 : Int32)) (aX9_check 40 rfl) (by decide) ?_
              refine xw_iret (aX9_check 41 rfl) rfl rfl ?_
              have e267 : ((10 : Int32)).toInt = 10 := (by decide : (10 : Int32).toInt = 10)
              exact ⟨(10 : Int32), rfl, rfl⟩
            · refine hw_aloadn (aX9_check 35 rfl) rfl ?_
              refine hw_get (v := .long (x264)) (aX9_check 36 rfl) wf_RX9_96 hc hsc (by decide) (congrArg Value.long (show FL c 12 = x264 from h265)) ?_
              refine xw_ldc2 (aX9_check 37 rfl) wk_RX9_138 ?_
              refine hw_lcle (tgt := 87) (aX9_check 38 rfl) (aX9_check 39 rfl) (by decide) rfl (by decide : (8 : Int64).toInt = 8) (fun cd268 => ?_) (fun cd268 => ?_)
              · refine xw_iloadn (aX9_check 42 rfl) rfl ?_
                refine hw_sp (v := (147 : Int32)) (aX9_check 43 rfl) (by decide) ?_
                refine hw_iceq (tgt := 101) (aX9_check 44 rfl) (by decide) rfl (by decide : (147 : Int32).toInt = 147) (fun cd269 => ?_) (fun cd269 => ?_)
                · omega
                · refine xw_iloadn (aX9_check 45 rfl) rfl ?_
                  refine hw_sp (v := (157 : Int32)) (aX9_check 46 rfl) (by decide) ?_
                  refine hw_icne (tgt := 112) (aX9_check 47 rfl) (by decide) rfl (by decide : (157 : Int32).toInt = 157) (fun cd270 => ?_) (fun cd270 => ?_)
                  · refine hw_aloadn (aX9_check 54 rfl) rfl ?_
                    obtain ⟨x271, h272⟩ : ∃ y, FI c 5 = y := ⟨_, rfl⟩
                    have h272l := congrArg Int32.toInt h272
                    have := i_rng x271
                    have b273 := gI_s (k := 5) (lo := 0) (hi := 128) hI hS hR hc hsc (by unfold g_dt; omega) (by decide +kernel); rw [h272] at b273
                    refine hw_get (v := .int (x271)) (aX9_check 55 rfl) wf_RX9_62 hc hsc (by decide) (congrArg Value.int (show FI c 5 = x271 from h272)) ?_
                    refine hw_aloadn (aX9_check 56 rfl) rfl ?_
                    refine xw_iloadn (aX9_check 57 rfl) rfl ?_
                    refine hw_callV (Bs := [.int (a1)]) (rest := [.int (x271)]) (aX9_check 58 rfl) wc_RX9_143 (by decide) rfl wi_yX9_wanted wv_yX9_wanted hc hsc rfl rfl rfl (Nat.le_of_ble_eq_true rfl) (Nat.le_of_ble_eq_true rfl) (k_X9_wanted (d := d) hS hF hI hR (c) hc hsc hoc (a1) ) (fun v274 sv275 p276 => ?_)
                    obtain ⟨r277, rfl, rfl⟩ := p276
                    have rg_r277 := i_rng r277
                    show hw sk base _ _ _ _ _ [.int (r277), .int (x271)] _ _
                    refine hw_icge (tgt := 128) (aX9_check 59 rfl) (by decide) rfl rfl (fun cd283 => ?_) (fun cd283 => ?_)
                    · refine hw_ic (v := (0 : Int32)) (aX9_check 62 rfl) (by decide) ?_
                      refine xw_iret (aX9_check 63 rfl) rfl rfl ?_
                      have e284 : ((0 : Int32)).toInt = 0 := (by decide : (0 : Int32).toInt = 0)
                      exact ⟨(0 : Int32), rfl, rfl⟩
                    · refine hw_ic (v := (3 : Int32)) (aX9_check 60 rfl) (by decide) ?_
                      refine xw_goto (tgt := 129) (aX9_check 61 rfl) (by decide) ?_
                      refine xw_iret (aX9_check 63 rfl) rfl rfl ?_
                      have e285 : ((3 : Int32)).toInt = 3 := (by decide : (3 : Int32).toInt = 3)
                      exact ⟨(3 : Int32), rfl, rfl⟩
                  · omega
              · refine hw_bp (v := (10 : Int32)) (aX9_check 40 rfl) (by decide) ?_
                refine xw_iret (aX9_check 41 rfl) rfl rfl ?_
                have e286 : ((10 : Int32)).toInt = 10 := (by decide : (10 : Int32).toInt = 10)
                exact ⟨(10 : Int32), rfl, rfl⟩
        · refine hw_aloadn (aX9_check 15 rfl) rfl ?_
          obtain ⟨x287, h288⟩ : ∃ y, FL c 12 = y := ⟨_, rfl⟩
          have h288l := congrArg Int64.toInt h288
          have := l_rng x287
          refine hw_get (v := .long (x287)) (aX9_check 16 rfl) wf_RX9_96 hc hsc (by decide) (congrArg Value.long (show FL c 12 = x287 from h288)) ?_
          refine hw_lc (v := (0 : Int64)) (aX9_check 17 rfl) (by decide) ?_
          refine hw_lclt (tgt := 54) (aX9_check 18 rfl) (aX9_check 19 rfl) (by decide) rfl (by decide : (0 : Int64).toInt = 0) (fun cd289 => ?_) (fun cd289 => ?_)
          · refine hw_bp (v := (14 : Int32)) (aX9_check 25 rfl) (by decide) ?_
            refine xw_iret (aX9_check 26 rfl) rfl rfl ?_
            have e290 : ((14 : Int32)).toInt = 14 := (by decide : (14 : Int32).toInt = 14)
            exact ⟨(14 : Int32), rfl, rfl⟩
          · refine hw_aloadn (aX9_check 20 rfl) rfl ?_
            refine hw_get (v := .long (x287)) (aX9_check 21 rfl) wf_RX9_96 hc hsc (by decide) (congrArg Value.long (show FL c 12 = x287 from h288)) ?_
            refine xw_ldc2 (aX9_check 22 rfl) wk_RX9_136 ?_
            refine hw_lclt (tgt := 57) (aX9_check 23 rfl) (aX9_check 24 rfl) (by decide) rfl (by decide : (32 : Int64).toInt = 32) (fun cd291 => ?_) (fun cd291 => ?_)
            · refine xw_iloadn (aX9_check 27 rfl) rfl ?_
              refine hw_sp (v := (148 : Int32)) (aX9_check 28 rfl) (by decide) ?_
              refine hw_icne (tgt := 87) (aX9_check 29 rfl) (by decide) rfl (by decide : (148 : Int32).toInt = 148) (fun cd292 => ?_) (fun cd292 => ?_)
              · refine xw_iloadn (aX9_check 42 rfl) rfl ?_
                refine hw_sp (v := (147 : Int32)) (aX9_check 43 rfl) (by decide) ?_
                refine hw_iceq (tgt := 101) (aX9_check 44 rfl) (by decide) rfl (by decide : (147 : Int32).toInt = 147) (fun cd293 => ?_) (fun cd293 => ?_)
                · omega
                · refine xw_iloadn (aX9_check 45 rfl) rfl ?_
                  refine hw_sp (v := (157 : Int32)) (aX9_check 46 rfl) (by decide) ?_
                  refine hw_icne (tgt := 112) (aX9_check 47 rfl) (by decide) rfl (by decide : (157 : Int32).toInt = 157) (fun cd294 => ?_) (fun cd294 => ?_)
                  · refine hw_aloadn (aX9_check 54 rfl) rfl ?_
                    obtain ⟨x295, h296⟩ : ∃ y, FI c 5 = y := ⟨_, rfl⟩
                    have h296l := congrArg Int32.toInt h296
                    have := i_rng x295
                    have b297 := gI_s (k := 5) (lo := 0) (hi := 128) hI hS hR hc hsc (by unfold g_dt; omega) (by decide +kernel); rw [h296] at b297
                    refine hw_get (v := .int (x295)) (aX9_check 55 rfl) wf_RX9_62 hc hsc (by decide) (congrArg Value.int (show FI c 5 = x295 from h296)) ?_
                    refine hw_aloadn (aX9_check 56 rfl) rfl ?_
                    refine xw_iloadn (aX9_check 57 rfl) rfl ?_
                    refine hw_callV (Bs := [.int (a1)]) (rest := [.int (x295)]) (aX9_check 58 rfl) wc_RX9_143 (by decide) rfl wi_yX9_wanted wv_yX9_wanted hc hsc rfl rfl rfl (Nat.le_of_ble_eq_true rfl) (Nat.le_of_ble_eq_true rfl) (k_X9_wanted (d := d) hS hF hI hR (c) hc hsc hoc (a1) ) (fun v298 sv299 p300 => ?_)
                    obtain ⟨r301, rfl, rfl⟩ := p300
                    have rg_r301 := i_rng r301
                    show hw sk base _ _ _ _ _ [.int (r301), .int (x295)] _ _
                    refine hw_icge (tgt := 128) (aX9_check 59 rfl) (by decide) rfl rfl (fun cd307 => ?_) (fun cd307 => ?_)
                    · refine hw_ic (v := (0 : Int32)) (aX9_check 62 rfl) (by decide) ?_
                      refine xw_iret (aX9_check 63 rfl) rfl rfl ?_
                      have e308 : ((0 : Int32)).toInt = 0 := (by decide : (0 : Int32).toInt = 0)
                      exact ⟨(0 : Int32), rfl, rfl⟩
                    · refine hw_ic (v := (3 : Int32)) (aX9_check 60 rfl) (by decide) ?_
                      refine xw_goto (tgt := 129) (aX9_check 61 rfl) (by decide) ?_
                      refine xw_iret (aX9_check 63 rfl) rfl rfl ?_
                      have e309 : ((3 : Int32)).toInt = 3 := (by decide : (3 : Int32).toInt = 3)
                      exact ⟨(3 : Int32), rfl, rfl⟩
                  · omega
              · omega
            · refine hw_bp (v := (14 : Int32)) (aX9_check 25 rfl) (by decide) ?_
              refine xw_iret (aX9_check 26 rfl) rfl rfl ?_
              have e310 : ((14 : Int32)).toInt = 14 := (by decide : (14 : Int32).toInt = 14)
              exact ⟨(14 : Int32), rfl, rfl⟩
    · refine hw_bp (v := (9 : Int32)) (aX9_check 7 rfl) (by decide) ?_
      refine xw_iret (aX9_check 8 rfl) rfl rfl ?_
      have e311 : ((9 : Int32)).toInt = 9 := (by decide : (9 : Int32).toInt = 9)
      exact ⟨(9 : Int32), rfl, rfl⟩
def nX9_addPiece : Nat := 0xac033e00b5032a4100b609031200b42af100b61c1b1200b42a1900b42aee00b62a
theorem bX9_addPiece : cX9_addPiece.data.toList.map UInt8.toNat = x_un nX9_addPiece 33 := by decide +kernel
def iX9_addPiece : List (Nat × Jvm.ClassFile.Instr × Nat) := [(0, .aload_n 0, 1), (1, .invokevirtual 238, 3), (4, .aload_n 0, 1), (5, .getfield 25, 3), (8, .aload_n 0, 1), (9, .getfield 18, 3), (12, .iload_n 1, 1), (13, .iload_n 2, 1), (14, .invokevirtual 241, 3), (17, .aload_n 0, 1), (18, .getfield 18, 3), (21, .iconst 0, 1), (22, .lconst 0, 1), (23, .invokevirtual 65, 3), (26, .aload_n 0, 1), (27, .iconst 0, 1), (28, .putfield 62, 3), (31, .iconst 0, 1), (32, .ireturn, 1)]
theorem dX9_addPiece : x_il nX9_addPiece 33 iX9_addPiece = true := by decide +kernel
theorem aX9_addPiece (k : Nat) {pc : Nat} {i : Jvm.ClassFile.Instr} {len : Nat} (hk : iX9_addPiece[k]? = some (pc, i, len)) : x_at xMM 107 pc i len yX9_addPiece 3 (some .int) := ⟨cX9_addPiece, rfl, x_il_ok bX9_addPiece dX9_addPiece k hk⟩
set_option maxHeartbeats 4000000 in
set_option maxRecDepth 100000 in
theorem k_X9_addPiece {sk : xK} {base d n sl : Nat} {SH : Nat → Nat × Nat} {FI : Nat → Nat → Int32} {FL : Nat → Nat → Int64} {FR : Nat → Nat → Option Nat} (hS : h_S n SH) (hF : h_FR FR) (hI : g_I FI) (hR : g_R n SH FR) (c : Nat) {zc : Nat} (hc : c < n) (hsc : SH c = (9, zc)) (hoc : own c) (a1 : Int32) (a2 : Int32) : hw sk base (d + 2) none 107 0 [(0, .ref (base + c)), (1, .int (a1)), (2, .int (a2))] [] (n, sl, SH, FI, FL, FR) (h_I (fun r s => ∃ FI' FL' FR', s = (n, sl, SH, FI', FL', FR') ∧ g_I FI' ∧ g_fr n (shd SH) [] [] [5, 8, 9] FI FI' ∧ g_fr n (shd SH) [] [] [5] FL FL' ∧ g_fr n (shd SH) [] [] [5] FR FR' ∧ h_FR FR' ∧ g_R n SH FR')) := by
  have rg_a1 := i_rng a1
  have rg_a2 := i_rng a2
  refine hw_aloadn (aX9_addPiece 0 rfl) rfl ?_
  refine hw_callV (Bs := []) (rest := []) (aX9_addPiece 1 rfl) wc_RX9_238 (by decide) rfl wi_yX9_holdTop wv_yX9_holdTop hc hsc rfl rfl rfl (Nat.le_of_ble_eq_true rfl) (Nat.le_of_ble_eq_true rfl) (k_X9_holdTop (d := d) hS hF hI hR (c) hc hsc hoc ) (fun v1 sv2 p3 => ?_)
  obtain ⟨rfl, FI5, FL6, rfl, hI7, f8, f9⟩ := p3
  show hw sk base _ _ _ _ _ [] _ _
  refine hw_aloadn (aX9_addPiece 2 rfl) rfl ?_
  obtain ⟨r14, h15, lt16, ow17, sh18, fx19⟩ := g_nz (k := 4) (ty := 8) (zz := 0) hS hF hR hc hsc (by unfold g_dt; omega) (by decide +kernel)
  refine hw_get (v := .ref (base + r14)) (aX9_addPiece 3 rfl) wf_RX9_25 hc hsc (by decide) (congrArg (fun r => va_rf (h_rf base r)) (show FR c 4 = some r14 from h15)) ?_
  refine hw_aloadn (aX9_addPiece 4 rfl) rfl ?_
  obtain ⟨r20, h21, lt22, ow23, sh24, fx25⟩ := g_nz (k := 3) (ty := 5) (zz := 0) hS hF hR hc hsc (by unfold g_dt; omega) (by decide +kernel)
  refine hw_get (v := .ref (base + r20)) (aX9_addPiece 5 rfl) wf_RX9_18 hc hsc (by decide) (congrArg (fun r => va_rf (h_rf base r)) (show FR c 3 = some r20 from h21)) ?_
  refine xw_iloadn (aX9_addPiece 6 rfl) rfl ?_
  refine xw_iloadn (aX9_addPiece 7 rfl) rfl ?_
  refine hw_callV (Bs := [.ref (base + r20), .int (a1), .int (a2)]) (rest := []) (aX9_addPiece 8 rfl) wc_RX9_241 (by decide) rfl wi_yX8_addPiece wv_yX8_addPiece lt16 sh18 rfl rfl rfl (Nat.le_of_ble_eq_true rfl) (Nat.le_of_ble_eq_true rfl) (k_X8_addPiece (d := d) hS hF hI7 hR (r14) lt16 sh18 ow17 (r20) lt22 sh24 ow23 (a1) (a2) ) (fun v26 sv27 p28 => ?_)
  obtain ⟨rfl, FI30, FL31, FR32, rfl, hI33, f34, f35, f36, hF37, hR38⟩ := p28
  show hw sk base _ _ _ _ _ [] _ _
  refine hw_aloadn (aX9_addPiece 9 rfl) rfl ?_
  refine hw_get (v := .ref (base + r20)) (aX9_addPiece 10 rfl) wf_RX9_18 hc hsc (by decide) (congrArg (fun r => va_rf (h_rf base r)) (show FR32 c 3 = some r20 from (gf_at f36 hc (shd_f (fix_t2 hS hR hc hsc (by unfold g_dt; omega) (by decide +kernel)) hsc) rfl (h21)))) ?_
  refine hw_ic (v := (0 : Int32)) (aX9_addPiece 11 rfl) (by decide) ?_
  refine hw_lc (v := (0 : Int64)) (aX9_addPiece 12 rfl) (by decide) ?_
  refine hw_callV (Bs := [.int ((0 : Int32)), .long ((0 : Int64))]) (rest := []) (aX9_addPiece 13 rfl) wc_RX9_65 (by decide) rfl wi_yX5_become wv_yX5_become lt22 sh24 rfl rfl rfl (Nat.le_of_ble_eq_true rfl) (Nat.le_of_ble_eq_true rfl) (k_X5_become (d := d + 1) hS hF37 hI33 hR38 (r20) lt22 sh24 ow23 ((0 : Int32)) ((0 : Int64)) ) (fun v41 sv42 p43 => ?_)
  obtain ⟨rfl, FI45, FL46, rfl, hI47, f48, f49⟩ := p43
  show hw sk base _ _ _ _ _ [] _ _
  refine hw_aloadn (aX9_addPiece 14 rfl) rfl ?_
  refine hw_ic (v := (0 : Int32)) (aX9_addPiece 15 rfl) (by decide) ?_
  refine hv_puti (aX9_addPiece 16 rfl) wf_RX9_62 hc hsc (by decide) rfl rfl (fun FI54 u55 => ?_)
  have hI56 : g_I FI54 := gU_s (k := 5) (lo := 0) (hi := 128) hI47 hS hR38 hc hsc (by unfold g_dt; omega) (by decide +kernel) u55 (by have := ((by decide : (0 : Int32).toInt = 0) : ((0 : Int32)).toInt = 0); omega) (by have := ((by decide : (0 : Int32).toInt = 0) : ((0 : Int32)).toInt = 0); omega)
  refine hw_ic (v := (0 : Int32)) (aX9_addPiece 17 rfl) (by decide) ?_
  refine xw_iret (aX9_addPiece 18 rfl) rfl rfl ?_
  have e57 : ((0 : Int32)).toInt = 0 := (by decide : (0 : Int32).toInt = 0)
  exact ⟨(0 : Int32), rfl, FI54, FL46, FR32, rfl, hI56, (gf_t (gf_tr ex_rf (gf_tr ex_rf (gf_tr ex_rf gf_rf f8 rfl rfl rfl) f34 rfl rfl rfl) f48 rfl rfl rfl) u55 (shd_f (fix_t2 hS hR38 hc hsc (by unfold g_dt; omega) (by decide +kernel)) hsc) (by decide)), (gf_tr ex_rf (gf_tr ex_rf (gf_tr ex_rf gf_rf f9 rfl rfl rfl) f35 rfl rfl rfl) f49 rfl rfl rfl), (gf_tr ex_rf gf_rf f36 rfl rfl rfl), hF37, hR38⟩
def nX9_joined : Nat := 0xad090400a70a0700990c01b8211f1aad83211fad0901b8211f1aad61211fad81211fad69211fad0501b8211fad65211fad6d211f0600a70907009a940921ad7f211f760000006f0000006f0000006f0000007a0000006b000000670000007a0000007a000000630000005d000000590000004b00000047000000270000001a0000007a0000000000aa1a
theorem bX9_joined : cX9_joined.data.toList.map UInt8.toNat = x_un nX9_joined 138 := by decide +kernel
def iX9_joined : List (Nat × Jvm.ClassFile.Instr × Nat) := [(0, .iload_n 0, 1), (72, .lload_n 1, 1), (73, .lload_n 3, 1), (74, .land, 1), (75, .lreturn, 1), (76, .lload_n 3, 1), (77, .lconst 0, 1), (78, .lcmp, 1), (79, .ifCond .ne 7, 3), (82, .lconst 0, 1), (83, .goto 6, 3), (86, .lload_n 1, 1), (87, .lload_n 3, 1), (88, .ldiv, 1), (89, .lreturn, 1), (90, .lload_n 1, 1), (91, .lload_n 3, 1), (92, .lsub, 1), (93, .lreturn, 1), (94, .lload_n 1, 1), (95, .lload_n 3, 1), (96, .invokestatic 261, 3), (99, .lreturn, 1), (100, .lload_n 1, 1), (101, .lload_n 3, 1), (102, .lmul, 1), (103, .lreturn, 1), (104, .lload_n 1, 1), (105, .lload_n 3, 1), (106, .lor, 1), (107, .lreturn, 1), (108, .lload_n 1, 1), (109, .lload_n 3, 1), (110, .ladd, 1), (111, .lreturn, 1), (112, .iload_n 0, 1), (113, .lload_n 1, 1), (114, .lload_n 3, 1), (115, .invokestatic 265, 3), (118, .lreturn, 1), (119, .lload_n 1, 1), (120, .lload_n 3, 1), (121, .lxor, 1), (122, .lreturn, 1), (123, .iload_n 0, 1), (124, .lload_n 1, 1), (125, .lload_n 3, 1), (126, .invokestatic 268, 3), (129, .ifCond .eq 7, 3), (132, .lconst 1, 1), (133, .goto 4, 3), (136, .lconst 0, 1), (137, .lreturn, 1)]
theorem dX9_joined : x_il nX9_joined 138 iX9_joined = true := by decide +kernel
theorem aX9_joined (k : Nat) {pc : Nat} {i : Jvm.ClassFile.Instr} {len : Nat} (hk : iX9_joined[k]? = some (pc, i, len)) : x_at xMM 112 pc i len yX9_joined 5 (some .long) := ⟨cX9_joined, rfl, x_il_ok bX9_joined dX9_joined k hk⟩
theorem aX9_joined_1 : x_at xMM 112 1 (.tableswitch 122 26 39 #[71, 75, 89, 93, 99, 122, 122, 103, 107, 122, 111, 111, 111, 118]) 71 yX9_joined 5 (some .long) := ⟨cX9_joined, rfl, by decide +kernel⟩
set_option maxHeartbeats 4000000 in
set_option maxRecDepth 100000 in
theorem k_X9_joined {sk : xK} {base d n sl : Nat} {SH : Nat → Nat × Nat} {FI : Nat → Nat → Int32} {FL : Nat → Nat → Int64} {FR : Nat → Nat → Option Nat} (hS : h_S n SH) (hF : h_FR FR) (hI : g_I FI) (hR : g_R n SH FR) (a1 : Int32) (a2 : Int64) (a3 : Int64) : hw sk base (d + 2) none 112 0 [(0, .int (a1)), (1, .long (a2)), (3, .long (a3))] [] (n, sl, SH, FI, FL, FR) (h_J (fun r s => s = (n, sl, SH, FI, FL, FR))) := by
  have rg_a1 := i_rng a1
  have rg_a2 := l_rng a2
  have rg_a3 := l_rng a3
  refine xw_iloadn (aX9_joined 0 rfl) rfl ?_
  have hsw : ((a1).toInt < 26 ∨ 39 < (a1).toInt) ∨ ((a1).toInt = 26) ∨ ((a1).toInt = 27) ∨ ((a1).toInt = 28) ∨ ((a1).toInt = 29) ∨ ((a1).toInt = 30) ∨ ((a1).toInt = 31 ∨ (a1).toInt = 32 ∨ (a1).toInt = 35) ∨ ((a1).toInt = 33) ∨ ((a1).toInt = 34) ∨ ((a1).toInt = 36 ∨ (a1).toInt = 37 ∨ (a1).toInt = 38) ∨ ((a1).toInt = 39) := by omega
  rcases hsw with hsw | hsw | hsw | hsw | hsw | hsw | hsw | hsw | hsw | hsw | hsw
  · refine xw_tsw (tgt := 123) aX9_joined_1 (Or.inl ⟨hsw, by decide⟩) ?_
    refine xw_iloadn (aX9_joined 44 rfl) rfl ?_
    refine xw_lloadn (aX9_joined 45 rfl) rfl ?_
    refine xw_lloadn (aX9_joined 46 rfl) rfl ?_
    refine hw_callS (As := [.int (a1), .long (a2), .long (a3)]) (rest := []) (aX9_joined 47 rfl) wc_RX9_268 (by decide) rfl wt_yX9_compared rfl rfl (Nat.le_of_ble_eq_true rfl) (Nat.le_of_ble_eq_true rfl) (k_X9_compared (d := d + 1) hS hF hI hR (a1) (a2) (a3) ) (fun v1 sv2 p3 => ?_)
    obtain ⟨r4, rfl, rfl, t8⟩ := p3
    show hw sk base _ _ _ _ _ [.int (r4)] _ _
    refine hw_ifeq (tgt := 136) (aX9_joined 48 rfl) (by decide) rfl (fun cd11 => ?_) (fun cd11 => ?_)
    · refine hw_lc (v := (0 : Int64)) (aX9_joined 51 rfl) (by decide) ?_
      refine xw_lret (aX9_joined 52 rfl) rfl ?_
      have e12 : ((0 : Int64)).toInt = 0 := (by decide : (0 : Int64).toInt = 0)
      exact ⟨(0 : Int64), rfl, rfl⟩
    · refine hw_lc (v := (1 : Int64)) (aX9_joined 49 rfl) (by decide) ?_
      refine xw_goto (tgt := 137) (aX9_joined 50 rfl) (by decide) ?_
      refine xw_lret (aX9_joined 52 rfl) rfl ?_
      have e13 : ((1 : Int64)).toInt = 1 := (by decide : (1 : Int64).toInt = 1)
      exact ⟨(1 : Int64), rfl, rfl⟩
  · refine xw_tsw (tgt := 72) aX9_joined_1 (by exact Or.inr ⟨by omega, by omega, _, by rw [hsw]; rfl, by decide⟩) ?_
    refine xw_lloadn (aX9_joined 1 rfl) rfl ?_
    refine xw_lloadn (aX9_joined 2 rfl) rfl ?_
    refine xw_land (aX9_joined 3 rfl) ?_
    refine hw_tl (fun x14 => ?_)
    have b15 := l_rng x14
    refine xw_lret (aX9_joined 4 rfl) rfl ?_
    exact ⟨x14, rfl, rfl⟩
  · refine xw_tsw (tgt := 76) aX9_joined_1 (by exact Or.inr ⟨by omega, by omega, _, by rw [hsw]; rfl, by decide⟩) ?_
    refine xw_lloadn (aX9_joined 5 rfl) rfl ?_
    refine hw_lc (v := (0 : Int64)) (aX9_joined 6 rfl) (by decide) ?_
    refine hw_lcne (tgt := 86) (aX9_joined 7 rfl) (aX9_joined 8 rfl) (by decide) rfl (by decide : (0 : Int64).toInt = 0) (fun cd16 => ?_) (fun cd16 => ?_)
    · refine xw_lloadn (aX9_joined 11 rfl) rfl ?_
      refine xw_lloadn (aX9_joined 12 rfl) rfl ?_
      refine xw_ldiv (aX9_joined 13 rfl) (l_ne0 rfl (by omega)) ?_
      refine hw_tl (fun x17 => ?_)
      have b18 := l_rng x17
      refine xw_lret (aX9_joined 14 rfl) rfl ?_
      exact ⟨x17, rfl, rfl⟩
    · refine hw_lc (v := (0 : Int64)) (aX9_joined 9 rfl) (by decide) ?_
      refine xw_goto (tgt := 89) (aX9_joined 10 rfl) (by decide) ?_
      refine xw_lret (aX9_joined 14 rfl) rfl ?_
      have e19 : ((0 : Int64)).toInt = 0 := (by decide : (0 : Int64).toInt = 0)
      exact ⟨(0 : Int64), rfl, rfl⟩
  · refine xw_tsw (tgt := 90) aX9_joined_1 (by exact Or.inr ⟨by omega, by omega, _, by rw [hsw]; rfl, by decide⟩) ?_
    refine xw_lloadn (aX9_joined 15 rfl) rfl ?_
    refine xw_lloadn (aX9_joined 16 rfl) rfl ?_
    refine xw_lsub (aX9_joined 17 rfl) ?_
    refine hw_tl (fun x20 => ?_)
    have b21 := l_rng x20
    refine xw_lret (aX9_joined 18 rfl) rfl ?_
    exact ⟨x20, rfl, rfl⟩
  · refine xw_tsw (tgt := 94) aX9_joined_1 (by exact Or.inr ⟨by omega, by omega, _, by rw [hsw]; rfl, by decide⟩) ?_
    refine xw_lloadn (aX9_joined 19 rfl) rfl ?_
    refine xw_lloadn (aX9_joined 20 rfl) rfl ?_
    refine hw_callS (As := [.long (a2), .long (a3)]) (rest := []) (aX9_joined 21 rfl) wc_RX9_261 (by decide) rfl wt_yX9_restWithoutSign rfl rfl (Nat.le_of_ble_eq_true rfl) (Nat.le_of_ble_eq_true rfl) (k_X9_restWithoutSign (d := d) hS hF hI hR (a2) (a3) ) (fun v22 sv23 p24 => ?_)
    obtain ⟨r25, rfl, rfl⟩ := p24
    have rg_r25 := l_rng r25
    show hw sk base _ _ _ _ _ [.long (r25)] _ _
    refine xw_lret (aX9_joined 22 rfl) rfl ?_
    exact ⟨r25, rfl, rfl⟩
  · refine xw_tsw (tgt := 100) aX9_joined_1 (by exact Or.inr ⟨by omega, by omega, _, by rw [hsw]; rfl, by decide⟩) ?_
    refine xw_lloadn (aX9_joined 23 rfl) rfl ?_
    refine xw_lloadn (aX9_joined 24 rfl) rfl ?_
    refine xw_lmul (aX9_joined 25 rfl) ?_
    refine hw_tl (fun x31 => ?_)
    have b32 := l_rng x31
    refine xw_lret (aX9_joined 26 rfl) rfl ?_
    exact ⟨x31, rfl, rfl⟩
  · refine xw_tsw (tgt := 123) aX9_joined_1 (by rcases hsw with hsw | hsw | hsw <;> exact Or.inr ⟨by omega, by omega, _, by rw [hsw]; rfl, by decide⟩) ?_
    refine xw_iloadn (aX9_joined 44 rfl) rfl ?_
    refine xw_lloadn (aX9_joined 45 rfl) rfl ?_
    refine xw_lloadn (aX9_joined 46 rfl) rfl ?_
    refine hw_callS (As := [.int (a1), .long (a2), .long (a3)]) (rest := []) (aX9_joined 47 rfl) wc_RX9_268 (by decide) rfl wt_yX9_compared rfl rfl (Nat.le_of_ble_eq_true rfl) (Nat.le_of_ble_eq_true rfl) (k_X9_compared (d := d + 1) hS hF hI hR (a1) (a2) (a3) ) (fun v33 sv34 p35 => ?_)
    obtain ⟨r36, rfl, rfl, t40⟩ := p35
    show hw sk base _ _ _ _ _ [.int (r36)] _ _
    refine hw_ifeq (tgt := 136) (aX9_joined 48 rfl) (by decide) rfl (fun cd43 => ?_) (fun cd43 => ?_)
    · refine hw_lc (v := (0 : Int64)) (aX9_joined 51 rfl) (by decide) ?_
      refine xw_lret (aX9_joined 52 rfl) rfl ?_
      have e44 : ((0 : Int64)).toInt = 0 := (by decide : (0 : Int64).toInt = 0)
      exact ⟨(0 : Int64), rfl, rfl⟩
    · refine hw_lc (v := (1 : Int64)) (aX9_joined 49 rfl) (by decide) ?_
      refine xw_goto (tgt := 137) (aX9_joined 50 rfl) (by decide) ?_
      refine xw_lret (aX9_joined 52 rfl) rfl ?_
      have e45 : ((1 : Int64)).toInt = 1 := (by decide : (1 : Int64).toInt = 1)
      exact ⟨(1 : Int64), rfl, rfl⟩
  · refine xw_tsw (tgt := 104) aX9_joined_1 (by exact Or.inr ⟨by omega, by omega, _, by rw [hsw]; rfl, by decide⟩) ?_
    refine xw_lloadn (aX9_joined 27 rfl) rfl ?_
    refine xw_lloadn (aX9_joined 28 rfl) rfl ?_
    refine xw_lor (aX9_joined 29 rfl) ?_
    refine hw_tl (fun x46 => ?_)
    have b47 := l_rng x46
    refine xw_lret (aX9_joined 30 rfl) rfl ?_
    exact ⟨x46, rfl, rfl⟩
  · refine xw_tsw (tgt := 108) aX9_joined_1 (by exact Or.inr ⟨by omega, by omega, _, by rw [hsw]; rfl, by decide⟩) ?_
    refine xw_lloadn (aX9_joined 31 rfl) rfl ?_
    refine xw_lloadn (aX9_joined 32 rfl) rfl ?_
    refine xw_ladd (aX9_joined 33 rfl) ?_
    refine hw_tl (fun x48 => ?_)
    have b49 := l_rng x48
    refine xw_lret (aX9_joined 34 rfl) rfl ?_
    exact ⟨x48, rfl, rfl⟩
  · refine xw_tsw (tgt := 112) aX9_joined_1 (by rcases hsw with hsw | hsw | hsw <;> exact Or.inr ⟨by omega, by omega, _, by rw [hsw]; rfl, by decide⟩) ?_
    refine xw_iloadn (aX9_joined 35 rfl) rfl ?_
    refine xw_lloadn (aX9_joined 36 rfl) rfl ?_
    refine xw_lloadn (aX9_joined 37 rfl) rfl ?_
    refine hw_callS (As := [.int (a1), .long (a2), .long (a3)]) (rest := []) (aX9_joined 38 rfl) wc_RX9_265 (by decide) rfl wt_yX9_shifted rfl rfl (Nat.le_of_ble_eq_true rfl) (Nat.le_of_ble_eq_true rfl) (k_X9_shifted (d := d + 1) hS hF hI hR (a1) (a2) (a3) ) (fun v50 sv51 p52 => ?_)
    obtain ⟨r53, rfl, rfl⟩ := p52
    have rg_r53 := l_rng r53
    show hw sk base _ _ _ _ _ [.long (r53)] _ _
    refine xw_lret (aX9_joined 39 rfl) rfl ?_
    exact ⟨r53, rfl, rfl⟩
  · refine xw_tsw (tgt := 119) aX9_joined_1 (by exact Or.inr ⟨by omega, by omega, _, by rw [hsw]; rfl, by decide⟩) ?_
    refine xw_lloadn (aX9_joined 40 rfl) rfl ?_
    refine xw_lloadn (aX9_joined 41 rfl) rfl ?_
    refine xw_lxor (aX9_joined 42 rfl) ?_
    refine hw_tl (fun x59 => ?_)
    have b60 := l_rng x59
    refine xw_lret (aX9_joined 43 rfl) rfl ?_
    exact ⟨x59, rfl, rfl⟩
def nX11_endless : Nat := 0xac049f00b603031b042a
theorem bX11_endless : cX11_endless.data.toList.map UInt8.toNat = x_un nX11_endless 10 := by decide +kernel
def iX11_endless : List (Nat × Jvm.ClassFile.Instr × Nat) := [(0, .aload_n 0, 1), (1, .iconst 1, 1), (2, .iload_n 1, 1), (3, .iconst 0, 1), (4, .iconst 0, 1), (5, .invokevirtual 159, 3), (8, .iconst 1, 1), (9, .ireturn, 1)]
theorem dX11_endless : x_il nX11_endless 10 iX11_endless = true := by decide +kernel
theorem aX11_endless (k : Nat) {pc : Nat} {i : Jvm.ClassFile.Instr} {len : Nat} (hk : iX11_endless[k]? = some (pc, i, len)) : x_at xMM 136 pc i len yX11_endless 2 (some .int) := ⟨cX11_endless, rfl, x_il_ok bX11_endless dX11_endless k hk⟩
set_option maxHeartbeats 4000000 in
set_option maxRecDepth 100000 in
theorem k_X11_endless {sk : xK} {base d n sl : Nat} {SH : Nat → Nat × Nat} {FI : Nat → Nat → Int32} {FL : Nat → Nat → Int64} {FR : Nat → Nat → Option Nat} (hS : h_S n SH) (hF : h_FR FR) (hI : g_I FI) (hR : g_R n SH FR) (a1 : Int32) : hw sk base (d + 1) none 136 0 [(0, .ref (base + 0)), (1, .int (a1))] [] (n, sl, SH, FI, FL, FR) (h_I (fun r s => ∃ FI', s = (n, sl, SH, FI', FL, FR) ∧ g_I FI' ∧ g_fr n (shd SH) [] [21] [] FI FI')) := by
  have rg_a1 := i_rng a1
  refine hw_aloadn (aX11_endless 0 rfl) rfl ?_
  refine hw_ic (v := (1 : Int32)) (aX11_endless 1 rfl) (by decide) ?_
  refine xw_iloadn (aX11_endless 2 rfl) rfl ?_
  refine hw_ic (v := (0 : Int32)) (aX11_endless 3 rfl) (by decide) ?_
  refine hw_ic (v := (0 : Int32)) (aX11_endless 4 rfl) (by decide) ?_
  refine hw_callV (Bs := [.int ((1 : Int32)), .int (a1), .int ((0 : Int32)), .int ((0 : Int32))]) (rest := []) (aX11_endless 5 rfl) wc_RX11_159 (by decide) rfl wi_yX11_tell wv_yX11_tell (c0 hS) (s0 hS) rfl rfl rfl (Nat.le_of_ble_eq_true rfl) (Nat.le_of_ble_eq_true rfl) (k_X11_tell (d := d) hS hF hI hR ((1 : Int32)) (a1) ((0 : Int32)) ((0 : Int32)) ) (fun v1 sv2 p3 => ?_)
  obtain ⟨rfl, FI5, rfl, hI6, f7⟩ := p3
  show hw sk base _ _ _ _ _ [] _ _
  refine hw_ic (v := (1 : Int32)) (aX11_endless 6 rfl) (by decide) ?_
  refine xw_iret (aX11_endless 7 rfl) rfl rfl ?_
  have e12 : ((1 : Int32)).toInt = 1 := (by decide : (1 : Int32).toInt = 1)
  exact ⟨(1 : Int32), rfl, FI5, rfl, hI6, (gf_tr ex_rf gf_rf f7 rfl rfl rfl)⟩
