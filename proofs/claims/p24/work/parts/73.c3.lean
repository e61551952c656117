def nX0_isPlainTerm : Nat := 0xac030400a7040700a02d108b00b42a0c009f2b108b00b42a1900a0086000b42a2100c62a
theorem bX0_isPlainTerm : cX0_isPlainTerm.data.toList.map UInt8.toNat = x_un nX0_isPlainTerm 36 := by decide +kernel
def iX0_isPlainTerm : List (Nat × Jvm.ClassFile.Instr × Nat) := [(0, .aload_n 0, 1), (1, .ifnull 33, 3), (4, .aload_n 0, 1), (5, .getfield 96, 3), (8, .iconst 5, 1), (9, .if_icmp .ne 25, 3), (12, .aload_n 0, 1), (13, .getfield 139, 3), (16, .bipush 43, 2), (18, .if_icmp .eq 12, 3), (21, .aload_n 0, 1), (22, .getfield 139, 3), (25, .bipush 45, 2), (27, .if_icmp .ne 7, 3), (30, .iconst 1, 1), (31, .goto 4, 3), (34, .iconst 0, 1), (35, .ireturn, 1)]
theorem dX0_isPlainTerm : x_il nX0_isPlainTerm 36 iX0_isPlainTerm = true := by decide +kernel
theorem aX0_isPlainTerm (k : Nat) {pc : Nat} {i : Jvm.ClassFile.Instr} {len : Nat} (hk : iX0_isPlainTerm[k]? = some (pc, i, len)) : x_at xMM 11 pc i len yX0_isPlainTerm 1 (some .boolean) := ⟨cX0_isPlainTerm, rfl, x_il_ok bX0_isPlainTerm dX0_isPlainTerm k hk⟩
set_option maxHeartbeats 4000000 in
set_option maxRecDepth 100000 in
theorem k_X0_isPlainTerm {sk : xK} {base d n sl : Nat} {SH : Nat → Nat × Nat} {FI : Nat → Nat → Int32} {FL : Nat → Nat → Int64} {FR : Nat → Nat → Option Nat} (hS : h_S n SH) (hF : h_FR FR) (hI : g_I FI) (hR : g_R n SH FR) (a1 : Nat) {z1 : Nat} (ha1l : a1 < n) (ha1s : SH a1 = (3, z1)) (ha1o : own a1) : hw sk base d none 11 0 [(0, .ref (base + a1))] [] (n, sl, SH, FI, FL, FR) (h_I (fun r s => s = (n, sl, SH, FI, FL, FR) ∧ (0 ≤ r.toInt ∧ r.toInt ≤ 1))) := by
  refine hw_aloadn (aX0_isPlainTerm 0 rfl) rfl ?_
  refine xw_ifnull (v := some (base + a1)) (tgt := 34) (aX0_isPlainTerm 1 rfl) (by decide) (fun hn1 => ?_) (fun hn1 => ?_)
  · exact absurd hn1 (by simp)
  · refine hw_aloadn (aX0_isPlainTerm 2 rfl) rfl ?_
    obtain ⟨x2, h3⟩ : ∃ y, FI a1 0 = y := ⟨_, rfl⟩
    have h3l := congrArg Int32.toInt h3
    have := i_rng x2
    refine hw_get (v := .int (x2)) (aX0_isPlainTerm 3 rfl) wf_RX0_96 ha1l ha1s (by decide) (congrArg Value.int (show FI a1 0 = x2 from h3)) ?_
    refine hw_ic (v := (5 : Int32)) (aX0_isPlainTerm 4 rfl) (by decide) ?_
    refine hw_icne (tgt := 34) (aX0_isPlainTerm 5 rfl) (by decide) rfl (by decide : (5 : Int32).toInt = 5) (fun cd4 => ?_) (fun cd4 => ?_)
    · refine hw_ic (v := (0 : Int32)) (aX0_isPlainTerm 16 rfl) (by decide) ?_
      refine xw_iret (aX0_isPlainTerm 17 rfl) rfl (by decide) ?_
      have e5 : ((0 : Int32)).toInt = 0 := (by decide : (0 : Int32).toInt = 0)
      exact ⟨(0 : Int32), rfl, rfl, (by have : ((0 : Int32)).toInt = 0 := (by decide); omega)⟩
    · refine hw_aloadn (aX0_isPlainTerm 6 rfl) rfl ?_
      obtain ⟨x6, h7⟩ : ∃ y, FI a1 2 = y := ⟨_, rfl⟩
      have h7l := congrArg Int32.toInt h7
      have := i_rng x6
      refine hw_get (v := .int (x6)) (aX0_isPlainTerm 7 rfl) wf_RX0_139 ha1l ha1s (by decide) (congrArg Value.int (show FI a1 2 = x6 from h7)) ?_
      refine hw_bp (v := (43 : Int32)) (aX0_isPlainTerm 8 rfl) (by decide) ?_
      refine hw_iceq (tgt := 30) (aX0_isPlainTerm 9 rfl) (by decide) rfl (by decide : (43 : Int32).toInt = 43) (fun cd8 => ?_) (fun cd8 => ?_)
      · refine hw_ic (v := (1 : Int32)) (aX0_isPlainTerm 14 rfl) (by decide) ?_
        refine xw_goto (tgt := 35) (aX0_isPlainTerm 15 rfl) (by decide) ?_
        refine xw_iret (aX0_isPlainTerm 17 rfl) rfl (by decide) ?_
        have e9 : ((1 : Int32)).toInt = 1 := (by decide : (1 : Int32).toInt = 1)
        exact ⟨(1 : Int32), rfl, rfl, (by have : ((1 : Int32)).toInt = 1 := (by decide); omega)⟩
      · refine hw_aloadn (aX0_isPlainTerm 10 rfl) rfl ?_
        refine hw_get (v := .int (x6)) (aX0_isPlainTerm 11 rfl) wf_RX0_139 ha1l ha1s (by decide) (congrArg Value.int (show FI a1 2 = x6 from h7)) ?_
        refine hw_bp (v := (45 : Int32)) (aX0_isPlainTerm 12 rfl) (by decide) ?_
        refine hw_icne (tgt := 34) (aX0_isPlainTerm 13 rfl) (by decide) rfl (by decide : (45 : Int32).toInt = 45) (fun cd10 => ?_) (fun cd10 => ?_)
        · refine hw_ic (v := (0 : Int32)) (aX0_isPlainTerm 16 rfl) (by decide) ?_
          refine xw_iret (aX0_isPlainTerm 17 rfl) rfl (by decide) ?_
          have e11 : ((0 : Int32)).toInt = 0 := (by decide : (0 : Int32).toInt = 0)
          exact ⟨(0 : Int32), rfl, rfl, (by have : ((0 : Int32)).toInt = 0 := (by decide); omega)⟩
        · refine hw_ic (v := (1 : Int32)) (aX0_isPlainTerm 14 rfl) (by decide) ?_
          refine xw_goto (tgt := 35) (aX0_isPlainTerm 15 rfl) (by decide) ?_
          refine xw_iret (aX0_isPlainTerm 17 rfl) rfl (by decide) ?_
          have e12 : ((1 : Int32)).toInt = 1 := (by decide : (1 : Int32).toInt = 1)
          exact ⟨(1 : Int32), rfl, rfl, (by have : ((1 : Int32)).toInt = 1 := (by decide); omega)⟩
def nX0_put : Nat := 0xb10f00b560040f00b4592a4f7eff00111b0f00b42a0900b42a1100a2be0900b42a0f00b42a
theorem bX0_put : cX0_put.data.toList.map UInt8.toNat = x_un nX0_put 37 := by decide +kernel
def iX0_put : List (Nat × Jvm.ClassFile.Instr × Nat) := [(0, .aload_n 0, 1), (1, .getfield 15, 3), (4, .aload_n 0, 1), (5, .getfield 9, 3), (8, .arraylength, 1), (9, .if_icmp .ge 17, 3), (12, .aload_n 0, 1), (13, .getfield 9, 3), (16, .aload_n 0, 1), (17, .getfield 15, 3), (20, .iload_n 1, 1), (21, .sipush 255, 3), (24, .iand, 1), (25, .iastore, 1), (26, .aload_n 0, 1), (27, .dup, 1), (28, .getfield 15, 3), (31, .iconst 1, 1), (32, .iadd, 1), (33, .putfield 15, 3), (36, .return_, 1)]
theorem dX0_put : x_il nX0_put 37 iX0_put = true := by decide +kernel
theorem aX0_put (k : Nat) {pc : Nat} {i : Jvm.ClassFile.Instr} {len : Nat} (hk : iX0_put[k]? = some (pc, i, len)) : x_at xMM 14 pc i len yX0_put 2 none := ⟨cX0_put, rfl, x_il_ok bX0_put dX0_put k hk⟩
set_option maxHeartbeats 4000000 in
set_option maxRecDepth 100000 in
theorem k_X0_put {sk : xK} {base d n sl : Nat} {SH : Nat → Nat × Nat} {FI : Nat → Nat → Int32} {FL : Nat → Nat → Int64} {FR : Nat → Nat → Option Nat} (hS : h_S n SH) (hF : h_FR FR) (hI : g_I FI) (hR : g_R n SH FR) (a1 : Int32) (g0 : (FI 119 1).toInt ≤ 1999999999) : hw sk base d none 14 0 [(0, .ref (base + 119)), (1, .int (a1))] [] (n, sl, SH, FI, FL, FR) (h_V (fun s => ∃ FI', s = (n, sl, SH, FI', FL, FR) ∧ g_I FI' ∧ g_fr n (shd SH) [(119, 1)] [120] [] FI FI' ∧ ((FI' 119 1).toInt = (FI 119 1).toInt + 1))) := by
  have rg_a1 := i_rng a1
  obtain ⟨x1, h2⟩ : ∃ y, FI 119 1 = y := ⟨_, rfl⟩
  have h2l := congrArg Int32.toInt h2
  have b3 := gI_119_1 hI; rw [h2] at b3
  refine hw_aloadn (aX0_put 0 rfl) rfl ?_
  refine hw_get (v := .int (x1)) (aX0_put 1 rfl) wf_RX0_15 (c119 hS) (s119 hS) (by decide) (congrArg Value.int (show FI 119 1 = x1 from h2)) ?_
  refine hw_aloadn (aX0_put 2 rfl) rfl ?_
  refine hw_get (v := .ref (base + 120)) (aX0_put 3 rfl) wf_RX0_9 (c119 hS) (s119 hS) (by decide) (congrArg (fun r => va_rf (h_rf base r)) (r119_0 hF)) ?_
  refine hw_alen (k := 0) (z := 600) (v := (600 : Int32)) (aX0_put 4 rfl) (c120 hS) (s120 hS) (by decide) (by decide) ?_
  refine hw_icge (tgt := 26) (aX0_put 5 rfl) (by decide) rfl (by decide : (600 : Int32).toInt = 600) (fun cd4 => ?_) (fun cd4 => ?_)
  · refine hw_aloadn (aX0_put 14 rfl) rfl ?_
    refine xw_dup (aX0_put 15 rfl) rfl ?_
    refine hw_get (v := .int (x1)) (aX0_put 16 rfl) wf_RX0_15 (c119 hS) (s119 hS) (by decide) (congrArg Value.int (show FI 119 1 = x1 from h2)) ?_
    refine hw_ic (v := (1 : Int32)) (aX0_put 17 rfl) (by decide) ?_
    refine xw_iadd (aX0_put 18 rfl) ?_
    refine hw_tie (A := ((x1).toInt) + (1)) (i_add rfl (by decide : (1 : Int32).toInt = 1) (by omega) (by omega)) (fun x5 e6 => ?_)
    refine hv_puti (aX0_put 19 rfl) wf_RX0_15 (c119 hS) (s119 hS) (by decide) rfl rfl (fun FI7 u8 => ?_)
    have hI9 : g_I FI7 := gU_119_1 hI u8 (by have := (e6 : (x5).toInt = ((x1).toInt) + (1)); omega) (by have := (e6 : (x5).toInt = ((x1).toInt) + (1)); omega)
    refine xw_vret (aX0_put 20 rfl) rfl ?_
    exact ⟨rfl, FI7, rfl, hI9, (gf_f gf_rf u8 (by decide)), (by have := congrArg Int32.toInt (show FI7 119 1 = x5 from up_eq u8); have := (e6 : (x5).toInt = ((x1).toInt) + (1)); omega)⟩
  · refine hw_aloadn (aX0_put 6 rfl) rfl ?_
    refine hw_get (v := .ref (base + 120)) (aX0_put 7 rfl) wf_RX0_9 (c119 hS) (s119 hS) (by decide) (congrArg (fun r => va_rf (h_rf base r)) (r119_0 hF)) ?_
    refine hw_aloadn (aX0_put 8 rfl) rfl ?_
    refine hw_get (v := .int (x1)) (aX0_put 9 rfl) wf_RX0_15 (c119 hS) (s119 hS) (by decide) (congrArg Value.int (show FI 119 1 = x1 from h2)) ?_
    refine xw_iloadn (aX0_put 10 rfl) rfl ?_
    refine hw_sp (v := (255 : Int32)) (aX0_put 11 rfl) (by decide) ?_
    refine xw_iand (aX0_put 12 rfl) ?_
    refine hw_tib (lo := 0) (hi := 255) (i_and (x := a1) (m := (255 : Int32)) (M := 255) (by decide) (by decide)) (fun x10 b11 => ?_)
    refine hv_iast (k := (x1).toNatClampNeg) (aX0_put 13 rfl) (c120 hS) (s120 hS) (h_in rfl (by omega) (by omega)) rfl (fun FI12 u13 => ?_)
    have hI14 : g_I FI12 := gU_F hI u13 rfl
    refine hw_aloadn (aX0_put 14 rfl) rfl ?_
    refine xw_dup (aX0_put 15 rfl) rfl ?_
    refine hw_get (v := .int (x1)) (aX0_put 16 rfl) wf_RX0_15 (c119 hS) (s119 hS) (by decide) (congrArg Value.int (show FI12 119 1 = x1 from (up_c u13 (by decide) (h2)))) ?_
    refine hw_ic (v := (1 : Int32)) (aX0_put 17 rfl) (by decide) ?_
    refine xw_iadd (aX0_put 18 rfl) ?_
    refine hw_tie (A := ((x1).toInt) + (1)) (i_add rfl (by decide : (1 : Int32).toInt = 1) (by omega) (by omega)) (fun x15 e16 => ?_)
    refine hv_puti (aX0_put 19 rfl) wf_RX0_15 (c119 hS) (s119 hS) (by decide) rfl rfl (fun FI17 u18 => ?_)
    have hI19 : g_I FI17 := gU_119_1 hI14 u18 (by have := (e16 : (x15).toInt = ((x1).toInt) + (1)); omega) (by have := (e16 : (x15).toInt = ((x1).toInt) + (1)); omega)
    refine xw_vret (aX0_put 20 rfl) rfl ?_
    exact ⟨rfl, FI17, rfl, hI19, (gf_f (gf_a gf_rf u13 (by decide)) u18 (by decide)), (by have := congrArg Int32.toInt (show FI17 119 1 = x15 from up_eq u18); have := (e16 : (x15).toInt = ((x1).toInt) + (1)); omega)⟩
def nX0_patch : Nat := 0xb14f7eff00117c08101c60041b0900b42a4f7eff00111c1b0900b42a1e00a2be0900b42a60041b29009b1b
theorem bX0_patch : cX0_patch.data.toList.map UInt8.toNat = x_un nX0_patch 43 := by decide +kernel
def iX0_patch : List (Nat × Jvm.ClassFile.Instr × Nat) := [(0, .iload_n 1, 1), (1, .ifCond .lt 41, 3), (4, .iload_n 1, 1), (5, .iconst 1, 1), (6, .iadd, 1), (7, .aload_n 0, 1), (8, .getfield 9, 3), (11, .arraylength, 1), (12, .if_icmp .ge 30, 3), (15, .aload_n 0, 1), (16, .getfield 9, 3), (19, .iload_n 1, 1), (20, .iload_n 2, 1), (21, .sipush 255, 3), (24, .iand, 1), (25, .iastore, 1), (26, .aload_n 0, 1), (27, .getfield 9, 3), (30, .iload_n 1, 1), (31, .iconst 1, 1), (32, .iadd, 1), (33, .iload_n 2, 1), (34, .bipush 8, 2), (36, .iushr, 1), (37, .sipush 255, 3), (40, .iand, 1), (41, .iastore, 1), (42, .return_, 1)]
theorem dX0_patch : x_il nX0_patch 43 iX0_patch = true := by decide +kernel
theorem aX0_patch (k : Nat) {pc : Nat} {i : Jvm.ClassFile.Instr} {len : Nat} (hk : iX0_patch[k]? = some (pc, i, len)) : x_at xMM 16 pc i len yX0_patch 3 none := ⟨cX0_patch, rfl, x_il_ok bX0_patch dX0_patch k hk⟩
set_option maxHeartbeats 4000000 in
set_option maxRecDepth 100000 in
theorem k_X0_patch {sk : xK} {base d n sl : Nat} {SH : Nat → Nat × Nat} {FI : Nat → Nat → Int32} {FL : Nat → Nat → Int64} {FR : Nat → Nat → Option Nat} (hS : h_S n SH) (hF : h_FR FR) (hI : g_I FI) (hR : g_R n SH FR) (a1 : Int32) (a2 : Int32) (g0 : -1 ≤ (a1).toInt ∧ (a1).toInt ≤ 2000000000) : hw sk base d none 16 0 [(0, .ref (base + 119)), (1, .int (a1)), (2, .int (a2))] [] (n, sl, SH, FI, FL, FR) (h_V (fun s => ∃ FI', s = (n, sl, SH, FI', FL, FR) ∧ g_I FI' ∧ g_fr n (shd SH) [] [120] [] FI FI')) := by
  have rg_a1 := i_rng a1
  have rg_a2 := i_rng a2
  refine xw_iloadn (aX0_patch 0 rfl) rfl ?_
  refine hw_iflt (tgt := 42) (aX0_patch 1 rfl) (by decide) rfl (fun cd1 => ?_) (fun cd1 => ?_)
  · refine xw_vret (aX0_patch 27 rfl) rfl ?_
    exact ⟨rfl, FI, rfl, hI, gf_rf⟩
  · refine xw_iloadn (aX0_patch 2 rfl) rfl ?_
    refine hw_ic (v := (1 : Int32)) (aX0_patch 3 rfl) (by decide) ?_
    refine xw_iadd (aX0_patch 4 rfl) ?_
    refine hw_tie (A := ((a1).toInt) + (1)) (i_add rfl (by decide : (1 : Int32).toInt = 1) (by omega) (by omega)) (fun x2 e3 => ?_)
    refine hw_aloadn (aX0_patch 5 rfl) rfl ?_
    refine hw_get (v := .ref (base + 120)) (aX0_patch 6 rfl) wf_RX0_9 (c119 hS) (s119 hS) (by decide) (congrArg (fun r => va_rf (h_rf base r)) (r119_0 hF)) ?_
    refine hw_alen (k := 0) (z := 600) (v := (600 : Int32)) (aX0_patch 7 rfl) (c120 hS) (s120 hS) (by decide) (by decide) ?_
    refine hw_icge (tgt := 42) (aX0_patch 8 rfl) (by decide) e3 (by decide : (600 : Int32).toInt = 600) (fun cd4 => ?_) (fun cd4 => ?_)
    · refine xw_vret (aX0_patch 27 rfl) rfl ?_
      exact ⟨rfl, FI, rfl, hI, gf_rf⟩
    · refine hw_aloadn (aX0_patch 9 rfl) rfl ?_
      refine hw_get (v := .ref (base + 120)) (aX0_patch 10 rfl) wf_RX0_9 (c119 hS) (s119 hS) (by decide) (congrArg (fun r => va_rf (h_rf base r)) (r119_0 hF)) ?_
      refine xw_iloadn (aX0_patch 11 rfl) rfl ?_
      refine xw_iloadn (aX0_patch 12 rfl) rfl ?_
      refine hw_sp (v := (255 : Int32)) (aX0_patch 13 rfl) (by decide) ?_
      refine xw_iand (aX0_patch 14 rfl) ?_
      refine hw_tib (lo := 0) (hi := 255) (i_and (x := a2) (m := (255 : Int32)) (M := 255) (by decide) (by decide)) (fun x5 b6 => ?_)
      refine hv_iast (k := (a1).toNatClampNeg) (aX0_patch 15 rfl) (c120 hS) (s120 hS) (h_in rfl (by omega) (by omega)) rfl (fun FI7 u8 => ?_)
      have hI9 : g_I FI7 := gU_F hI u8 rfl
      refine hw_aloadn (aX0_patch 16 rfl) rfl ?_
      refine hw_get (v := .ref (base + 120)) (aX0_patch 17 rfl) wf_RX0_9 (c119 hS) (s119 hS) (by decide) (congrArg (fun r => va_rf (h_rf base r)) (r119_0 hF)) ?_
      refine xw_iloadn (aX0_patch 18 rfl) rfl ?_
      refine hw_ic (v := (1 : Int32)) (aX0_patch 19 rfl) (by decide) ?_
      refine xw_iadd (aX0_patch 20 rfl) ?_
      refine hw_tie (A := ((a1).toInt) + (1)) (i_add rfl (by decide : (1 : Int32).toInt = 1) (by omega) (by omega)) (fun x10 e11 => ?_)
      refine xw_iloadn (aX0_patch 21 rfl) rfl ?_
      refine hw_bp (v := (8 : Int32)) (aX0_patch 22 rfl) (by decide) ?_
      refine xw_iushr (aX0_patch 23 rfl) ?_
      refine hw_ti (fun x12 => ?_)
      have b13 := i_rng x12
      refine hw_sp (v := (255 : Int32)) (aX0_patch 24 rfl) (by decide) ?_
      refine xw_iand (aX0_patch 25 rfl) ?_
      refine hw_tib (lo := 0) (hi := 255) (i_and (x := x12) (m := (255 : Int32)) (M := 255) (by decide) (by decide)) (fun x14 b15 => ?_)
      refine hv_iast (k := (x10).toNatClampNeg) (aX0_patch 26 rfl) (c120 hS) (s120 hS) (h_in e11 (by omega) (by omega)) rfl (fun FI16 u17 => ?_)
      have hI18 : g_I FI16 := gU_F hI9 u17 rfl
      refine xw_vret (aX0_patch 27 rfl) rfl ?_
      exact ⟨rfl, FI16, rfl, hI18, (gf_a (gf_a gf_rf u8 (by decide)) u17 (by decide))⟩
def nX1_bitOf : Nat := 0xac02ac7e047c7008101c05150c00a7020700a002051505363900b6856c08101c2bac020400a7887f0a7d1c3700b42b0f00a240101cac020400a7887f0a7d1c2200b63700b42b2a1300a240101cac020400a77e047c7008101c2e88210f00b42a1400992a00b604212a4261856c08101c3700b42b730000005f0000004700000020000000040000000100000092000000000000aa3200b42b
theorem bX1_bitOf : cX1_bitOf.data.toList.map UInt8.toNat = x_un nX1_bitOf 152 := by decide +kernel
def iX1_bitOf : List (Nat × Jvm.ClassFile.Instr × Nat) := [(0, .aload_n 1, 1), (1, .getfield 50, 3), (36, .aload_n 1, 1), (37, .getfield 55, 3), (40, .iload_n 2, 1), (41, .bipush 8, 2), (43, .idiv, 1), (44, .i2l, 1), (45, .ladd, 1), (46, .lstore_n 3, 1), (47, .aload_n 0, 1), (48, .lload_n 3, 1), (49, .iconst 1, 1), (50, .invokevirtual 42, 3), (53, .ifCond .eq 20, 3), (56, .aload_n 0, 1), (57, .getfield 15, 3), (60, .lload_n 3, 1), (61, .l2i, 1), (62, .iaload, 1), (63, .iload_n 2, 1), (64, .bipush 8, 2), (66, .irem, 1), (67, .iushr, 1), (68, .iconst 1, 1), (69, .iand, 1), (70, .goto 4, 3), (73, .iconst (-1), 1), (74, .ireturn, 1), (75, .iload_n 2, 1), (76, .bipush 64, 2), (78, .if_icmp .ge 19, 3), (81, .aload_n 0, 1), (82, .aload_n 1, 1), (83, .getfield 55, 3), (86, .invokevirtual 34, 3), (89, .iload_n 2, 1), (90, .lushr, 1), (91, .lconst 1, 1), (92, .land, 1), (93, .l2i, 1), (94, .goto 4, 3), (97, .iconst (-1), 1), (98, .ireturn, 1), (99, .iload_n 2, 1), (100, .bipush 64, 2), (102, .if_icmp .ge 15, 3), (105, .aload_n 1, 1), (106, .getfield 55, 3), (109, .iload_n 2, 1), (110, .lushr, 1), (111, .lconst 1, 1), (112, .land, 1), (113, .l2i, 1), (114, .goto 4, 3), (117, .iconst (-1), 1), (118, .ireturn, 1), (119, .aload_n 1, 1), (120, .iload_n 2, 1), (121, .bipush 8, 2), (123, .idiv, 1), (124, .i2l, 1), (125, .invokevirtual 57, 3), (128, .istore 5, 2), (130, .iload 5, 2), (132, .iconst (-1), 1), (133, .if_icmp .ne 7, 3), (136, .iconst (-1), 1), (137, .goto 12, 3), (140, .iload 5, 2), (142, .iload_n 2, 1), (143, .bipush 8, 2), (145, .irem, 1), (146, .iushr, 1), (147, .iconst 1, 1), (148, .iand, 1), (149, .ireturn, 1), (150, .iconst (-1), 1), (151, .ireturn, 1)]
theorem dX1_bitOf : x_il nX1_bitOf 152 iX1_bitOf = true := by decide +kernel
theorem aX1_bitOf (k : Nat) {pc : Nat} {i : Jvm.ClassFile.Instr} {len : Nat} (hk : iX1_bitOf[k]? = some (pc, i, len)) : x_at xMM 24 pc i len yX1_bitOf 6 (some .int) := ⟨cX1_bitOf, rfl, x_il_ok bX1_bitOf dX1_bitOf k hk⟩
theorem aX1_bitOf_4 : x_at xMM 24 4 (.tableswitch 146 1 4 #[32, 71, 95, 115]) 32 yX1_bitOf 6 (some .int) := ⟨cX1_bitOf, rfl, by decide +kernel⟩
set_option maxHeartbeats 4000000 in
set_option maxRecDepth 100000 in
theorem k_X1_bitOf {sk : xK} {base d n sl : Nat} {SH : Nat → Nat × Nat} {FI : Nat → Nat → Int32} {FL : Nat → Nat → Int64} {FR : Nat → Nat → Option Nat} (hS : h_S n SH) (hF : h_FR FR) (hI : g_I FI) (hR : g_R n SH FR) (a1 : Nat) {z1 : Nat} (ha1l : a1 < n) (ha1s : SH a1 = (5, z1)) (ha1o : own a1) (a2 : Int32) : hw sk base (d + 2) none 24 0 [(0, .ref (base + 23)), (1, .ref (base + a1)), (2, .int (a2))] [] (n, sl, SH, FI, FL, FR) (h_I (fun r s => s = (n, sl, SH, FI, FL, FR))) := by
  have rg_a2 := i_rng a2
  refine hw_aloadn (aX1_bitOf 0 rfl) rfl ?_
  obtain ⟨x1, h2⟩ : ∃ y, FI a1 0 = y := ⟨_, rfl⟩
  have h2l := congrArg Int32.toInt h2
  have := i_rng x1
  refine hw_get (v := .int (x1)) (aX1_bitOf 1 rfl) wf_RX1_50 ha1l ha1s (by decide) (congrArg Value.int (show FI a1 0 = x1 from h2)) ?_
  have hsw : ((x1).toInt < 1 ∨ 4 < (x1).toInt) ∨ ((x1).toInt = 1) ∨ ((x1).toInt = 2) ∨ ((x1).toInt = 3) ∨ ((x1).toInt = 4) := by omega
  rcases hsw with hsw | hsw | hsw | hsw | hsw
  · refine xw_tsw (tgt := 150) aX1_bitOf_4 (Or.inl ⟨hsw, by decide⟩) ?_
    refine hw_ic (v := ((-1) : Int32)) (aX1_bitOf 77 rfl) (by decide) ?_
    refine xw_iret (aX1_bitOf 78 rfl) rfl rfl ?_
    have e3 : (((-1) : Int32)).toInt = (-1) := (by decide : ((-1) : Int32).toInt = (-1))
    exact ⟨((-1) : Int32), rfl, rfl⟩
  · refine xw_tsw (tgt := 36) aX1_bitOf_4 (by exact Or.inr ⟨by omega, by omega, _, by rw [hsw]; rfl, by decide⟩) ?_
    refine hw_aloadn (aX1_bitOf 2 rfl) rfl ?_
    obtain ⟨x4, h5⟩ : ∃ y, FL a1 1 = y := ⟨_, rfl⟩
    have h5l := congrArg Int64.toInt h5
    have := l_rng x4
    refine hw_get (v := .long (x4)) (aX1_bitOf 3 rfl) wf_RX1_55 ha1l ha1s (by decide) (congrArg Value.long (show FL a1 1 = x4 from h5)) ?_
    refine xw_iloadn (aX1_bitOf 4 rfl) rfl ?_
    refine hw_bp (v := (8 : Int32)) (aX1_bitOf 5 rfl) (by decide) ?_
    refine xw_idiv (aX1_bitOf 6 rfl) (i_ne0 (by decide : (8 : Int32).toInt = 8) (by omega)) ?_
    refine hw_ti (fun x6 => ?_)
    have b7 := i_rng x6
    refine xw_i2l (aX1_bitOf 7 rfl) ?_
    refine hw_tle (A := (x6).toInt) (i_2l rfl) (fun x8 e9 => ?_)
    refine xw_ladd (aX1_bitOf 8 rfl) ?_
    refine hw_tl (fun x10 => ?_)
    have b11 := l_rng x10
    refine xw_lstoren (L2 := [(3, .long (x10)), (0, .ref (base + 23)), (1, .ref (base + a1)), (2, .int (a2))]) (aX1_bitOf 9 rfl) (by decide) rfl ?_
    refine hw_aloadn (aX1_bitOf 10 rfl) rfl ?_
    refine xw_lloadn (aX1_bitOf 11 rfl) rfl ?_
    refine hw_ic (v := (1 : Int32)) (aX1_bitOf 12 rfl) (by decide) ?_
    refine hw_callV (Bs := [.long (x10), .int ((1 : Int32))]) (rest := []) (aX1_bitOf 13 rfl) wc_RX1_42 (by decide) rfl wi_yX1_hasBytes wv_yX1_hasBytes (c23 hS) (s23 hS) rfl rfl rfl (Nat.le_of_ble_eq_true rfl) (Nat.le_of_ble_eq_true rfl) (k_X1_hasBytes (d := d + 1) hS hF hI hR (x10) ((1 : Int32)) (by have := ((by decide : (1 : Int32).toInt = 1) : ((1 : Int32)).toInt = 1); have := ((by decide : (1 : Int32).toInt = 1) : ((1 : Int32)).toInt = 1); omega)) (fun v12 sv13 p14 => ?_)
    have := ((by decide : (1 : Int32).toInt = 1) : ((1 : Int32)).toInt = 1)
    obtain ⟨r15, rfl, rfl, t19, t20⟩ := p14
    show hw sk base _ _ _ _ _ [.int (r15)] _ _
    refine hw_ifeq (tgt := 73) (aX1_bitOf 14 rfl) (by decide) rfl (fun cd23 => ?_) (fun cd23 => ?_)
    · clear t19
      refine hw_ic (v := ((-1) : Int32)) (aX1_bitOf 27 rfl) (by decide) ?_
      refine xw_iret (aX1_bitOf 28 rfl) rfl rfl ?_
      have e24 : (((-1) : Int32)).toInt = (-1) := (by decide : ((-1) : Int32).toInt = (-1))
      exact ⟨((-1) : Int32), rfl, rfl⟩
    · replace t19 := t19 (by omega)
      have e25 : 0 ≤ (x10).toInt ∧ (x10).toInt ≤ 4095 := by omega
      refine hw_aloadn (aX1_bitOf 15 rfl) rfl ?_
      refine hw_get (v := .ref (base + 25)) (aX1_bitOf 16 rfl) wf_RX1_15 (c23 hS) (s23 hS) (by decide) (congrArg (fun r => va_rf (h_rf base r)) (r23_1 hF)) ?_
      refine xw_lloadn (aX1_bitOf 17 rfl) rfl ?_
      refine xw_l2i (aX1_bitOf 18 rfl) ?_
      refine hw_tie (A := (x10).toInt) (l_2i rfl (by omega) (by omega)) (fun x26 e27 => ?_)
      obtain ⟨x28, h29⟩ : ∃ y, FI 25 (x26).toNatClampNeg = y := ⟨_, rfl⟩
      have h29l := congrArg Int32.toInt h29
      have := i_rng x28
      refine hw_iald (v := x28) (aX1_bitOf 19 rfl) (c25 hS) (s25 hS) (h_in e27 (by omega) (by omega)) (show FI 25 (x26).toNatClampNeg = x28 from h29) ?_
      refine xw_iloadn (aX1_bitOf 20 rfl) rfl ?_
      refine hw_bp (v := (8 : Int32)) (aX1_bitOf 21 rfl) (by decide) ?_
      refine xw_irem (aX1_bitOf 22 rfl) (i_ne0 (by decide : (8 : Int32).toInt = 8) (by omega)) ?_
      refine hw_ti (fun x30 => ?_)
      have b31 := i_rng x30
      refine xw_iushr (aX1_bitOf 23 rfl) ?_
      refine hw_ti (fun x32 => ?_)
      have b33 := i_rng x32
      refine hw_ic (v := (1 : Int32)) (aX1_bitOf 24 rfl) (by decide) ?_
      refine xw_iand (aX1_bitOf 25 rfl) ?_
      refine hw_tib (lo := 0) (hi := 1) (i_and (x := x32) (m := (1 : Int32)) (M := 1) (by decide) (by decide)) (fun x34 b35 => ?_)
      refine xw_goto (tgt := 74) (aX1_bitOf 26 rfl) (by decide) ?_
      refine xw_iret (aX1_bitOf 28 rfl) rfl rfl ?_
      exact ⟨x34, rfl, rfl⟩
  · refine xw_tsw (tgt := 75) aX1_bitOf_4 (by exact Or.inr ⟨by omega, by omega, _, by rw [hsw]; rfl, by decide⟩) ?_
    refine xw_iloadn (aX1_bitOf 29 rfl) rfl ?_
    refine hw_bp (v := (64 : Int32)) (aX1_bitOf 30 rfl) (by decide) ?_
    refine hw_icge (tgt := 97) (aX1_bitOf 31 rfl) (by decide) rfl (by decide : (64 : Int32).toInt = 64) (fun cd36 => ?_) (fun cd36 => ?_)
    · refine hw_ic (v := ((-1) : Int32)) (aX1_bitOf 42 rfl) (by decide) ?_
      refine xw_iret (aX1_bitOf 43 rfl) rfl rfl ?_
      have e37 : (((-1) : Int32)).toInt = (-1) := (by decide : ((-1) : Int32).toInt = (-1))
      exact ⟨((-1) : Int32), rfl, rfl⟩
    · refine hw_aloadn (aX1_bitOf 32 rfl) rfl ?_
      refine hw_aloadn (aX1_bitOf 33 rfl) rfl ?_
      obtain ⟨x38, h39⟩ : ∃ y, FL a1 1 = y := ⟨_, rfl⟩
      have h39l := congrArg Int64.toInt h39
      have := l_rng x38
      refine hw_get (v := .long (x38)) (aX1_bitOf 34 rfl) wf_RX1_55 ha1l ha1s (by decide) (congrArg Value.long (show FL a1 1 = x38 from h39)) ?_
      refine hw_callV (Bs := [.long (x38)]) (rest := []) (aX1_bitOf 35 rfl) wc_RX1_34 (by decide) rfl wi_yX1_registerValue wv_yX1_registerValue (c23 hS) (s23 hS) rfl rfl rfl (Nat.le_of_ble_eq_true rfl) (Nat.le_of_ble_eq_true rfl) (k_X1_registerValue (d := d + 1) hS hF hI hR (x38) ) (fun v40 sv41 p42 => ?_)
      obtain ⟨r43, rfl, rfl⟩ := p42
      have rg_r43 := l_rng r43
      show hw sk base _ _ _ _ _ [.long (r43)] _ _
      refine xw_iloadn (aX1_bitOf 36 rfl) rfl ?_
      refine xw_lushr (aX1_bitOf 37 rfl) ?_
      refine hw_tl (fun x49 => ?_)
      have b50 := l_rng x49
      refine hw_lc (v := (1 : Int64)) (aX1_bitOf 38 rfl) (by decide) ?_
      refine xw_land (aX1_bitOf 39 rfl) ?_
      refine hw_tlb (lo := 0) (hi := 1) (l_and (x := x49) (m := (1 : Int64)) (M := 1) (by decide) (by decide)) (fun x51 b52 => ?_)
      refine xw_l2i (aX1_bitOf 40 rfl) ?_
      refine hw_tie (A := (x51).toInt) (l_2i rfl (by omega) (by omega)) (fun x53 e54 => ?_)
      refine xw_goto (tgt := 98) (aX1_bitOf 41 rfl) (by decide) ?_
      refine xw_iret (aX1_bitOf 43 rfl) rfl rfl ?_
      have e55 : (x53).toInt = (x51).toInt := e54
      exact ⟨x53, rfl, rfl⟩
  · refine xw_tsw (tgt := 99) aX1_bitOf_4 (by exact Or.inr ⟨by omega, by omega, _, by rw [hsw]; rfl, by decide⟩) ?_
    refine xw_iloadn (aX1_bitOf 44 rfl) rfl ?_
    refine hw_bp (v := (64 : Int32)) (aX1_bitOf 45 rfl) (by decide) ?_
    refine hw_icge (tgt := 117) (aX1_bitOf 46 rfl) (by decide) rfl (by decide : (64 : Int32).toInt = 64) (fun cd56 => ?_) (fun cd56 => ?_)
    · refine hw_ic (v := ((-1) : Int32)) (aX1_bitOf 55 rfl) (by decide) ?_
      refine xw_iret (aX1_bitOf 56 rfl) rfl rfl ?_
      have e57 : (((-1) : Int32)).toInt = (-1) := (by decide : ((-1) : Int32).toInt = (-1))
      exact ⟨((-1) : Int32), rfl, rfl⟩
    · refine hw_aloadn (aX1_bitOf 47 rfl) rfl ?_
      obtain ⟨x58, h59⟩ : ∃ y, FL a1 1 = y := ⟨_, rfl⟩
      have h59l := congrArg Int64.toInt h59
      have := l_rng x58
      refine hw_get (v := .long (x58)) (aX1_bitOf 48 rfl) wf_RX1_55 ha1l ha1s (by decide) (congrArg Value.long (show FL a1 1 = x58 from h59)) ?_
      refine xw_iloadn (aX1_bitOf 49 rfl) rfl ?_
      refine xw_lushr (aX1_bitOf 50 rfl) ?_
      refine hw_tl (fun x60 => ?_)
      have b61 := l_rng x60
      refine hw_lc (v := (1 : Int64)) (aX1_bitOf 51 rfl) (by decide) ?_
      refine xw_land (aX1_bitOf 52 rfl) ?_
      refine hw_tlb (lo := 0) (hi := 1) (l_and (x := x60) (m := (1 : Int64)) (M := 1) (by decide) (by decide)) (fun x62 b63 => ?_)
      refine xw_l2i (aX1_bitOf 53 rfl) ?_
      refine hw_tie (A := (x62).toInt) (l_2i rfl (by omega) (by omega)) (fun x64 e65 => ?_)
      refine xw_goto (tgt := 118) (aX1_bitOf 54 rfl) (by decide) ?_
      refine xw_iret (aX1_bitOf 56 rfl) rfl rfl ?_
      have e66 : (x64).toInt = (x62).toInt := e65
      exact ⟨x64, rfl, rfl⟩
  · refine xw_tsw (tgt := 119) aX1_bitOf_4 (by exact Or.inr ⟨by omega, by omega, _, by rw [hsw]; rfl, by decide⟩) ?_
    refine hw_aloadn (aX1_bitOf 57 rfl) rfl ?_
    refine xw_iloadn (aX1_bitOf 58 rfl) rfl ?_
    refine hw_bp (v := (8 : Int32)) (aX1_bitOf 59 rfl) (by decide) ?_
    refine xw_idiv (aX1_bitOf 60 rfl) (i_ne0 (by decide : (8 : Int32).toInt = 8) (by omega)) ?_
    refine hw_ti (fun x67 => ?_)
    have b68 := i_rng x67
    refine xw_i2l (aX1_bitOf 61 rfl) ?_
    refine hw_tle (A := (x67).toInt) (i_2l rfl) (fun x69 e70 => ?_)
    refine hw_callV (Bs := [.long (x69)]) (rest := []) (aX1_bitOf 62 rfl) wc_RX1_57 (by decide) rfl wi_yX5_blockByte wv_yX5_blockByte ha1l ha1s rfl rfl rfl (Nat.le_of_ble_eq_true rfl) (Nat.le_of_ble_eq_true rfl) (k_X5_blockByte (d := d) hS hF hI hR (a1) ha1l ha1s ha1o (x69) ) (fun v71 sv72 p73 => ?_)
    obtain ⟨r74, rfl, rfl⟩ := p73
    have rg_r74 := i_rng r74
    show hw sk base _ _ _ _ _ [.int (r74)] _ _
    refine xw_istore (L2 := [(5, .int (r74)), (0, .ref (base + 23)), (1, .ref (base + a1)), (2, .int (a2))]) (aX1_bitOf 63 rfl) (by decide) rfl ?_
    refine xw_iload (aX1_bitOf 64 rfl) rfl ?_
    refine hw_ic (v := ((-1) : Int32)) (aX1_bitOf 65 rfl) (by decide) ?_
    refine hw_icne (tgt := 140) (aX1_bitOf 66 rfl) (by decide) rfl (by decide : ((-1) : Int32).toInt = (-1)) (fun cd80 => ?_) (fun cd80 => ?_)
    · refine xw_iload (aX1_bitOf 69 rfl) rfl ?_
      refine xw_iloadn (aX1_bitOf 70 rfl) rfl ?_
      refine hw_bp (v := (8 : Int32)) (aX1_bitOf 71 rfl) (by decide) ?_
      refine xw_irem (aX1_bitOf 72 rfl) (i_ne0 (by decide : (8 : Int32).toInt = 8) (by omega)) ?_
      refine hw_ti (fun x81 => ?_)
      have b82 := i_rng x81
      refine xw_iushr (aX1_bitOf 73 rfl) ?_
      refine hw_ti (fun x83 => ?_)
      have b84 := i_rng x83
      refine hw_ic (v := (1 : Int32)) (aX1_bitOf 74 rfl) (by decide) ?_
      refine xw_iand (aX1_bitOf 75 rfl) ?_
      refine hw_tib (lo := 0) (hi := 1) (i_and (x := x83) (m := (1 : Int32)) (M := 1) (by decide) (by decide)) (fun x85 b86 => ?_)
      refine xw_iret (aX1_bitOf 76 rfl) rfl rfl ?_
      exact ⟨x85, rfl, rfl⟩
    · refine hw_ic (v := ((-1) : Int32)) (aX1_bitOf 67 rfl) (by decide) ?_
      refine xw_goto (tgt := 149) (aX1_bitOf 68 rfl) (by decide) ?_
      refine xw_iret (aX1_bitOf 76 rfl) rfl rfl ?_
      have e87 : (((-1) : Int32)).toInt = (-1) := (by decide : ((-1) : Int32).toInt = (-1))
      exact ⟨((-1) : Int32), rfl, rfl⟩
def nX1_putBit : Nat := 0xac045081791c851d7f833d0014791c0a2f8804160b00b42a8804160b00b42aac0305009b9485be0b00b42a04160f009b940904161600a240101c1c00a0053200b42b04373700b42bac044f80787008101c1d7e8202787008101c042e8804160f00b42a8804160f00b42aac0305009a2a00b60404162a043761856c08101c3700b42b3d00a0043200b42b
theorem bX1_putBit : cX1_putBit.data.toList.map UInt8.toNat = x_un nX1_putBit 138 := by decide +kernel
def iX1_putBit : List (Nat × Jvm.ClassFile.Instr × Nat) := [(0, .aload_n 1, 1), (1, .getfield 50, 3), (4, .iconst 1, 1), (5, .if_icmp .ne 61, 3), (8, .aload_n 1, 1), (9, .getfield 55, 3), (12, .iload_n 2, 1), (13, .bipush 8, 2), (15, .idiv, 1), (16, .i2l, 1), (17, .ladd, 1), (18, .lstore 4, 2), (20, .aload_n 0, 1), (21, .lload 4, 2), (23, .iconst 1, 1), (24, .invokevirtual 42, 3), (27, .ifCond .ne 5, 3), (30, .iconst 0, 1), (31, .ireturn, 1), (32, .aload_n 0, 1), (33, .getfield 15, 3), (36, .lload 4, 2), (38, .l2i, 1), (39, .aload_n 0, 1), (40, .getfield 15, 3), (43, .lload 4, 2), (45, .l2i, 1), (46, .iaload, 1), (47, .iconst 1, 1), (48, .iload_n 2, 1), (49, .bipush 8, 2), (51, .irem, 1), (52, .ishl, 1), (53, .iconst (-1), 1), (54, .ixor, 1), (55, .iand, 1), (56, .iload_n 3, 1), (57, .iload_n 2, 1), (58, .bipush 8, 2), (60, .irem, 1), (61, .ishl, 1), (62, .ior, 1), (63, .iastore, 1), (64, .iconst 1, 1), (65, .ireturn, 1), (66, .aload_n 1, 1), (67, .getfield 55, 3), (70, .lstore 4, 2), (72, .aload_n 1, 1), (73, .getfield 50, 3), (76, .iconst 2, 1), (77, .if_icmp .ne 28, 3), (80, .iload_n 2, 1), (81, .bipush 64, 2), (83, .if_icmp .ge 22, 3), (86, .lload 4, 2), (88, .lconst 0, 1), (89, .lcmp, 1), (90, .ifCond .lt 15, 3), (93, .lload 4, 2), (95, .aload_n 0, 1), (96, .getfield 11, 3), (99, .arraylength, 1), (100, .i2l, 1), (101, .lcmp, 1), (102, .ifCond .lt 5, 3), (105, .iconst 0, 1), (106, .ireturn, 1), (107, .aload_n 0, 1), (108, .getfield 11, 3), (111, .lload 4, 2), (113, .l2i, 1), (114, .aload_n 0, 1), (115, .getfield 11, 3), (118, .lload 4, 2), (120, .l2i, 1), (121, .laload, 1), (122, .lconst 1, 1), (123, .iload_n 2, 1), (124, .lshl, 1), (125, .ldc2_w 61, 3), (128, .lxor, 1), (129, .land, 1), (130, .iload_n 3, 1), (131, .i2l, 1), (132, .iload_n 2, 1), (133, .lshl, 1), (134, .lor, 1), (135, .lastore, 1), (136, .iconst 1, 1), (137, .ireturn, 1)]
theorem dX1_putBit : x_il nX1_putBit 138 iX1_putBit = true := by decide +kernel
theorem aX1_putBit (k : Nat) {pc : Nat} {i : Jvm.ClassFile.Instr} {len : Nat} (hk : iX1_putBit[k]? = some (pc, i, len)) : x_at xMM 25 pc i len yX1_putBit 6 (some .boolean) := ⟨cX1_putBit, rfl, x_il_ok bX1_putBit dX1_putBit k hk⟩
set_option maxHeartbeats 4000000 in
set_option maxRecDepth 100000 in
theorem k_X1_putBit {sk : xK} {base d n sl : Nat} {SH : Nat → Nat × Nat} {FI : Nat → Nat → Int32} {FL : Nat → Nat → Int64} {FR : Nat → Nat → Option Nat} (hS : h_S n SH) (hF : h_FR FR) (hI : g_I FI) (hR : g_R n SH FR) (a1 : Nat) {z1 : Nat} (ha1l : a1 < n) (ha1s : SH a1 = (5, z1)) (ha1o : own a1) (a2 : Int32) (a3 : Int32) : hw sk base (d + 1) none 25 0 [(0, .ref (base + 23)), (1, .ref (base + a1)), (2, .int (a2)), (3, .int (a3))] [] (n, sl, SH, FI, FL, FR) (h_I (fun r s => ∃ FI' FL', s = (n, sl, SH, FI', FL', FR) ∧ g_I FI' ∧ g_fr n (shd SH) [] [25] [] FI FI' ∧ g_fr n (shd SH) [] [24] [] FL FL' ∧ (0 ≤ r.toInt ∧ r.toInt ≤ 1))) := by
  have rg_a2 := i_rng a2
  have rg_a3 := i_rng a3
  refine hw_aloadn (aX1_putBit 0 rfl) rfl ?_
  obtain ⟨x1, h2⟩ : ∃ y, FI a1 0 = y := ⟨_, rfl⟩
  have h2l := congrArg Int32.toInt h2
  have := i_rng x1
  refine hw_get (v := .int (x1)) (aX1_putBit 1 rfl) wf_RX1_50 ha1l ha1s (by decide) (congrArg Value.int (show FI a1 0 = x1 from h2)) ?_
  refine hw_ic (v := (1 : Int32)) (aX1_putBit 2 rfl) (by decide) ?_
  refine hw_icne (tgt := 66) (aX1_putBit 3 rfl) (by decide) rfl (by decide : (1 : Int32).toInt = 1) (fun cd3 => ?_) (fun cd3 => ?_)
  · refine hw_aloadn (aX1_putBit 45 rfl) rfl ?_
    obtain ⟨x4, h5⟩ : ∃ y, FL a1 1 = y := ⟨_, rfl⟩
    have h5l := congrArg Int64.toInt h5
    have := l_rng x4
    refine hw_get (v := .long (x4)) (aX1_putBit 46 rfl) wf_RX1_55 ha1l ha1s (by decide) (congrArg Value.long (show FL a1 1 = x4 from h5)) ?_
    refine xw_lstore (L2 := [(4, .long (x4)), (0, .ref (base + 23)), (1, .ref (base + a1)), (2, .int (a2)), (3, .int (a3))]) (aX1_putBit 47 rfl) (by decide) rfl ?_
    refine hw_aloadn (aX1_putBit 48 rfl) rfl ?_
    refine hw_get (v := .int (x1)) (aX1_putBit 49 rfl) wf_RX1_50 ha1l ha1s (by decide) (congrArg Value.int (show FI a1 0 = x1 from h2)) ?_
    refine hw_ic (v := (2 : Int32)) (aX1_putBit 50 rfl) (by decide) ?_
    refine hw_icne (tgt := 105) (aX1_putBit 51 rfl) (by decide) rfl (by decide : (2 : Int32).toInt = 2) (fun cd6 => ?_) (fun cd6 => ?_)
    · refine hw_ic (v := (0 : Int32)) (aX1_putBit 66 rfl) (by decide) ?_
      refine xw_iret (aX1_putBit 67 rfl) rfl (by decide) ?_
      have e7 : ((0 : Int32)).toInt = 0 := (by decide : (0 : Int32).toInt = 0)
      exact ⟨(0 : Int32), rfl, FI, FL, rfl, hI, gf_rf, gf_rf, (by have : ((0 : Int32)).toInt = 0 := (by decide); omega)⟩
    · refine xw_iloadn (aX1_putBit 52 rfl) rfl ?_
      refine hw_bp (v := (64 : Int32)) (aX1_putBit 53 rfl) (by decide) ?_
      refine hw_icge (tgt := 105) (aX1_putBit 54 rfl) (by decide) rfl (by decide : (64 : Int32).toInt = 64) (fun cd8 => ?_) (fun cd8 => ?_)
      · refine hw_ic (v := (0 : Int32)) (aX1_putBit 66 rfl) (by decide) ?_
        refine xw_iret (aX1_putBit 67 rfl) rfl (by decide) ?_
        have e9 : ((0 : Int32)).toInt = 0 := (by decide : (0 : Int32).toInt = 0)
        exact ⟨(0 : Int32), rfl, FI, FL, rfl, hI, gf_rf, gf_rf, (by have : ((0 : Int32)).toInt = 0 := (by decide); omega)⟩
      · refine xw_lload (aX1_putBit 55 rfl) rfl ?_
        refine hw_lc (v := (0 : Int64)) (aX1_putBit 56 rfl) (by decide) ?_
        refine hw_lclt (tgt := 105) (aX1_putBit 57 rfl) (aX1_putBit 58 rfl) (by decide) rfl (by decide : (0 : Int64).toInt = 0) (fun cd10 => ?_) (fun cd10 => ?_)
        · refine hw_ic (v := (0 : Int32)) (aX1_putBit 66 rfl) (by decide) ?_
          refine xw_iret (aX1_putBit 67 rfl) rfl (by decide) ?_
          have e11 : ((0 : Int32)).toInt = 0 := (by decide : (0 : Int32).toInt = 0)
          exact ⟨(0 : Int32), rfl, FI, FL, rfl, hI, gf_rf, gf_rf, (by have : ((0 : Int32)).toInt = 0 := (by decide); omega)⟩
        · refine xw_lload (aX1_putBit 59 rfl) rfl ?_
          refine hw_aloadn (aX1_putBit 60 rfl) rfl ?_
          refine hw_get (v := .ref (base + 24)) (aX1_putBit 61 rfl) wf_RX1_11 (c23 hS) (s23 hS) (by decide) (congrArg (fun r => va_rf (h_rf base r)) (r23_0 hF)) ?_
          refine hw_alen (k := 1) (z := 32) (v := (32 : Int32)) (aX1_putBit 62 rfl) (c24 hS) (s24 hS) (by decide) (by decide) ?_
          refine xw_i2l (aX1_putBit 63 rfl) ?_
          refine hw_tle (A := 32) (i_2l (by decide : (32 : Int32).toInt = 32)) (fun x12 e13 => ?_)
          refine hw_lclt (tgt := 107) (aX1_putBit 64 rfl) (aX1_putBit 65 rfl) (by decide) rfl e13 (fun cd14 => ?_) (fun cd14 => ?_)
          · refine hw_aloadn (aX1_putBit 68 rfl) rfl ?_
            refine hw_get (v := .ref (base + 24)) (aX1_putBit 69 rfl) wf_RX1_11 (c23 hS) (s23 hS) (by decide) (congrArg (fun r => va_rf (h_rf base r)) (r23_0 hF)) ?_
            refine xw_lload (aX1_putBit 70 rfl) rfl ?_
            refine xw_l2i (aX1_putBit 71 rfl) ?_
            refine hw_tie (A := (x4).toInt) (l_2i rfl (by omega) (by omega)) (fun x15 e16 => ?_)
            refine hw_aloadn (aX1_putBit 72 rfl) rfl ?_
            refine hw_get (v := .ref (base + 24)) (aX1_putBit 73 rfl) wf_RX1_11 (c23 hS) (s23 hS) (by decide) (congrArg (fun r => va_rf (h_rf base r)) (r23_0 hF)) ?_
            refine xw_lload (aX1_putBit 74 rfl) rfl ?_
            refine xw_l2i (aX1_putBit 75 rfl) ?_
            refine hw_tie (A := (x4).toInt) (l_2i rfl (by omega) (by omega)) (fun x17 e18 => ?_)
            obtain ⟨x19, h20⟩ : ∃ y, FL 24 (x17).toNatClampNeg = y := ⟨_, rfl⟩
            have h20l := congrArg Int64.toInt h20
            have := l_rng x19
            refine hw_lald (v := x19) (aX1_putBit 76 rfl) (c24 hS) (s24 hS) (h_in e18 (by omega) (by omega)) (show FL 24 (x17).toNatClampNeg = x19 from h20) ?_
            refine hw_lc (v := (1 : Int64)) (aX1_putBit 77 rfl) (by decide) ?_
            refine xw_iloadn (aX1_putBit 78 rfl) rfl ?_
            refine xw_lshl (aX1_putBit 79 rfl) ?_
            refine hw_tl (fun x21 => ?_)
            have b22 := l_rng x21
            refine xw_ldc2 (aX1_putBit 80 rfl) wk_RX1_61 ?_
            refine xw_lxor (aX1_putBit 81 rfl) ?_
            refine hw_tl (fun x23 => ?_)
            have b24 := l_rng x23
            refine xw_land (aX1_putBit 82 rfl) ?_
            refine hw_tl (fun x25 => ?_)
            have b26 := l_rng x25
            refine xw_iloadn (aX1_putBit 83 rfl) rfl ?_
            refine xw_i2l (aX1_putBit 84 rfl) ?_
            refine hw_tle (A := (a3).toInt) (i_2l rfl) (fun x27 e28 => ?_)
            refine xw_iloadn (aX1_putBit 85 rfl) rfl ?_
            refine xw_lshl (aX1_putBit 86 rfl) ?_
            refine hw_tl (fun x29 => ?_)
            have b30 := l_rng x29
            refine xw_lor (aX1_putBit 87 rfl) ?_
            refine hw_tl (fun x31 => ?_)
            have b32 := l_rng x31
            refine hv_last (k := (x15).toNatClampNeg) (aX1_putBit 88 rfl) (c24 hS) (s24 hS) (h_in e16 (by omega) (by omega)) rfl (fun FL33 u34 => ?_)
            refine hw_ic (v := (1 : Int32)) (aX1_putBit 89 rfl) (by decide) ?_
            refine xw_iret (aX1_putBit 90 rfl) rfl (by decide) ?_
            have e35 : ((1 : Int32)).toInt = 1 := (by decide : (1 : Int32).toInt = 1)
            exact ⟨(1 : Int32), rfl, FI, FL33, rfl, hI, gf_rf, (gf_a gf_rf u34 (by decide)), (by have : ((1 : Int32)).toInt = 1 := (by decide); omega)⟩
          · refine hw_ic (v := (0 : Int32)) (aX1_putBit 66 rfl) (by decide) ?_
            refine xw_iret (aX1_putBit 67 rfl) rfl (by decide) ?_
            have e36 : ((0 : Int32)).toInt = 0 := (by decide : (0 : Int32).toInt = 0)
            exact ⟨(0 : Int32), rfl, FI, FL, rfl, hI, gf_rf, gf_rf, (by have : ((0 : Int32)).toInt = 0 := (by decide); omega)⟩
  · refine hw_aloadn (aX1_putBit 4 rfl) rfl ?_
    obtain ⟨x37, h38⟩ : ∃ y, FL a1 1 = y := ⟨_, rfl⟩
    have h38l := congrArg Int64.toInt h38
    have := l_rng x37
    refine hw_get (v := .long (x37)) (aX1_putBit 5 rfl) wf_RX1_55 ha1l ha1s (by decide) (congrArg Value.long (show FL a1 1 = x37 from h38)) ?_
    refine xw_iloadn (aX1_putBit 6 rfl) rfl ?_
    refine hw_bp (v := (8 : Int32)) (aX1_putBit 7 rfl) (by decide) ?_
    refine xw_idiv (aX1_putBit 8 rfl) (i_ne0 (by decide : (8 : Int32).toInt = 8) (by omega)) ?_
    refine hw_ti (fun x39 => ?_)
    have b40 := i_rng x39
    refine xw_i2l (aX1_putBit 9 rfl) ?_
    refine hw_tle (A := (x39).toInt) (i_2l rfl) (fun x41 e42 => ?_)
    refine xw_ladd (aX1_putBit 10 rfl) ?_
    refine hw_tl (fun x43 => ?_)
    have b44 := l_rng x43
    refine xw_lstore (L2 := [(4, .long (x43)), (0, .ref (base + 23)), (1, .ref (base + a1)), (2, .int (a2)), (3, .int (a3))]) (aX1_putBit 11 rfl) (by decide) rfl ?_
    refine hw_aloadn (aX1_putBit 12 rfl) rfl ?_
    refine xw_lload (aX1_putBit 13 rfl) rfl ?_
    refine hw_ic (v := (1 : Int32)) (aX1_putBit 14 rfl) (by decide) ?_
    refine hw_callV (Bs := [.long (x43), .int ((1 : Int32))]) (rest := []) (aX1_putBit 15 rfl) wc_RX1_42 (by decide) rfl wi_yX1_hasBytes wv_yX1_hasBytes (c23 hS) (s23 hS) rfl rfl rfl (Nat.le_of_ble_eq_true rfl) (Nat.le_of_ble_eq_true rfl) (k_X1_hasBytes (d := d) hS hF hI hR (x43) ((1 : Int32)) (by have := ((by decide : (1 : Int32).toInt = 1) : ((1 : Int32)).toInt = 1); have := ((by decide : (1 : Int32).toInt = 1) : ((1 : Int32)).toInt = 1); omega)) (fun v45 sv46 p47 => ?_)
    have := ((by decide : (1 : Int32).toInt = 1) : ((1 : Int32)).toInt = 1)
    obtain ⟨r48, rfl, rfl, t52, t53⟩ := p47
    show hw sk base _ _ _ _ _ [.int (r48)] _ _
    refine hw_ifne (tgt := 32) (aX1_putBit 16 rfl) (by decide) rfl (fun cd56 => ?_) (fun cd56 => ?_)
    · replace t52 := t52 (by omega)
      have e57 : 0 ≤ (x43).toInt ∧ (x43).toInt ≤ 4095 := by omega
      refine hw_aloadn (aX1_putBit 19 rfl) rfl ?_
      refine hw_get (v := .ref (base + 25)) (aX1_putBit 20 rfl) wf_RX1_15 (c23 hS) (s23 hS) (by decide) (congrArg (fun r => va_rf (h_rf base r)) (r23_1 hF)) ?_
      refine xw_lload (aX1_putBit 21 rfl) rfl ?_
      refine xw_l2i (aX1_putBit 22 rfl) ?_
      refine hw_tie (A := (x43).toInt) (l_2i rfl (by omega) (by omega)) (fun x58 e59 => ?_)
      refine hw_aloadn (aX1_putBit 23 rfl) rfl ?_
      refine hw_get (v := .ref (base + 25)) (aX1_putBit 24 rfl) wf_RX1_15 (c23 hS) (s23 hS) (by decide) (congrArg (fun r => va_rf (h_rf base r)) (r23_1 hF)) ?_
      refine xw_lload (aX1_putBit 25 rfl) rfl ?_
      refine xw_l2i (aX1_putBit 26 rfl) ?_
      refine hw_tie (A := (x43).toInt) (l_2i rfl (by omega) (by omega)) (fun x60 e61 => ?_)
      obtain ⟨x62, h63⟩ : ∃ y, FI 25 (x60).toNatClampNeg = y := ⟨_, rfl⟩
      have h63l := congrArg Int32.toInt h63
      have := i_rng x62
      refine hw_iald (v := x62) (aX1_putBit 27 rfl) (c25 hS) (s25 hS) (h_in e61 (by omega) (by omega)) (show FI 25 (x60).toNatClampNeg = x62 from h63) ?_
      refine hw_ic (v := (1 : Int32)) (aX1_putBit 28 rfl) (by decide) ?_
      refine xw_iloadn (aX1_putBit 29 rfl) rfl ?_
      refine hw_bp (v := (8 : Int32)) (aX1_putBit 30 rfl) (by decide) ?_
      refine xw_irem (aX1_putBit 31 rfl) (i_ne0 (by decide : (8 : Int32).toInt = 8) (by omega)) ?_
      refine hw_ti (fun x64 => ?_)
      have b65 := i_rng x64
      refine xw_ishl (aX1_putBit 32 rfl) ?_
      refine hw_ti (fun x66 => ?_)
      have b67 := i_rng x66
      refine hw_ic (v := ((-1) : Int32)) (aX1_putBit 33 rfl) (by decide) ?_
      refine xw_ixor (aX1_putBit 34 rfl) ?_
      refine hw_ti (fun x68 => ?_)
      have b69 := i_rng x68
      refine xw_iand (aX1_putBit 35 rfl) ?_
      refine hw_ti (fun x70 => ?_)
      have b71 := i_rng x70
      refine xw_iloadn (aX1_putBit 36 rfl) rfl ?_
      refine xw_iloadn (aX1_putBit 37 rfl) rfl ?_
      refine hw_bp (v := (8 : Int32)) (aX1_putBit 38 rfl) (by decide) ?_
      refine xw_irem (aX1_putBit 39 rfl) (i_ne0 (by decide : (8 : Int32).toInt = 8) (by omega)) ?_
      refine hw_ti (fun x72 => ?_)
      have b73 := i_rng x72
      refine xw_ishl (aX1_putBit 40 rfl) ?_
      refine hw_ti (fun x74 => ?_)
      have b75 := i_rng x74
      refine xw_ior (aX1_putBit 41 rfl) ?_
      refine hw_ti (fun x76 => ?_)
      have b77 := i_rng x76
      refine hv_iast (k := (x58).toNatClampNeg) (aX1_putBit 42 rfl) (c25 hS) (s25 hS) (h_in e59 (by omega) (by omega)) rfl (fun FI78 u79 => ?_)
      have hI80 : g_I FI78 := gU_F hI u79 rfl
      refine hw_ic (v := (1 : Int32)) (aX1_putBit 43 rfl) (by decide) ?_
      refine xw_iret (aX1_putBit 44 rfl) rfl (by decide) ?_
      have e81 : ((1 : Int32)).toInt = 1 := (by decide : (1 : Int32).toInt = 1)
      exact ⟨(1 : Int32), rfl, FI78, FL, rfl, hI80, (gf_a gf_rf u79 (by decide)), gf_rf, (by have : ((1 : Int32)).toInt = 1 := (by decide); omega)⟩
    · clear t52
      refine hw_ic (v := (0 : Int32)) (aX1_putBit 17 rfl) (by decide) ?_
      refine xw_iret (aX1_putBit 18 rfl) rfl (by decide) ?_
      have e82 : ((0 : Int32)).toInt = 0 := (by decide : (0 : Int32).toInt = 0)
      exact ⟨(0 : Int32), rfl, FI, FL, rfl, hI, gf_rf, gf_rf, (by have : ((0 : Int32)).toInt = 0 := (by decide); omega)⟩
def nX4_goesOn : Nat := 0xac030400a70407009f053300b42a0f009a2700b42a
theorem bX4_goesOn : cX4_goesOn.data.toList.map UInt8.toNat = x_un nX4_goesOn 21 := by decide +kernel
def iX4_goesOn : List (Nat × Jvm.ClassFile.Instr × Nat) := [(0, .aload_n 0, 1), (1, .getfield 39, 3), (4, .ifCond .ne 15, 3), (7, .aload_n 0, 1), (8, .getfield 51, 3), (11, .iconst 2, 1), (12, .if_icmp .eq 7, 3), (15, .iconst 1, 1), (16, .goto 4, 3), (19, .iconst 0, 1), (20, .ireturn, 1)]
theorem dX4_goesOn : x_il nX4_goesOn 21 iX4_goesOn = true := by decide +kernel
theorem aX4_goesOn (k : Nat) {pc : Nat} {i : Jvm.ClassFile.Instr} {len : Nat} (hk : iX4_goesOn[k]? = some (pc, i, len)) : x_at xMM 37 pc i len yX4_goesOn 1 (some .boolean) := ⟨cX4_goesOn, rfl, x_il_ok bX4_goesOn dX4_goesOn k hk⟩
set_option maxHeartbeats 4000000 in
set_option maxRecDepth 100000 in
theorem k_X4_goesOn {sk : xK} {base d n sl : Nat} {SH : Nat → Nat × Nat} {FI : Nat → Nat → Int32} {FL : Nat → Nat → Int64} {FR : Nat → Nat → Option Nat} (hS : h_S n SH) (hF : h_FR FR) (hI : g_I FI) (hR : g_R n SH FR) : hw sk base d none 37 0 [(0, .ref (base + 110))] [] (n, sl, SH, FI, FL, FR) (h_I (fun r s => s = (n, sl, SH, FI, FL, FR) ∧ (0 ≤ r.toInt ∧ r.toInt ≤ 1))) := by
  refine hw_aloadn (aX4_goesOn 0 rfl) rfl ?_
  obtain ⟨x1, h2⟩ : ∃ y, FI 110 5 = y := ⟨_, rfl⟩
  have h2l := congrArg Int32.toInt h2
  have := i_rng x1
  refine hw_get (v := .int (x1)) (aX4_goesOn 1 rfl) wf_RX4_39 (c110 hS) (s110 hS) (by decide) (congrArg Value.int (show FI 110 5 = x1 from h2)) ?_
  refine hw_ifne (tgt := 19) (aX4_goesOn 2 rfl) (by decide) rfl (fun cd3 => ?_) (fun cd3 => ?_)
  · refine hw_ic (v := (0 : Int32)) (aX4_goesOn 9 rfl) (by decide) ?_
    refine xw_iret (aX4_goesOn 10 rfl) rfl (by decide) ?_
    have e4 : ((0 : Int32)).toInt = 0 := (by decide : (0 : Int32).toInt = 0)
    exact ⟨(0 : Int32), rfl, rfl, (by have : ((0 : Int32)).toInt = 0 := (by decide); omega)⟩
  · refine hw_aloadn (aX4_goesOn 3 rfl) rfl ?_
    obtain ⟨x5, h6⟩ : ∃ y, FI 110 8 = y := ⟨_, rfl⟩
    have h6l := congrArg Int32.toInt h6
    have := i_rng x5
    refine hw_get (v := .int (x5)) (aX4_goesOn 4 rfl) wf_RX4_51 (c110 hS) (s110 hS) (by decide) (congrArg Value.int (show FI 110 8 = x5 from h6)) ?_
    refine hw_ic (v := (2 : Int32)) (aX4_goesOn 5 rfl) (by decide) ?_
    refine hw_iceq (tgt := 19) (aX4_goesOn 6 rfl) (by decide) rfl (by decide : (2 : Int32).toInt = 2) (fun cd7 => ?_) (fun cd7 => ?_)
    · refine hw_ic (v := (0 : Int32)) (aX4_goesOn 9 rfl) (by decide) ?_
      refine xw_iret (aX4_goesOn 10 rfl) rfl (by decide) ?_
      have e8 : ((0 : Int32)).toInt = 0 := (by decide : (0 : Int32).toInt = 0)
      exact ⟨(0 : Int32), rfl, rfl, (by have : ((0 : Int32)).toInt = 0 := (by decide); omega)⟩
    · refine hw_ic (v := (1 : Int32)) (aX4_goesOn 7 rfl) (by decide) ?_
      refine xw_goto (tgt := 20) (aX4_goesOn 8 rfl) (by decide) ?_
      refine xw_iret (aX4_goesOn 10 rfl) rfl (by decide) ?_
      have e9 : ((1 : Int32)).toInt = 1 := (by decide : (1 : Int32).toInt = 1)
      exact ⟨(1 : Int32), rfl, rfl, (by have : ((1 : Int32)).toInt = 1 := (by decide); omega)⟩
def nX4_refuse : Nat := 0xb13300b5042a2a00b52e2d00b42a4200b40c00b42a2a2700b51b2a1d00a23600b40c00b42a2d00b42a2b009b2d00b42a32009a2700b42a
theorem bX4_refuse : cX4_refuse.data.toList.map UInt8.toNat = x_un nX4_refuse 55 := by decide +kernel
def iX4_refuse : List (Nat × Jvm.ClassFile.Instr × Nat) := [(0, .aload_n 0, 1), (1, .getfield 39, 3), (4, .ifCond .ne 50, 3), (7, .aload_n 0, 1), (8, .getfield 45, 3), (11, .ifCond .lt 43, 3), (14, .aload_n 0, 1), (15, .getfield 45, 3), (18, .aload_n 0, 1), (19, .getfield 12, 3), (22, .getfield 54, 3), (25, .if_icmp .ge 29, 3), (28, .aload_n 0, 1), (29, .iload_n 1, 1), (30, .putfield 39, 3), (33, .aload_n 0, 1), (34, .aload_n 0, 1), (35, .getfield 12, 3), (38, .getfield 66, 3), (41, .aload_n 0, 1), (42, .getfield 45, 3), (45, .iaload, 1), (46, .putfield 42, 3), (49, .aload_n 0, 1), (50, .iconst 1, 1), (51, .putfield 51, 3), (54, .return_, 1)]
theorem dX4_refuse : x_il nX4_refuse 55 iX4_refuse = true := by decide +kernel
theorem aX4_refuse (k : Nat) {pc : Nat} {i : Jvm.ClassFile.Instr} {len : Nat} (hk : iX4_refuse[k]? = some (pc, i, len)) : x_at xMM 39 pc i len yX4_refuse 2 none := ⟨cX4_refuse, rfl, x_il_ok bX4_refuse dX4_refuse k hk⟩
set_option maxHeartbeats 4000000 in
set_option maxRecDepth 100000 in
theorem k_X4_refuse {sk : xK} {base d n sl : Nat} {SH : Nat → Nat × Nat} {FI : Nat → Nat → Int32} {FL : Nat → Nat → Int64} {FR : Nat → Nat → Option Nat} (hS : h_S n SH) (hF : h_FR FR) (hI : g_I FI) (hR : g_R n SH FR) (a1 : Int32) : hw sk base d none 39 0 [(0, .ref (base + 110)), (1, .int (a1))] [] (n, sl, SH, FI, FL, FR) (h_V (fun s => ∃ FI', s = (n, sl, SH, FI', FL, FR) ∧ g_I FI' ∧ g_fr n (shd SH) [(110, 5), (110, 6), (110, 8)] [] [] FI FI')) := by
  have rg_a1 := i_rng a1
  refine hw_aloadn (aX4_refuse 0 rfl) rfl ?_
  obtain ⟨x1, h2⟩ : ∃ y, FI 110 5 = y := ⟨_, rfl⟩
  have h2l := congrArg Int32.toInt h2
  have := i_rng x1
  refine hw_get (v := .int (x1)) (aX4_refuse 1 rfl) wf_RX4_39 (c110 hS) (s110 hS) (by decide) (congrArg Value.int (show FI 110 5 = x1 from h2)) ?_
  refine hw_ifne (tgt := 54) (aX4_refuse 2 rfl) (by decide) rfl (fun cd3 => ?_) (fun cd3 => ?_)
  · refine xw_vret (aX4_refuse 26 rfl) rfl ?_
    exact ⟨rfl, FI, rfl, hI, gf_rf⟩
  · refine hw_aloadn (aX4_refuse 3 rfl) rfl ?_
    obtain ⟨x4, h5⟩ : ∃ y, FI 110 7 = y := ⟨_, rfl⟩
    have h5l := congrArg Int32.toInt h5
    have b6 := gI_110_7 hI; rw [h5] at b6
    refine hw_get (v := .int (x4)) (aX4_refuse 4 rfl) wf_RX4_45 (c110 hS) (s110 hS) (by decide) (congrArg Value.int (show FI 110 7 = x4 from h5)) ?_
    refine hw_iflt (tgt := 54) (aX4_refuse 5 rfl) (by decide) rfl (fun cd7 => ?_) (fun cd7 => ?_)
    · refine xw_vret (aX4_refuse 26 rfl) rfl ?_
      exact ⟨rfl, FI, rfl, hI, gf_rf⟩
    · refine hw_aloadn (aX4_refuse 6 rfl) rfl ?_
      refine hw_get (v := .int (x4)) (aX4_refuse 7 rfl) wf_RX4_45 (c110 hS) (s110 hS) (by decide) (congrArg Value.int (show FI 110 7 = x4 from h5)) ?_
      refine hw_aloadn (aX4_refuse 8 rfl) rfl ?_
      refine hw_get (v := .ref (base + 111)) (aX4_refuse 9 rfl) wf_RX4_12 (c110 hS) (s110 hS) (by decide) (congrArg (fun r => va_rf (h_rf base r)) (r110_0 hF)) ?_
      obtain ⟨x8, h9⟩ : ∃ y, FI 111 4 = y := ⟨_, rfl⟩
      have h9l := congrArg Int32.toInt h9
      have b10 := gI_111_4 hI; rw [h9] at b10
      refine hw_get (v := .int (x8)) (aX4_refuse 10 rfl) wf_RX4_54 (c111 hS) (s111 hS) (by decide) (congrArg Value.int (show FI 111 4 = x8 from h9)) ?_
      refine hw_icge (tgt := 54) (aX4_refuse 11 rfl) (by decide) rfl rfl (fun cd11 => ?_) (fun cd11 => ?_)
      · refine xw_vret (aX4_refuse 26 rfl) rfl ?_
        exact ⟨rfl, FI, rfl, hI, gf_rf⟩
      · refine hw_aloadn (aX4_refuse 12 rfl) rfl ?_
        refine xw_iloadn (aX4_refuse 13 rfl) rfl ?_
        refine hv_puti (aX4_refuse 14 rfl) wf_RX4_39 (c110 hS) (s110 hS) (by decide) rfl rfl (fun FI12 u13 => ?_)
        have hI14 : g_I FI12 := gU_F hI u13 rfl
        refine hw_aloadn (aX4_refuse 15 rfl) rfl ?_
        refine hw_aloadn (aX4_refuse 16 rfl) rfl ?_
        refine hw_get (v := .ref (base + 111)) (aX4_refuse 17 rfl) wf_RX4_12 (c110 hS) (s110 hS) (by decide) (congrArg (fun r => va_rf (h_rf base r)) (r110_0 hF)) ?_
        refine hw_get (v := .ref (base + 114)) (aX4_refuse 18 rfl) wf_RX4_66 (c111 hS) (s111 hS) (by decide) (congrArg (fun r => va_rf (h_rf base r)) (r111_2 hF)) ?_
        refine hw_aloadn (aX4_refuse 19 rfl) rfl ?_
        refine hw_get (v := .int (x4)) (aX4_refuse 20 rfl) wf_RX4_45 (c110 hS) (s110 hS) (by decide) (congrArg Value.int (show FI12 110 7 = x4 from (up_k u13 (by decide) (h5)))) ?_
        obtain ⟨x15, h16⟩ : ∃ y, FI12 114 (x4).toNatClampNeg = y := ⟨_, rfl⟩
        have h16l := congrArg Int32.toInt h16
        have := i_rng x15
        refine hw_iald (v := x15) (aX4_refuse 21 rfl) (c114 hS) (s114 hS) (h_in rfl (by omega) (by omega)) (show FI12 114 (x4).toNatClampNeg = x15 from h16) ?_
        have b17 := gI_114 hI14 (i_lt (x := x4) rfl (by omega) (by omega)); rw [h16] at b17
        refine hv_puti (aX4_refuse 22 rfl) wf_RX4_42 (c110 hS) (s110 hS) (by decide) rfl rfl (fun FI18 u19 => ?_)
        have hI20 : g_I FI18 := gU_F hI14 u19 rfl
        refine hw_aloadn (aX4_refuse 23 rfl) rfl ?_
        refine hw_ic (v := (1 : Int32)) (aX4_refuse 24 rfl) (by decide) ?_
        refine hv_puti (aX4_refuse 25 rfl) wf_RX4_51 (c110 hS) (s110 hS) (by decide) rfl rfl (fun FI21 u22 => ?_)
        have hI23 : g_I FI21 := gU_F hI20 u22 rfl
        refine xw_vret (aX4_refuse 26 rfl) rfl ?_
        exact ⟨rfl, FI21, rfl, hI23, (gf_f (gf_f (gf_f gf_rf u13 (by decide)) u19 (by decide)) u22 (by decide))⟩
def nX4_take : Nat := 0xb13e00b52f2d00b42a3a00b40c00b42a2a3300b52e2d00b42a3700b40c00b42a2a2d00b560042d00b4592a2d00a23600b40c00b42a60042d00b42a3d009a2700b42a
theorem bX4_take : cX4_take.data.toList.map UInt8.toNat = x_un nX4_take 66 := by decide +kernel
def iX4_take : List (Nat × Jvm.ClassFile.Instr × Nat) := [(0, .aload_n 0, 1), (1, .getfield 39, 3), (4, .ifCond .ne 61, 3), (7, .aload_n 0, 1), (8, .getfield 45, 3), (11, .iconst 1, 1), (12, .iadd, 1), (13, .aload_n 0, 1), (14, .getfield 12, 3), (17, .getfield 54, 3), (20, .if_icmp .ge 45, 3), (23, .aload_n 0, 1), (24, .dup, 1), (25, .getfield 45, 3), (28, .iconst 1, 1), (29, .iadd, 1), (30, .putfield 45, 3), (33, .aload_n 0, 1), (34, .aload_n 0, 1), (35, .getfield 12, 3), (38, .getfield 55, 3), (41, .aload_n 0, 1), (42, .getfield 45, 3), (45, .iaload, 1), (46, .putfield 51, 3), (49, .aload_n 0, 1), (50, .aload_n 0, 1), (51, .getfield 12, 3), (54, .getfield 58, 3), (57, .aload_n 0, 1), (58, .getfield 45, 3), (61, .laload, 1), (62, .putfield 62, 3), (65, .return_, 1)]
theorem dX4_take : x_il nX4_take 66 iX4_take = true := by decide +kernel
theorem aX4_take (k : Nat) {pc : Nat} {i : Jvm.ClassFile.Instr} {len : Nat} (hk : iX4_take[k]? = some (pc, i, len)) : x_at xMM 38 pc i len yX4_take 1 none := ⟨cX4_take, rfl, x_il_ok bX4_take dX4_take k hk⟩
set_option maxHeartbeats 4000000 in
set_option maxRecDepth 100000 in
theorem k_X4_take {sk : xK} {base d n sl : Nat} {SH : Nat → Nat × Nat} {FI : Nat → Nat → Int32} {FL : Nat → Nat → Int64} {FR : Nat → Nat → Option Nat} (hS : h_S n SH) (hF : h_FR FR) (hI : g_I FI) (hR : g_R n SH FR) : hw sk base d none 38 0 [(0, .ref (base + 110))] [] (n, sl, SH, FI, FL, FR) (h_V (fun s => ∃ FI' FL', s = (n, sl, SH, FI', FL', FR) ∧ g_I FI' ∧ g_fr n (shd SH) [(110, 7), (110, 8)] [] [] FI FI' ∧ g_fr n (shd SH) [(110, 9)] [] [] FL FL')) := by
  refine hw_aloadn (aX4_take 0 rfl) rfl ?_
  obtain ⟨x1, h2⟩ : ∃ y, FI 110 5 = y := ⟨_, rfl⟩
  have h2l := congrArg Int32.toInt h2
  have := i_rng x1
  refine hw_get (v := .int (x1)) (aX4_take 1 rfl) wf_RX4_39 (c110 hS) (s110 hS) (by decide) (congrArg Value.int (show FI 110 5 = x1 from h2)) ?_
  refine hw_ifne (tgt := 65) (aX4_take 2 rfl) (by decide) rfl (fun cd3 => ?_) (fun cd3 => ?_)
  · refine xw_vret (aX4_take 33 rfl) rfl ?_
    exact ⟨rfl, FI, FL, rfl, hI, gf_rf, gf_rf⟩
  · refine hw_aloadn (aX4_take 3 rfl) rfl ?_
    obtain ⟨x4, h5⟩ : ∃ y, FI 110 7 = y := ⟨_, rfl⟩
    have h5l := congrArg Int32.toInt h5
    have b6 := gI_110_7 hI; rw [h5] at b6
    refine hw_get (v := .int (x4)) (aX4_take 4 rfl) wf_RX4_45 (c110 hS) (s110 hS) (by decide) (congrArg Value.int (show FI 110 7 = x4 from h5)) ?_
    refine hw_ic (v := (1 : Int32)) (aX4_take 5 rfl) (by decide) ?_
    refine xw_iadd (aX4_take 6 rfl) ?_
    refine hw_tie (A := ((x4).toInt) + (1)) (i_add rfl (by decide : (1 : Int32).toInt = 1) (by omega) (by omega)) (fun x7 e8 => ?_)
    refine hw_aloadn (aX4_take 7 rfl) rfl ?_
    refine hw_get (v := .ref (base + 111)) (aX4_take 8 rfl) wf_RX4_12 (c110 hS) (s110 hS) (by decide) (congrArg (fun r => va_rf (h_rf base r)) (r110_0 hF)) ?_
    obtain ⟨x9, h10⟩ : ∃ y, FI 111 4 = y := ⟨_, rfl⟩
    have h10l := congrArg Int32.toInt h10
    have b11 := gI_111_4 hI; rw [h10] at b11
    refine hw_get (v := .int (x9)) (aX4_take 9 rfl) wf_RX4_54 (c111 hS) (s111 hS) (by decide) (congrArg Value.int (show FI 111 4 = x9 from h10)) ?_
    refine hw_icge (tgt := 65) (aX4_take 10 rfl) (by decide) e8 rfl (fun cd12 => ?_) (fun cd12 => ?_)
    · refine xw_vret (aX4_take 33 rfl) rfl ?_
      exact ⟨rfl, FI, FL, rfl, hI, gf_rf, gf_rf⟩
    · refine hw_aloadn (aX4_take 11 rfl) rfl ?_
      refine xw_dup (aX4_take 12 rfl) rfl ?_
      refine hw_get (v := .int (x4)) (aX4_take 13 rfl) wf_RX4_45 (c110 hS) (s110 hS) (by decide) (congrArg Value.int (show FI 110 7 = x4 from h5)) ?_
      refine hw_ic (v := (1 : Int32)) (aX4_take 14 rfl) (by decide) ?_
      refine xw_iadd (aX4_take 15 rfl) ?_
      refine hw_tie (A := ((x4).toInt) + (1)) (i_add rfl (by decide : (1 : Int32).toInt = 1) (by omega) (by omega)) (fun x13 e14 => ?_)
      refine hv_puti (aX4_take 16 rfl) wf_RX4_45 (c110 hS) (s110 hS) (by decide) rfl rfl (fun FI15 u16 => ?_)
      have hI17 : g_I FI15 := gU_110_7 hI u16 (by have := (e14 : (x13).toInt = ((x4).toInt) + (1)); omega) (by have := (e14 : (x13).toInt = ((x4).toInt) + (1)); omega)
      refine hw_aloadn (aX4_take 17 rfl) rfl ?_
      refine hw_aloadn (aX4_take 18 rfl) rfl ?_
      refine hw_get (v := .ref (base + 111)) (aX4_take 19 rfl) wf_RX4_12 (c110 hS) (s110 hS) (by decide) (congrArg (fun r => va_rf (h_rf base r)) (r110_0 hF)) ?_
      refine hw_get (v := .ref (base + 112)) (aX4_take 20 rfl) wf_RX4_55 (c111 hS) (s111 hS) (by decide) (congrArg (fun r => va_rf (h_rf base r)) (r111_0 hF)) ?_
      refine hw_aloadn (aX4_take 21 rfl) rfl ?_
      refine hw_get (v := .int (x13)) (aX4_take 22 rfl) wf_RX4_45 (c110 hS) (s110 hS) (by decide) (congrArg Value.int (show FI15 110 7 = x13 from up_eq u16)) ?_
      obtain ⟨x18, h19⟩ : ∃ y, FI15 112 (x13).toNatClampNeg = y := ⟨_, rfl⟩
      have h19l := congrArg Int32.toInt h19
      have := i_rng x18
      refine hw_iald (v := x18) (aX4_take 23 rfl) (c112 hS) (s112 hS) (h_in e14 (by omega) (by omega)) (show FI15 112 (x13).toNatClampNeg = x18 from h19) ?_
      refine hv_puti (aX4_take 24 rfl) wf_RX4_51 (c110 hS) (s110 hS) (by decide) rfl rfl (fun FI20 u21 => ?_)
      have hI22 : g_I FI20 := gU_F hI17 u21 rfl
      refine hw_aloadn (aX4_take 25 rfl) rfl ?_
      refine hw_aloadn (aX4_take 26 rfl) rfl ?_
      refine hw_get (v := .ref (base + 111)) (aX4_take 27 rfl) wf_RX4_12 (c110 hS) (s110 hS) (by decide) (congrArg (fun r => va_rf (h_rf base r)) (r110_0 hF)) ?_
      refine hw_get (v := .ref (base + 113)) (aX4_take 28 rfl) wf_RX4_58 (c111 hS) (s111 hS) (by decide) (congrArg (fun r => va_rf (h_rf base r)) (r111_1 hF)) ?_
      refine hw_aloadn (aX4_take 29 rfl) rfl ?_
      refine hw_get (v := .int (x13)) (aX4_take 30 rfl) wf_RX4_45 (c110 hS) (s110 hS) (by decide) (congrArg Value.int (show FI20 110 7 = x13 from (up_k u21 (by decide) (up_eq u16)))) ?_
      obtain ⟨x23, h24⟩ : ∃ y, FL 113 (x13).toNatClampNeg = y := ⟨_, rfl⟩
      have h24l := congrArg Int64.toInt h24
      have := l_rng x23
      refine hw_lald (v := x23) (aX4_take 31 rfl) (c113 hS) (s113 hS) (h_in e14 (by omega) (by omega)) (show FL 113 (x13).toNatClampNeg = x23 from h24) ?_
      refine hv_putl (aX4_take 32 rfl) wf_RX4_62 (c110 hS) (s110 hS) (by decide) rfl rfl (fun FL25 u26 => ?_)
      refine xw_vret (aX4_take 33 rfl) rfl ?_
      exact ⟨rfl, FI20, FL25, rfl, hI22, (gf_f (gf_f gf_rf u16 (by decide)) u21 (by decide)), (gf_f gf_rf u26 (by decide))⟩
def nX4_raise : Nat := 0xac042400b560042400b4592aac034500b6082a0a00a10c102400b42a
theorem bX4_raise : cX4_raise.data.toList.map UInt8.toNat = x_un nX4_raise 28 := by decide +kernel
def iX4_raise : List (Nat × Jvm.ClassFile.Instr × Nat) := [(0, .aload_n 0, 1), (1, .getfield 36, 3), (4, .bipush 12, 2), (6, .if_icmp .lt 10, 3), (9, .aload_n 0, 1), (10, .iconst 5, 1), (11, .invokevirtual 69, 3), (14, .iconst 0, 1), (15, .ireturn, 1), (16, .aload_n 0, 1), (17, .dup, 1), (18, .getfield 36, 3), (21, .iconst 1, 1), (22, .iadd, 1), (23, .putfield 36, 3), (26, .iconst 1, 1), (27, .ireturn, 1)]
theorem dX4_raise : x_il nX4_raise 28 iX4_raise = true := by decide +kernel
theorem aX4_raise (k : Nat) {pc : Nat} {i : Jvm.ClassFile.Instr} {len : Nat} (hk : iX4_raise[k]? = some (pc, i, len)) : x_at xMM 41 pc i len yX4_raise 1 (some .boolean) := ⟨cX4_raise, rfl, x_il_ok bX4_raise dX4_raise k hk⟩
set_option maxHeartbeats 4000000 in
set_option maxRecDepth 100000 in
theorem k_X4_raise {sk : xK} {base d n sl : Nat} {SH : Nat → Nat × Nat} {FI : Nat → Nat → Int32} {FL : Nat → Nat → Int64} {FR : Nat → Nat → Option Nat} (hS : h_S n SH) (hF : h_FR FR) (hI : g_I FI) (hR : g_R n SH FR) : hw sk base (d + 1) none 41 0 [(0, .ref (base + 110))] [] (n, sl, SH, FI, FL, FR) (h_I (fun r s => ∃ FI', s = (n, sl, SH, FI', FL, FR) ∧ g_I FI' ∧ g_fr n (shd SH) [(110, 4), (110, 5), (110, 6), (110, 8)] [] [] FI FI' ∧ (0 ≤ r.toInt ∧ r.toInt ≤ 1))) := by
  refine hw_aloadn (aX4_raise 0 rfl) rfl ?_
  obtain ⟨x1, h2⟩ : ∃ y, FI 110 4 = y := ⟨_, rfl⟩
  have h2l := congrArg Int32.toInt h2
  have := i_rng x1
  refine hw_get (v := .int (x1)) (aX4_raise 1 rfl) wf_RX4_36 (c110 hS) (s110 hS) (by decide) (congrArg Value.int (show FI 110 4 = x1 from h2)) ?_
  refine hw_bp (v := (12 : Int32)) (aX4_raise 2 rfl) (by decide) ?_
  refine hw_iclt (tgt := 16) (aX4_raise 3 rfl) (by decide) rfl (by decide : (12 : Int32).toInt = 12) (fun cd3 => ?_) (fun cd3 => ?_)
  · refine hw_aloadn (aX4_raise 9 rfl) rfl ?_
    refine xw_dup (aX4_raise 10 rfl) rfl ?_
    refine hw_get (v := .int (x1)) (aX4_raise 11 rfl) wf_RX4_36 (c110 hS) (s110 hS) (by decide) (congrArg Value.int (show FI 110 4 = x1 from h2)) ?_
    refine hw_ic (v := (1 : Int32)) (aX4_raise 12 rfl) (by decide) ?_
    refine xw_iadd (aX4_raise 13 rfl) ?_
    refine hw_tie (A := ((x1).toInt) + (1)) (i_add rfl (by decide : (1 : Int32).toInt = 1) (by omega) (by omega)) (fun x4 e5 => ?_)
    refine hv_puti (aX4_raise 14 rfl) wf_RX4_36 (c110 hS) (s110 hS) (by decide) rfl rfl (fun FI6 u7 => ?_)
    have hI8 : g_I FI6 := gU_F hI u7 rfl
    refine hw_ic (v := (1 : Int32)) (aX4_raise 15 rfl) (by decide) ?_
    refine xw_iret (aX4_raise 16 rfl) rfl (by decide) ?_
    have e9 : ((1 : Int32)).toInt = 1 := (by decide : (1 : Int32).toInt = 1)
    exact ⟨(1 : Int32), rfl, FI6, rfl, hI8, (gf_f gf_rf u7 (by decide)), (by have : ((1 : Int32)).toInt = 1 := (by decide); omega)⟩
  · refine hw_aloadn (aX4_raise 4 rfl) rfl ?_
    refine hw_ic (v := (5 : Int32)) (aX4_raise 5 rfl) (by decide) ?_
    refine hw_callV (Bs := [.int ((5 : Int32))]) (rest := []) (aX4_raise 6 rfl) wc_RX4_69 (by decide) rfl wi_yX4_refuse wv_yX4_refuse (c110 hS) (s110 hS) rfl rfl rfl (Nat.le_of_ble_eq_true rfl) (Nat.le_of_ble_eq_true rfl) (k_X4_refuse (d := d) hS hF hI hR ((5 : Int32)) ) (fun v10 sv11 p12 => ?_)
    obtain ⟨rfl, FI14, rfl, hI15, f16⟩ := p12
    show hw sk base _ _ _ _ _ [] _ _
    refine hw_ic (v := (0 : Int32)) (aX4_raise 7 rfl) (by decide) ?_
    refine xw_iret (aX4_raise 8 rfl) rfl (by decide) ?_
    have e21 : ((0 : Int32)).toInt = 0 := (by decide : (0 : Int32).toInt = 0)
    exact ⟨(0 : Int32), rfl, FI14, rfl, hI15, (gf_tr ex_rf gf_rf f16 rfl rfl rfl), (by have : ((0 : Int32)).toInt = 0 := (by decide); omega)⟩
def nX4_expect : Nat := 0xb14500b6042a0800a73000b62a0a00a01b3300b42a
theorem bX4_expect : cX4_expect.data.toList.map UInt8.toNat = x_un nX4_expect 21 := by decide +kernel
def iX4_expect : List (Nat × Jvm.ClassFile.Instr × Nat) := [(0, .aload_n 0, 1), (1, .getfield 51, 3), (4, .iload_n 1, 1), (5, .if_icmp .ne 10, 3), (8, .aload_n 0, 1), (9, .invokevirtual 48, 3), (12, .goto 8, 3), (15, .aload_n 0, 1), (16, .iconst 1, 1), (17, .invokevirtual 69, 3), (20, .return_, 1)]
theorem dX4_expect : x_il nX4_expect 21 iX4_expect = true := by decide +kernel
theorem aX4_expect (k : Nat) {pc : Nat} {i : Jvm.ClassFile.Instr} {len : Nat} (hk : iX4_expect[k]? = some (pc, i, len)) : x_at xMM 40 pc i len yX4_expect 2 none := ⟨cX4_expect, rfl, x_il_ok bX4_expect dX4_expect k hk⟩
set_option maxHeartbeats 4000000 in
set_option maxRecDepth 100000 in
theorem k_X4_expect {sk : xK} {base d n sl : Nat} {SH : Nat → Nat × Nat} {FI : Nat → Nat → Int32} {FL : Nat → Nat → Int64} {FR : Nat → Nat → Option Nat} (hS : h_S n SH) (hF : h_FR FR) (hI : g_I FI) (hR : g_R n SH FR) (a1 : Int32) : hw sk base (d + 1) none 40 0 [(0, .ref (base + 110)), (1, .int (a1))] [] (n, sl, SH, FI, FL, FR) (h_V (fun s => ∃ FI' FL', s = (n, sl, SH, FI', FL', FR) ∧ g_I FI' ∧ g_fr n (shd SH) [(110, 5), (110, 6), (110, 7), (110, 8)] [] [] FI FI' ∧ g_fr n (shd SH) [(110, 9)] [] [] FL FL')) := by
  have rg_a1 := i_rng a1
  refine hw_aloadn (aX4_expect 0 rfl) rfl ?_
  obtain ⟨x1, h2⟩ : ∃ y, FI 110 8 = y := ⟨_, rfl⟩
  have h2l := congrArg Int32.toInt h2
  have := i_rng x1
  refine hw_get (v := .int (x1)) (aX4_expect 1 rfl) wf_RX4_51 (c110 hS) (s110 hS) (by decide) (congrArg Value.int (show FI 110 8 = x1 from h2)) ?_
  refine xw_iloadn (aX4_expect 2 rfl) rfl ?_
  refine hw_icne (tgt := 15) (aX4_expect 3 rfl) (by decide) rfl rfl (fun cd3 => ?_) (fun cd3 => ?_)
  · refine hw_aloadn (aX4_expect 7 rfl) rfl ?_
    refine hw_ic (v := (1 : Int32)) (aX4_expect 8 rfl) (by decide) ?_
    refine hw_callV (Bs := [.int ((1 : Int32))]) (rest := []) (aX4_expect 9 rfl) wc_RX4_69 (by decide) rfl wi_yX4_refuse wv_yX4_refuse (c110 hS) (s110 hS) rfl rfl rfl (Nat.le_of_ble_eq_true rfl) (Nat.le_of_ble_eq_true rfl) (k_X4_refuse (d := d) hS hF hI hR ((1 : Int32)) ) (fun v4 sv5 p6 => ?_)
    obtain ⟨rfl, FI8, rfl, hI9, f10⟩ := p6
    show hw sk base _ _ _ _ _ [] _ _
    refine xw_vret (aX4_expect 10 rfl) rfl ?_
    exact ⟨rfl, FI8, FL, rfl, hI9, (gf_tr ex_rf gf_rf f10 rfl rfl rfl), gf_rf⟩
  · refine hw_aloadn (aX4_expect 4 rfl) rfl ?_
    refine hw_callV (Bs := []) (rest := []) (aX4_expect 5 rfl) wc_RX4_48 (by decide) rfl wi_yX4_take wv_yX4_take (c110 hS) (s110 hS) rfl rfl rfl (Nat.le_of_ble_eq_true rfl) (Nat.le_of_ble_eq_true rfl) (k_X4_take (d := d) hS hF hI hR ) (fun v15 sv16 p17 => ?_)
    obtain ⟨rfl, FI19, FL20, rfl, hI21, f22, f23⟩ := p17
    show hw sk base _ _ _ _ _ [] _ _
    refine xw_goto (tgt := 20) (aX4_expect 6 rfl) (by decide) ?_
    refine xw_vret (aX4_expect 10 rfl) rfl ?_
    exact ⟨rfl, FI19, FL20, rfl, hI21, (gf_tr ex_rf gf_rf f22 rfl rfl rfl), (gf_tr ex_rf gf_rf f23 rfl rfl rfl)⟩
def nX4_readWidth : Nat := 0xb15300b6082a8c00b5883e00b42a2b4500b6062a08009e948a00143e00b42a1300a0083300b42a5300b62f102a
theorem bX4_readWidth : cX4_readWidth.data.toList.map UInt8.toNat = x_un nX4_readWidth 45 := by decide +kernel
def iX4_readWidth : List (Nat × Jvm.ClassFile.Instr × Nat) := [(0, .aload_n 0, 1), (1, .bipush 47, 2), (3, .invokevirtual 83, 3), (6, .aload_n 0, 1), (7, .getfield 51, 3), (10, .iconst 5, 1), (11, .if_icmp .ne 19, 3), (14, .aload_n 0, 1), (15, .getfield 62, 3), (18, .ldc2_w 138, 3), (21, .lcmp, 1), (22, .ifCond .le 8, 3), (25, .aload_n 0, 1), (26, .iconst 3, 1), (27, .invokevirtual 69, 3), (30, .aload_n 1, 1), (31, .aload_n 0, 1), (32, .getfield 62, 3), (35, .l2i, 1), (36, .putfield 140, 3), (39, .aload_n 0, 1), (40, .iconst 5, 1), (41, .invokevirtual 83, 3), (44, .return_, 1)]
theorem dX4_readWidth : x_il nX4_readWidth 45 iX4_readWidth = true := by decide +kernel
theorem aX4_readWidth (k : Nat) {pc : Nat} {i : Jvm.ClassFile.Instr} {len : Nat} (hk : iX4_readWidth[k]? = some (pc, i, len)) : x_at xMM 48 pc i len yX4_readWidth 2 none := ⟨cX4_readWidth, rfl, x_il_ok bX4_readWidth dX4_readWidth k hk⟩
set_option maxHeartbeats 4000000 in
set_option maxRecDepth 100000 in
theorem k_X4_readWidth {sk : xK} {base d n sl : Nat} {SH : Nat → Nat × Nat} {FI : Nat → Nat → Int32} {FL : Nat → Nat → Int64} {FR : Nat → Nat → Option Nat} (hS : h_S n SH) (hF : h_FR FR) (hI : g_I FI) (hR : g_R n SH FR) (a1 : Nat) {z1 : Nat} (ha1l : a1 < n) (ha1s : SH a1 = (6, z1)) (ha1o : own a1) : hw sk base (d + 2) none 48 0 [(0, .ref (base + 110)), (1, .ref (base + a1))] [] (n, sl, SH, FI, FL, FR) (h_V (fun s => ∃ FI' FL', s = (n, sl, SH, FI', FL', FR) ∧ g_I FI' ∧ g_fr n (shd SH) [(110, 5), (110, 6), (110, 7), (110, 8)] [] [1006] FI FI' ∧ g_fr n (shd SH) [(110, 9)] [] [] FL FL')) := by
  refine hw_aloadn (aX4_readWidth 0 rfl) rfl ?_
  refine hw_bp (v := (47 : Int32)) (aX4_readWidth 1 rfl) (by decide) ?_
  refine hw_callV (Bs := [.int ((47 : Int32))]) (rest := []) (aX4_readWidth 2 rfl) wc_RX4_83 (by decide) rfl wi_yX4_expect wv_yX4_expect (c110 hS) (s110 hS) rfl rfl rfl (Nat.le_of_ble_eq_true rfl) (Nat.le_of_ble_eq_true rfl) (k_X4_expect (d := d) hS hF hI hR ((47 : Int32)) ) (fun v1 sv2 p3 => ?_)
  obtain ⟨rfl, FI5, FL6, rfl, hI7, f8, f9⟩ := p3
  show hw sk base _ _ _ _ _ [] _ _
  refine hw_aloadn (aX4_readWidth 3 rfl) rfl ?_
  obtain ⟨x14, h15⟩ : ∃ y, FI5 110 8 = y := ⟨_, rfl⟩
  have h15l := congrArg Int32.toInt h15
  have := i_rng x14
  refine hw_get (v := .int (x14)) (aX4_readWidth 4 rfl) wf_RX4_51 (c110 hS) (s110 hS) (by decide) (congrArg Value.int (show FI5 110 8 = x14 from h15)) ?_
  refine hw_ic (v := (5 : Int32)) (aX4_readWidth 5 rfl) (by decide) ?_
  refine hw_icne (tgt := 30) (aX4_readWidth 6 rfl) (by decide) rfl (by decide : (5 : Int32).toInt = 5) (fun cd16 => ?_) (fun cd16 => ?_)
  · refine hw_aloadn (aX4_readWidth 15 rfl) rfl ?_
    refine hw_aloadn (aX4_readWidth 16 rfl) rfl ?_
    obtain ⟨x17, h18⟩ : ∃ y, FL6 110 9 = y := ⟨_, rfl⟩
    have h18l := congrArg Int64.toInt h18
    have := l_rng x17
    refine hw_get (v := .long (x17)) (aX4_readWidth 17 rfl) wf_RX4_62 (c110 hS) (s110 hS) (by decide) (congrArg Value.long (show FL6 110 9 = x17 from h18)) ?_
    refine xw_l2i (aX4_readWidth 18 rfl) ?_
    refine hw_ti (fun x19 => ?_)
    have b20 := i_rng x19
    refine hv_puti (aX4_readWidth 19 rfl) wf_RX4_140 ha1l ha1s (by decide) rfl rfl (fun FI21 u22 => ?_)
    have hI23 : g_I FI21 := gU_F hI7 u22 (g_hi (dyn_tag hS ha1s (by decide +kernel)))
    refine hw_aloadn (aX4_readWidth 20 rfl) rfl ?_
    refine hw_ic (v := (5 : Int32)) (aX4_readWidth 21 rfl) (by decide) ?_
    refine hw_callV (Bs := [.int ((5 : Int32))]) (rest := []) (aX4_readWidth 22 rfl) wc_RX4_83 (by decide) rfl wi_yX4_expect wv_yX4_expect (c110 hS) (s110 hS) rfl rfl rfl (Nat.le_of_ble_eq_true rfl) (Nat.le_of_ble_eq_true rfl) (k_X4_expect (d := d) hS hF hI23 hR ((5 : Int32)) ) (fun v24 sv25 p26 => ?_)
    obtain ⟨rfl, FI28, FL29, rfl, hI30, f31, f32⟩ := p26
    show hw sk base _ _ _ _ _ [] _ _
    refine xw_vret (aX4_readWidth 23 rfl) rfl ?_
    exact ⟨rfl, FI28, FL29, rfl, hI30, (gf_tr ex_rf (gf_t (gf_tr ex_rf gf_rf f8 rfl rfl rfl) u22 (shd_d (dyn_tag hS ha1s (by decide +kernel)) ha1s) (by decide)) f31 rfl rfl rfl), (gf_tr ex_rf (gf_tr ex_rf gf_rf f9 rfl rfl rfl) f32 rfl rfl rfl)⟩
  · refine hw_aloadn (aX4_readWidth 7 rfl) rfl ?_
    obtain ⟨x37, h38⟩ : ∃ y, FL6 110 9 = y := ⟨_, rfl⟩
    have h38l := congrArg Int64.toInt h38
    have := l_rng x37
    refine hw_get (v := .long (x37)) (aX4_readWidth 8 rfl) wf_RX4_62 (c110 hS) (s110 hS) (by decide) (congrArg Value.long (show FL6 110 9 = x37 from h38)) ?_
    refine xw_ldc2 (aX4_readWidth 9 rfl) wk_RX4_138 ?_
    refine hw_lcle (tgt := 30) (aX4_readWidth 10 rfl) (aX4_readWidth 11 rfl) (by decide) rfl (by decide : (64 : Int64).toInt = 64) (fun cd39 => ?_) (fun cd39 => ?_)
    · refine hw_aloadn (aX4_readWidth 15 rfl) rfl ?_
      refine hw_aloadn (aX4_readWidth 16 rfl) rfl ?_
      refine hw_get (v := .long (x37)) (aX4_readWidth 17 rfl) wf_RX4_62 (c110 hS) (s110 hS) (by decide) (congrArg Value.long (show FL6 110 9 = x37 from h38)) ?_
      refine xw_l2i (aX4_readWidth 18 rfl) ?_
      refine hw_ti (fun x40 => ?_)
      have b41 := i_rng x40
      refine hv_puti (aX4_readWidth 19 rfl) wf_RX4_140 ha1l ha1s (by decide) rfl rfl (fun FI42 u43 => ?_)
      have hI44 : g_I FI42 := gU_F hI7 u43 (g_hi (dyn_tag hS ha1s (by decide +kernel)))
      refine hw_aloadn (aX4_readWidth 20 rfl) rfl ?_
      refine hw_ic (v := (5 : Int32)) (aX4_readWidth 21 rfl) (by decide) ?_
      refine hw_callV (Bs := [.int ((5 : Int32))]) (rest := []) (aX4_readWidth 22 rfl) wc_RX4_83 (by decide) rfl wi_yX4_expect wv_yX4_expect (c110 hS) (s110 hS) rfl rfl rfl (Nat.le_of_ble_eq_true rfl) (Nat.le_of_ble_eq_true rfl) (k_X4_expect (d := d) hS hF hI44 hR ((5 : Int32)) ) (fun v45 sv46 p47 => ?_)
      obtain ⟨rfl, FI49, FL50, rfl, hI51, f52, f53⟩ := p47
      show hw sk base _ _ _ _ _ [] _ _
      refine xw_vret (aX4_readWidth 23 rfl) rfl ?_
      exact ⟨rfl, FI49, FL50, rfl, hI51, (gf_tr ex_rf (gf_t (gf_tr ex_rf gf_rf f8 rfl rfl rfl) u43 (shd_d (dyn_tag hS ha1s (by decide +kernel)) ha1s) (by decide)) f52 rfl rfl rfl), (gf_tr ex_rf (gf_tr ex_rf gf_rf f9 rfl rfl rfl) f53 rfl rfl rfl)⟩
    · refine hw_aloadn (aX4_readWidth 12 rfl) rfl ?_
      refine hw_ic (v := (3 : Int32)) (aX4_readWidth 13 rfl) (by decide) ?_
      refine hw_callV (Bs := [.int ((3 : Int32))]) (rest := []) (aX4_readWidth 14 rfl) wc_RX4_69 (by decide) rfl wi_yX4_refuse wv_yX4_refuse (c110 hS) (s110 hS) rfl rfl rfl (Nat.le_of_ble_eq_true rfl) (Nat.le_of_ble_eq_true rfl) (k_X4_refuse (d := d + 1) hS hF hI7 hR ((3 : Int32)) ) (fun v58 sv59 p60 => ?_)
      obtain ⟨rfl, FI62, rfl, hI63, f64⟩ := p60
      show hw sk base _ _ _ _ _ [] _ _
      refine hw_aloadn (aX4_readWidth 15 rfl) rfl ?_
      refine hw_aloadn (aX4_readWidth 16 rfl) rfl ?_
      refine hw_get (v := .long (x37)) (aX4_readWidth 17 rfl) wf_RX4_62 (c110 hS) (s110 hS) (by decide) (congrArg Value.long (show FL6 110 9 = x37 from h38)) ?_
      refine xw_l2i (aX4_readWidth 18 rfl) ?_
      refine hw_ti (fun x69 => ?_)
      have b70 := i_rng x69
      refine hv_puti (aX4_readWidth 19 rfl) wf_RX4_140 ha1l ha1s (by decide) rfl rfl (fun FI71 u72 => ?_)
      have hI73 : g_I FI71 := gU_F hI63 u72 (g_hi (dyn_tag hS ha1s (by decide +kernel)))
      refine hw_aloadn (aX4_readWidth 20 rfl) rfl ?_
      refine hw_ic (v := (5 : Int32)) (aX4_readWidth 21 rfl) (by decide) ?_
      refine hw_callV (Bs := [.int ((5 : Int32))]) (rest := []) (aX4_readWidth 22 rfl) wc_RX4_83 (by decide) rfl wi_yX4_expect wv_yX4_expect (c110 hS) (s110 hS) rfl rfl rfl (Nat.le_of_ble_eq_true rfl) (Nat.le_of_ble_eq_true rfl) (k_X4_expect (d := d) hS hF hI73 hR ((5 : Int32)) ) (fun v74 sv75 p76 => ?_)
      obtain ⟨rfl, FI78, FL79, rfl, hI80, f81, f82⟩ := p76
      show hw sk base _ _ _ _ _ [] _ _
      refine xw_vret (aX4_readWidth 23 rfl) rfl ?_
      exact ⟨rfl, FI78, FL79, rfl, hI80, (gf_tr ex_rf (gf_t (gf_tr ex_rf (gf_tr ex_rf gf_rf f8 rfl rfl rfl) f64 rfl rfl rfl) u72 (shd_d (dyn_tag hS ha1s (by decide +kernel)) ha1s) (by decide)) f81 rfl rfl rfl), (gf_tr ex_rf (gf_tr ex_rf gf_rf f9 rfl rfl rfl) f82 rfl rfl rfl)⟩
def nX4_beginsPlace : Nat := 0xac030400a7040700a00a101a09009f09101a0f009f08101a15009f5b101a1b009f07101a
theorem bX4_beginsPlace : cX4_beginsPlace.data.toList.map UInt8.toNat = x_un nX4_beginsPlace 36 := by decide +kernel
def iX4_beginsPlace : List (Nat × Jvm.ClassFile.Instr × Nat) := [(0, .iload_n 0, 1), (1, .bipush 7, 2), (3, .if_icmp .eq 27, 3), (6, .iload_n 0, 1), (7, .bipush 91, 2), (9, .if_icmp .eq 21, 3), (12, .iload_n 0, 1), (13, .bipush 8, 2), (15, .if_icmp .eq 15, 3), (18, .iload_n 0, 1), (19, .bipush 9, 2), (21, .if_icmp .eq 9, 3), (24, .iload_n 0, 1), (25, .bipush 10, 2), (27, .if_icmp .ne 7, 3), (30, .iconst 1, 1), (31, .goto 4, 3), (34, .iconst 0, 1), (35, .ireturn, 1)]
theorem dX4_beginsPlace : x_il nX4_beginsPlace 36 iX4_beginsPlace = true := by decide +kernel
theorem aX4_beginsPlace (k : Nat) {pc : Nat} {i : Jvm.ClassFile.Instr} {len : Nat} (hk : iX4_beginsPlace[k]? = some (pc, i, len)) : x_at xMM 49 pc i len yX4_beginsPlace 1 (some .boolean) := ⟨cX4_beginsPlace, rfl, x_il_ok bX4_beginsPlace dX4_beginsPlace k hk⟩
set_option maxHeartbeats 4000000 in
set_option maxRecDepth 100000 in
theorem k_X4_beginsPlace {sk : xK} {base d n sl : Nat} {SH : Nat → Nat × Nat} {FI : Nat → Nat → Int32} {FL : Nat → Nat → Int64} {FR : Nat → Nat → Option Nat} (hS : h_S n SH) (hF : h_FR FR) (hI : g_I FI) (hR : g_R n SH FR) (a1 : Int32) : hw sk base d none 49 0 [(0, .int (a1))] [] (n, sl, SH, FI, FL, FR) (h_I (fun r s => s = (n, sl, SH, FI, FL, FR) ∧ (0 ≤ r.toInt ∧ r.toInt ≤ 1))) := by
  have rg_a1 := i_rng a1
  refine xw_iloadn (aX4_beginsPlace 0 rfl) rfl ?_
  refine hw_bp (v := (7 : Int32)) (aX4_beginsPlace 1 rfl) (by decide) ?_
  refine hw_iceq (tgt := 30) (aX4_beginsPlace 2 rfl) (by decide) rfl (by decide : (7 : Int32).toInt = 7) (fun cd1 => ?_) (fun cd1 => ?_)
  · refine hw_ic (v := (1 : Int32)) (aX4_beginsPlace 15 rfl) (by decide) ?_
    refine xw_goto (tgt := 35) (aX4_beginsPlace 16 rfl) (by decide) ?_
    refine xw_iret (aX4_beginsPlace 18 rfl) rfl (by decide) ?_
    have e2 : ((1 : Int32)).toInt = 1 := (by decide : (1 : Int32).toInt = 1)
    exact ⟨(1 : Int32), rfl, rfl, (by have : ((1 : Int32)).toInt = 1 := (by decide); omega)⟩
  · refine xw_iloadn (aX4_beginsPlace 3 rfl) rfl ?_
    refine hw_bp (v := (91 : Int32)) (aX4_beginsPlace 4 rfl) (by decide) ?_
    refine hw_iceq (tgt := 30) (aX4_beginsPlace 5 rfl) (by decide) rfl (by decide : (91 : Int32).toInt = 91) (fun cd3 => ?_) (fun cd3 => ?_)
    · refine hw_ic (v := (1 : Int32)) (aX4_beginsPlace 15 rfl) (by decide) ?_
      refine xw_goto (tgt := 35) (aX4_beginsPlace 16 rfl) (by decide) ?_
      refine xw_iret (aX4_beginsPlace 18 rfl) rfl (by decide) ?_
      have e4 : ((1 : Int32)).toInt = 1 := (by decide : (1 : Int32).toInt = 1)
      exact ⟨(1 : Int32), rfl, rfl, (by have : ((1 : Int32)).toInt = 1 := (by decide); omega)⟩
    · refine xw_iloadn (aX4_beginsPlace 6 rfl) rfl ?_
      refine hw_bp (v := (8 : Int32)) (aX4_beginsPlace 7 rfl) (by decide) ?_
      refine hw_iceq (tgt := 30) (aX4_beginsPlace 8 rfl) (by decide) rfl (by decide : (8 : Int32).toInt = 8) (fun cd5 => ?_) (fun cd5 => ?_)
      · refine hw_ic (v := (1 : Int32)) (aX4_beginsPlace 15 rfl) (by decide) ?_
        refine xw_goto (tgt := 35) (aX4_beginsPlace 16 rfl) (by decide) ?_
        refine xw_iret (aX4_beginsPlace 18 rfl) rfl (by decide) ?_
        have e6 : ((1 : Int32)).toInt = 1 := (by decide : (1 : Int32).toInt = 1)
        exact ⟨(1 : Int32), rfl, rfl, (by have : ((1 : Int32)).toInt = 1 := (by decide); omega)⟩
      · refine xw_iloadn (aX4_beginsPlace 9 rfl) rfl ?_
        refine hw_bp (v := (9 : Int32)) (aX4_beginsPlace 10 rfl) (by decide) ?_
        refine hw_iceq (tgt := 30) (aX4_beginsPlace 11 rfl) (by decide) rfl (by decide : (9 : Int32).toInt = 9) (fun cd7 => ?_) (fun cd7 => ?_)
        · refine hw_ic (v := (1 : Int32)) (aX4_beginsPlace 15 rfl) (by decide) ?_
          refine xw_goto (tgt := 35) (aX4_beginsPlace 16 rfl) (by decide) ?_
          refine xw_iret (aX4_beginsPlace 18 rfl) rfl (by decide) ?_
          have e8 : ((1 : Int32)).toInt = 1 := (by decide : (1 : Int32).toInt = 1)
          exact ⟨(1 : Int32), rfl, rfl, (by have : ((1 : Int32)).toInt = 1 := (by decide); omega)⟩
        · refine xw_iloadn (aX4_beginsPlace 12 rfl) rfl ?_
          refine hw_bp (v := (10 : Int32)) (aX4_beginsPlace 13 rfl) (by decide) ?_
          refine hw_icne (tgt := 34) (aX4_beginsPlace 14 rfl) (by decide) rfl (by decide : (10 : Int32).toInt = 10) (fun cd9 => ?_) (fun cd9 => ?_)
          · refine hw_ic (v := (0 : Int32)) (aX4_beginsPlace 17 rfl) (by decide) ?_
            refine xw_iret (aX4_beginsPlace 18 rfl) rfl (by decide) ?_
            have e10 : ((0 : Int32)).toInt = 0 := (by decide : (0 : Int32).toInt = 0)
            exact ⟨(0 : Int32), rfl, rfl, (by have : ((0 : Int32)).toInt = 0 := (by decide); omega)⟩
          · refine hw_ic (v := (1 : Int32)) (aX4_beginsPlace 15 rfl) (by decide) ?_
            refine xw_goto (tgt := 35) (aX4_beginsPlace 16 rfl) (by decide) ?_
            refine xw_iret (aX4_beginsPlace 18 rfl) rfl (by decide) ?_
            have e11 : ((1 : Int32)).toInt = 1 := (by decide : (1 : Int32).toInt = 1)
            exact ⟨(1 : Int32), rfl, rfl, (by have : ((1 : Int32)).toInt = 1 := (by decide); omega)⟩
def nX4_refuseHighRegister : Nat := 0xad3e00b42a4500b6052a08009b94a700143e00b42a1300a0083300b42a
theorem bX4_refuseHighRegister : cX4_refuseHighRegister.data.toList.map UInt8.toNat = x_un nX4_refuseHighRegister 29 := by decide +kernel
def iX4_refuseHighRegister : List (Nat × Jvm.ClassFile.Instr × Nat) := [(0, .aload_n 0, 1), (1, .getfield 51, 3), (4, .iconst 5, 1), (5, .if_icmp .ne 19, 3), (8, .aload_n 0, 1), (9, .getfield 62, 3), (12, .ldc2_w 167, 3), (15, .lcmp, 1), (16, .ifCond .lt 8, 3), (19, .aload_n 0, 1), (20, .iconst 2, 1), (21, .invokevirtual 69, 3), (24, .aload_n 0, 1), (25, .getfield 62, 3), (28, .lreturn, 1)]
theorem dX4_refuseHighRegister : x_il nX4_refuseHighRegister 29 iX4_refuseHighRegister = true := by decide +kernel
theorem aX4_refuseHighRegister (k : Nat) {pc : Nat} {i : Jvm.ClassFile.Instr} {len : Nat} (hk : iX4_refuseHighRegister[k]? = some (pc, i, len)) : x_at xMM 51 pc i len yX4_refuseHighRegister 1 (some .long) := ⟨cX4_refuseHighRegister, rfl, x_il_ok bX4_refuseHighRegister dX4_refuseHighRegister k hk⟩
set_option maxHeartbeats 4000000 in
set_option maxRecDepth 100000 in
theorem k_X4_refuseHighRegister {sk : xK} {base d n sl : Nat} {SH : Nat → Nat × Nat} {FI : Nat → Nat → Int32} {FL : Nat → Nat → Int64} {FR : Nat → Nat → Option Nat} (hS : h_S n SH) (hF : h_FR FR) (hI : g_I FI) (hR : g_R n SH FR) : hw sk base (d + 1) none 51 0 [(0, .ref (base + 110))] [] (n, sl, SH, FI, FL, FR) (h_J (fun r s => ∃ FI', s = (n, sl, SH, FI', FL, FR) ∧ g_I FI' ∧ g_fr n (shd SH) [(110, 5), (110, 6), (110, 8)] [] [] FI FI')) := by
  refine hw_aloadn (aX4_refuseHighRegister 0 rfl) rfl ?_
  obtain ⟨x1, h2⟩ : ∃ y, FI 110 8 = y := ⟨_, rfl⟩
  have h2l := congrArg Int32.toInt h2
  have := i_rng x1
  refine hw_get (v := .int (x1)) (aX4_refuseHighRegister 1 rfl) wf_RX4_51 (c110 hS) (s110 hS) (by decide) (congrArg Value.int (show FI 110 8 = x1 from h2)) ?_
  refine hw_ic (v := (5 : Int32)) (aX4_refuseHighRegister 2 rfl) (by decide) ?_
  refine hw_icne (tgt := 24) (aX4_refuseHighRegister 3 rfl) (by decide) rfl (by decide : (5 : Int32).toInt = 5) (fun cd3 => ?_) (fun cd3 => ?_)
  · refine hw_aloadn (aX4_refuseHighRegister 12 rfl) rfl ?_
    obtain ⟨x4, h5⟩ : ∃ y, FL 110 9 = y := ⟨_, rfl⟩
    have h5l := congrArg Int64.toInt h5
    have := l_rng x4
    refine hw_get (v := .long (x4)) (aX4_refuseHighRegister 13 rfl) wf_RX4_62 (c110 hS) (s110 hS) (by decide) (congrArg Value.long (show FL 110 9 = x4 from h5)) ?_
    refine xw_lret (aX4_refuseHighRegister 14 rfl) rfl ?_
    exact ⟨x4, rfl, FI, rfl, hI, gf_rf⟩
  · refine hw_aloadn (aX4_refuseHighRegister 4 rfl) rfl ?_
    obtain ⟨x6, h7⟩ : ∃ y, FL 110 9 = y := ⟨_, rfl⟩
    have h7l := congrArg Int64.toInt h7
    have := l_rng x6
    refine hw_get (v := .long (x6)) (aX4_refuseHighRegister 5 rfl) wf_RX4_62 (c110 hS) (s110 hS) (by decide) (congrArg Value.long (show FL 110 9 = x6 from h7)) ?_
    refine xw_ldc2 (aX4_refuseHighRegister 6 rfl) wk_RX4_167 ?_
    refine hw_lclt (tgt := 24) (aX4_refuseHighRegister 7 rfl) (aX4_refuseHighRegister 8 rfl) (by decide) rfl (by decide : (32 : Int64).toInt = 32) (fun cd8 => ?_) (fun cd8 => ?_)
    · refine hw_aloadn (aX4_refuseHighRegister 12 rfl) rfl ?_
      refine hw_get (v := .long (x6)) (aX4_refuseHighRegister 13 rfl) wf_RX4_62 (c110 hS) (s110 hS) (by decide) (congrArg Value.long (show FL 110 9 = x6 from h7)) ?_
      refine xw_lret (aX4_refuseHighRegister 14 rfl) rfl ?_
      exact ⟨x6, rfl, FI, rfl, hI, gf_rf⟩
    · refine hw_aloadn (aX4_refuseHighRegister 9 rfl) rfl ?_
      refine hw_ic (v := (2 : Int32)) (aX4_refuseHighRegister 10 rfl) (by decide) ?_
      refine hw_callV (Bs := [.int ((2 : Int32))]) (rest := []) (aX4_refuseHighRegister 11 rfl) wc_RX4_69 (by decide) rfl wi_yX4_refuse wv_yX4_refuse (c110 hS) (s110 hS) rfl rfl rfl (Nat.le_of_ble_eq_true rfl) (Nat.le_of_ble_eq_true rfl) (k_X4_refuse (d := d) hS hF hI hR ((2 : Int32)) ) (fun v9 sv10 p11 => ?_)
      obtain ⟨rfl, FI13, rfl, hI14, f15⟩ := p11
      show hw sk base _ _ _ _ _ [] _ _
      refine hw_aloadn (aX4_refuseHighRegister 12 rfl) rfl ?_
      refine hw_get (v := .long (x6)) (aX4_refuseHighRegister 13 rfl) wf_RX4_62 (c110 hS) (s110 hS) (by decide) (congrArg Value.long (show FL 110 9 = x6 from h7)) ?_
      refine xw_lret (aX4_refuseHighRegister 14 rfl) rfl ?_
      exact ⟨x6, rfl, FI13, rfl, hI14, (gf_tr ex_rf gf_rf f15 rfl rfl rfl)⟩
def nX7_letter : Nat := 0xac2e1b1900b42a0900a7020700a1be1900b42a1b0c00a22200b42a1b14009b1b
theorem bX7_letter : cX7_letter.data.toList.map UInt8.toNat = x_un nX7_letter 32 := by decide +kernel
def iX7_letter : List (Nat × Jvm.ClassFile.Instr × Nat) := [(0, .iload_n 1, 1), (1, .ifCond .lt 20, 3), (4, .iload_n 1, 1), (5, .aload_n 0, 1), (6, .getfield 34, 3), (9, .if_icmp .ge 12, 3), (12, .iload_n 1, 1), (13, .aload_n 0, 1), (14, .getfield 25, 3), (17, .arraylength, 1), (18, .if_icmp .lt 7, 3), (21, .iconst (-1), 1), (22, .goto 9, 3), (25, .aload_n 0, 1), (26, .getfield 25, 3), (29, .iload_n 1, 1), (30, .iaload, 1), (31, .ireturn, 1)]
theorem dX7_letter : x_il nX7_letter 32 iX7_letter = true := by decide +kernel
theorem aX7_letter (k : Nat) {pc : Nat} {i : Jvm.ClassFile.Instr} {len : Nat} (hk : iX7_letter[k]? = some (pc, i, len)) : x_at xMM 67 pc i len yX7_letter 2 (some .int) := ⟨cX7_letter, rfl, x_il_ok bX7_letter dX7_letter k hk⟩
set_option maxHeartbeats 4000000 in
set_option maxRecDepth 100000 in
theorem k_X7_letter {sk : xK} {base d n sl : Nat} {SH : Nat → Nat × Nat} {FI : Nat → Nat → Int32} {FL : Nat → Nat → Int64} {FR : Nat → Nat → Option Nat} (hS : h_S n SH) (hF : h_FR FR) (hI : g_I FI) (hR : g_R n SH FR) (a1 : Int32) : hw sk base d none 67 0 [(0, .ref (base + 111)), (1, .int (a1))] [] (n, sl, SH, FI, FL, FR) (h_I (fun r s => s = (n, sl, SH, FI, FL, FR))) := by
  have rg_a1 := i_rng a1
  refine xw_iloadn (aX7_letter 0 rfl) rfl ?_
  refine hw_iflt (tgt := 21) (aX7_letter 1 rfl) (by decide) rfl (fun cd1 => ?_) (fun cd1 => ?_)
  · refine hw_ic (v := ((-1) : Int32)) (aX7_letter 11 rfl) (by decide) ?_
    refine xw_goto (tgt := 31) (aX7_letter 12 rfl) (by decide) ?_
    refine xw_iret (aX7_letter 17 rfl) rfl rfl ?_
    have e2 : (((-1) : Int32)).toInt = (-1) := (by decide : ((-1) : Int32).toInt = (-1))
    exact ⟨((-1) : Int32), rfl, rfl⟩
  · refine xw_iloadn (aX7_letter 2 rfl) rfl ?_
    refine hw_aloadn (aX7_letter 3 rfl) rfl ?_
    obtain ⟨x3, h4⟩ : ∃ y, FI 111 6 = y := ⟨_, rfl⟩
    have h4l := congrArg Int32.toInt h4
    have b5 := gI_111_6 hI; rw [h4] at b5
    refine hw_get (v := .int (x3)) (aX7_letter 4 rfl) wf_RX7_34 (c111 hS) (s111 hS) (by decide) (congrArg Value.int (show FI 111 6 = x3 from h4)) ?_
    refine hw_icge (tgt := 21) (aX7_letter 5 rfl) (by decide) rfl rfl (fun cd6 => ?_) (fun cd6 => ?_)
    · refine hw_ic (v := ((-1) : Int32)) (aX7_letter 11 rfl) (by decide) ?_
      refine xw_goto (tgt := 31) (aX7_letter 12 rfl) (by decide) ?_
      refine xw_iret (aX7_letter 17 rfl) rfl rfl ?_
      have e7 : (((-1) : Int32)).toInt = (-1) := (by decide : ((-1) : Int32).toInt = (-1))
      exact ⟨((-1) : Int32), rfl, rfl⟩
    · refine xw_iloadn (aX7_letter 6 rfl) rfl ?_
      refine hw_aloadn (aX7_letter 7 rfl) rfl ?_
      obtain ⟨o8, h9⟩ : ∃ y, FR 111 5 = y := ⟨_, rfl⟩
      have ht10 : ∀ r, o8 = some r → r < n ∧ own r ∧ SH r = (100, (SH r).2) := fun r e => gR_get hR (c111 hS) (Or.inl (by decide)) (s111 hS) (h9.trans e)
      obtain ⟨r11, rfl⟩ := gR_nn hR (by unfold g_nn; omega) h9
      obtain ⟨lt12, ow13, sh14⟩ := ht10 r11 rfl
      refine hw_get (v := .ref (base + r11)) (aX7_letter 8 rfl) wf_RX7_25 (c111 hS) (s111 hS) (by decide) (congrArg (fun r => va_rf (h_rf base r)) (show FR 111 5 = some r11 from h9)) ?_
      obtain ⟨x15, h16⟩ : ∃ y, Int32.ofNat (SH r11).2 = y := ⟨_, rfl⟩
      have b17 : (x15).toInt ≤ (((SH r11).2 : Nat) : Int) := by rw [← h16]; exact i_len
      have := i_rng x15
      refine hw_alen (k := 0) (v := x15) (aX7_letter 9 rfl) lt12 sh14 (by decide) h16 ?_
      refine hw_iclt (tgt := 25) (aX7_letter 10 rfl) (by decide) rfl rfl (fun cd18 => ?_) (fun cd18 => ?_)
      · refine hw_aloadn (aX7_letter 13 rfl) rfl ?_
        refine hw_get (v := .ref (base + r11)) (aX7_letter 14 rfl) wf_RX7_25 (c111 hS) (s111 hS) (by decide) (congrArg (fun r => va_rf (h_rf base r)) (show FR 111 5 = some r11 from h9)) ?_
        refine xw_iloadn (aX7_letter 15 rfl) rfl ?_
        obtain ⟨x19, h20⟩ : ∃ y, FI r11 (a1).toNatClampNeg = y := ⟨_, rfl⟩
        have h20l := congrArg Int32.toInt h20
        have := i_rng x19
        refine hw_iald (v := x19) (aX7_letter 16 rfl) lt12 sh14 (h_in rfl (by omega) (by omega)) (show FI r11 (a1).toNatClampNeg = x19 from h20) ?_
        refine xw_iret (aX7_letter 17 rfl) rfl rfl ?_
        exact ⟨x19, rfl, rfl⟩
      · refine hw_ic (v := ((-1) : Int32)) (aX7_letter 11 rfl) (by decide) ?_
        refine xw_goto (tgt := 31) (aX7_letter 12 rfl) (by decide) ?_
        refine xw_iret (aX7_letter 17 rfl) rfl rfl ?_
        have e21 : (((-1) : Int32)).toInt = (-1) := (by decide : ((-1) : Int32).toInt = (-1))
        exact ⟨((-1) : Int32), rfl, rfl⟩
