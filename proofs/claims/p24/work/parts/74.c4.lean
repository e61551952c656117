def nX8_addPiece : Nat := 0xb11600b5601c1600b4592a1200b560041200b4592a2a00b51d04192900b51c04192500b62b0419043a321200b42a0d00b42ab10400a1be0d00b42a1200b42a
theorem bX8_addPiece : cX8_addPiece.data.toList.map UInt8.toNat = x_un nX8_addPiece 63 := by decide +kernel
def iX8_addPiece : List (Nat × Jvm.ClassFile.Instr × Nat) := [(0, .aload_n 0, 1), (1, .getfield 18, 3), (4, .aload_n 0, 1), (5, .getfield 13, 3), (8, .arraylength, 1), (9, .if_icmp .lt 4, 3), (12, .return_, 1), (13, .aload_n 0, 1), (14, .getfield 13, 3), (17, .aload_n 0, 1), (18, .getfield 18, 3), (21, .aaload, 1), (22, .astore 4, 2), (24, .aload 4, 2), (26, .aload_n 1, 1), (27, .invokevirtual 37, 3), (30, .aload 4, 2), (32, .iload_n 2, 1), (33, .putfield 41, 3), (36, .aload 4, 2), (38, .iload_n 3, 1), (39, .putfield 42, 3), (42, .aload_n 0, 1), (43, .dup, 1), (44, .getfield 18, 3), (47, .iconst 1, 1), (48, .iadd, 1), (49, .putfield 18, 3), (52, .aload_n 0, 1), (53, .dup, 1), (54, .getfield 22, 3), (57, .iload_n 2, 1), (58, .iadd, 1), (59, .putfield 22, 3), (62, .return_, 1)]
theorem dX8_addPiece : x_il nX8_addPiece 63 iX8_addPiece = true := by decide +kernel
theorem aX8_addPiece (k : Nat) {pc : Nat} {i : Jvm.ClassFile.Instr} {len : Nat} (hk : iX8_addPiece[k]? = some (pc, i, len)) : x_at xMM 83 pc i len yX8_addPiece 5 none := ⟨cX8_addPiece, rfl, x_il_ok bX8_addPiece dX8_addPiece k hk⟩
set_option maxHeartbeats 4000000 in
set_option maxRecDepth 100000 in
theorem k_X8_addPiece {sk : xK} {base d n sl : Nat} {SH : Nat → Nat × Nat} {FI : Nat → Nat → Int32} {FL : Nat → Nat → Int64} {FR : Nat → Nat → Option Nat} (hS : h_S n SH) (hF : h_FR FR) (hI : g_I FI) (hR : g_R n SH FR) (c : Nat) {zc : Nat} (hc : c < n) (hsc : SH c = (8, zc)) (hoc : own c) (a1 : Nat) {z1 : Nat} (ha1l : a1 < n) (ha1s : SH a1 = (5, z1)) (ha1o : own a1) (a2 : Int32) (a3 : Int32) : hw sk base (d + 1) none 83 0 [(0, .ref (base + c)), (1, .ref (base + a1)), (2, .int (a2)), (3, .int (a3))] [] (n, sl, SH, FI, FL, FR) (h_V (fun s => ∃ FI' FL' FR', s = (n, sl, SH, FI', FL', FR') ∧ g_I FI' ∧ g_fr n (shd SH) [] [] [5, 8] FI FI' ∧ g_fr n (shd SH) [] [] [5] FL FL' ∧ g_fr n (shd SH) [] [] [5] FR FR' ∧ h_FR FR' ∧ g_R n SH FR')) := by
  have rg_a2 := i_rng a2
  have rg_a3 := i_rng a3
  refine hw_aloadn (aX8_addPiece 0 rfl) rfl ?_
  obtain ⟨x1, h2⟩ : ∃ y, FI c 1 = y := ⟨_, rfl⟩
  have h2l := congrArg Int32.toInt h2
  have := i_rng x1
  have b3 := gI_s (k := 1) (lo := 0) (hi := 16) hI hS hR hc hsc (by unfold g_dt; omega) (by decide +kernel); rw [h2] at b3
  refine hw_get (v := .int (x1)) (aX8_addPiece 1 rfl) wf_RX8_18 hc hsc (by decide) (congrArg Value.int (show FI c 1 = x1 from h2)) ?_
  refine hw_aloadn (aX8_addPiece 2 rfl) rfl ?_
  obtain ⟨r4, h5, lt6, ow7, sh8, fx9⟩ := g_nz (k := 0) (ty := 103) (zz := 16) hS hF hR hc hsc (by unfold g_dt; omega) (by decide +kernel)
  refine hw_get (v := .ref (base + r4)) (aX8_addPiece 3 rfl) wf_RX8_13 hc hsc (by decide) (congrArg (fun r => va_rf (h_rf base r)) (show FR c 0 = some r4 from h5)) ?_
  refine hw_alen (k := 3) (z := 16) (v := (16 : Int32)) (aX8_addPiece 4 rfl) lt6 sh8 (by decide) (by decide) ?_
  refine hw_iclt (tgt := 13) (aX8_addPiece 5 rfl) (by decide) rfl (by decide : (16 : Int32).toInt = 16) (fun cd10 => ?_) (fun cd10 => ?_)
  · refine hw_aloadn (aX8_addPiece 7 rfl) rfl ?_
    refine hw_get (v := .ref (base + r4)) (aX8_addPiece 8 rfl) wf_RX8_13 hc hsc (by decide) (congrArg (fun r => va_rf (h_rf base r)) (show FR c 0 = some r4 from h5)) ?_
    refine hw_aloadn (aX8_addPiece 9 rfl) rfl ?_
    refine hw_get (v := .int (x1)) (aX8_addPiece 10 rfl) wf_RX8_18 hc hsc (by decide) (congrArg Value.int (show FI c 1 = x1 from h2)) ?_
    obtain ⟨o11, h12⟩ : ∃ y, FR r4 (x1).toNatClampNeg = y := ⟨_, rfl⟩
    have ht13 : ∀ r, o11 = some r → r < n ∧ own r ∧ SH r = (5, (SH r).2) := fun r e => gR_get hR lt6 ow7 sh8 (h12.trans e)
    refine hw_aald (k := 3) (v := o11) (aX8_addPiece 11 rfl) lt6 sh8 (by decide) (by decide) (h_in rfl (by omega) (by omega)) (show FR r4 (x1).toNatClampNeg = o11 from h12) ?_
    obtain ⟨r14, rfl⟩ : ∃ r, o11 = some r := by obtain ⟨r, hr⟩ := g_th hS hF hR lt6 sh8 (i := (x1).toNatClampNeg) (i_lt (x := x1) rfl (by omega) (by omega)); exact ⟨r, (show _ = _ from h12).symm.trans hr⟩
    obtain ⟨lt16, ow17, sh18⟩ := ht13 r14 rfl
    show hw sk base _ _ _ _ [(0, .ref (base + c)), (1, .ref (base + a1)), (2, .int (a2)), (3, .int (a3))] [.ref (base + r14)] _ _
    refine hw_astore (L2 := [(4, .ref (base + r14)), (0, .ref (base + c)), (1, .ref (base + a1)), (2, .int (a2)), (3, .int (a3))]) (aX8_addPiece 12 rfl) (by decide) rfl ?_
    refine hw_aload (aX8_addPiece 13 rfl) rfl ?_
    refine hw_aloadn (aX8_addPiece 14 rfl) rfl ?_
    refine hw_callV (Bs := [.ref (base + a1)]) (rest := []) (aX8_addPiece 15 rfl) wc_RX8_37 (by decide) rfl wi_yX5_take wv_yX5_take lt16 sh18 rfl rfl rfl (Nat.le_of_ble_eq_true rfl) (Nat.le_of_ble_eq_true rfl) (k_X5_take (d := d) hS hF hI hR (r14) lt16 sh18 ow17 (a1) ha1l ha1s ha1o ) (fun v19 sv20 p21 => ?_)
    obtain ⟨rfl, FI23, FL24, FR25, rfl, hI26, f27, f28, f29, hF30, hR31⟩ := p21
    show hw sk base _ _ _ _ _ [] _ _
    refine hw_aload (aX8_addPiece 16 rfl) rfl ?_
    refine xw_iloadn (aX8_addPiece 17 rfl) rfl ?_
    refine hv_puti (aX8_addPiece 18 rfl) wf_RX8_41 lt16 sh18 (by decide) rfl rfl (fun FI34 u35 => ?_)
    have hI36 : g_I FI34 := gU_g hI26 hS u35 sh18 (by decide +kernel)
    refine hw_aload (aX8_addPiece 19 rfl) rfl ?_
    refine xw_iloadn (aX8_addPiece 20 rfl) rfl ?_
    refine hv_puti (aX8_addPiece 21 rfl) wf_RX8_42 lt16 sh18 (by decide) rfl rfl (fun FI37 u38 => ?_)
    have hI39 : g_I FI37 := gU_g hI36 hS u38 sh18 (by decide +kernel)
    refine hw_aloadn (aX8_addPiece 22 rfl) rfl ?_
    refine xw_dup (aX8_addPiece 23 rfl) rfl ?_
    refine hw_get (v := .int (x1)) (aX8_addPiece 24 rfl) wf_RX8_18 hc hsc (by decide) (congrArg Value.int (show FI37 c 1 = x1 from (up_c u38 (ne_tag hsc sh18 (by decide)) ((up_c u35 (ne_tag hsc sh18 (by decide)) ((gf_at f27 hc (shd_f (fix_t2 hS hR hc hsc (by unfold g_dt; omega) (by decide +kernel)) hsc) rfl (h2)))))))) ?_
    refine hw_ic (v := (1 : Int32)) (aX8_addPiece 25 rfl) (by decide) ?_
    refine xw_iadd (aX8_addPiece 26 rfl) ?_
    refine hw_tie (A := ((x1).toInt) + (1)) (i_add rfl (by decide : (1 : Int32).toInt = 1) (by omega) (by omega)) (fun x40 e41 => ?_)
    refine hv_puti (aX8_addPiece 27 rfl) wf_RX8_18 hc hsc (by decide) rfl rfl (fun FI42 u43 => ?_)
    have hI44 : g_I FI42 := gU_s (k := 1) (lo := 0) (hi := 16) hI39 hS hR31 hc hsc (by unfold g_dt; omega) (by decide +kernel) u43 (by have := (e41 : (x40).toInt = ((x1).toInt) + (1)); omega) (by have := (e41 : (x40).toInt = ((x1).toInt) + (1)); omega)
    refine hw_aloadn (aX8_addPiece 28 rfl) rfl ?_
    refine xw_dup (aX8_addPiece 29 rfl) rfl ?_
    obtain ⟨x45, h46⟩ : ∃ y, FI42 c 2 = y := ⟨_, rfl⟩
    have h46l := congrArg Int32.toInt h46
    have := i_rng x45
    refine hw_get (v := .int (x45)) (aX8_addPiece 30 rfl) wf_RX8_22 hc hsc (by decide) (congrArg Value.int (show FI42 c 2 = x45 from h46)) ?_
    refine xw_iloadn (aX8_addPiece 31 rfl) rfl ?_
    refine xw_iadd (aX8_addPiece 32 rfl) ?_
    have := i_rng ((x45) + (a2))
    refine hv_puti (aX8_addPiece 33 rfl) wf_RX8_22 hc hsc (by decide) rfl rfl (fun FI47 u48 => ?_)
    have hI49 : g_I FI47 := gU_g hI44 hS u48 hsc (by decide +kernel)
    refine xw_vret (aX8_addPiece 34 rfl) rfl ?_
    exact ⟨rfl, FI47, FL24, FR25, rfl, hI49, (gf_t (gf_t (gf_t (gf_t (gf_tr ex_rf gf_rf f27 rfl rfl rfl) u35 (shd_f (fix_t2 hS hR31 lt16 sh18 (by unfold g_dt; omega) (by decide +kernel)) sh18) (by decide)) u38 (shd_f (fix_t2 hS hR31 lt16 sh18 (by unfold g_dt; omega) (by decide +kernel)) sh18) (by decide)) u43 (shd_f (fix_t2 hS hR31 hc hsc (by unfold g_dt; omega) (by decide +kernel)) hsc) (by decide)) u48 (shd_f (fix_t2 hS hR31 hc hsc (by unfold g_dt; omega) (by decide +kernel)) hsc) (by decide)), (gf_tr ex_rf gf_rf f28 rfl rfl rfl), (gf_tr ex_rf gf_rf f29 rfl rfl rfl), hF30, hR31⟩
  · refine xw_vret (aX8_addPiece 6 rfl) rfl ?_
    exact ⟨rfl, FI, FL, FR, rfl, hI, gf_rf, gf_rf, gf_rf, hF, hR⟩
def nX9_reset : Nat := 0xb14500b61900b42a4100b609031200b42a3e00b5032a3b00b5032a3800b51c2a3500b51b2a
theorem bX9_reset : cX9_reset.data.toList.map UInt8.toNat = x_un nX9_reset 37 := by decide +kernel
def iX9_reset : List (Nat × Jvm.ClassFile.Instr × Nat) := [(0, .aload_n 0, 1), (1, .iload_n 1, 1), (2, .putfield 53, 3), (5, .aload_n 0, 1), (6, .iload_n 2, 1), (7, .putfield 56, 3), (10, .aload_n 0, 1), (11, .iconst 0, 1), (12, .putfield 59, 3), (15, .aload_n 0, 1), (16, .iconst 0, 1), (17, .putfield 62, 3), (20, .aload_n 0, 1), (21, .getfield 18, 3), (24, .iconst 0, 1), (25, .lconst 0, 1), (26, .invokevirtual 65, 3), (29, .aload_n 0, 1), (30, .getfield 25, 3), (33, .invokevirtual 69, 3), (36, .return_, 1)]
theorem dX9_reset : x_il nX9_reset 37 iX9_reset = true := by decide +kernel
theorem aX9_reset (k : Nat) {pc : Nat} {i : Jvm.ClassFile.Instr} {len : Nat} (hk : iX9_reset[k]? = some (pc, i, len)) : x_at xMM 86 pc i len yX9_reset 3 none := ⟨cX9_reset, rfl, x_il_ok bX9_reset dX9_reset k hk⟩
set_option maxHeartbeats 4000000 in
set_option maxRecDepth 100000 in
theorem k_X9_reset {sk : xK} {base d n sl : Nat} {SH : Nat → Nat × Nat} {FI : Nat → Nat → Int32} {FL : Nat → Nat → Int64} {FR : Nat → Nat → Option Nat} (hS : h_S n SH) (hF : h_FR FR) (hI : g_I FI) (hR : g_R n SH FR) (c : Nat) {zc : Nat} (hc : c < n) (hsc : SH c = (9, zc)) (hoc : own c) (a1 : Int32) (a2 : Int32) : hw sk base (d + 2) none 86 0 [(0, .ref (base + c)), (1, .int (a1)), (2, .int (a2))] [] (n, sl, SH, FI, FL, FR) (h_V (fun s => ∃ FI' FL', s = (n, sl, SH, FI', FL', FR) ∧ g_I FI' ∧ g_fr n (shd SH) [] [] [5, 8, 9] FI FI' ∧ g_fr n (shd SH) [] [] [5] FL FL')) := by
  have rg_a1 := i_rng a1
  have rg_a2 := i_rng a2
  refine hw_aloadn (aX9_reset 0 rfl) rfl ?_
  refine xw_iloadn (aX9_reset 1 rfl) rfl ?_
  refine hv_puti (aX9_reset 2 rfl) wf_RX9_53 hc hsc (by decide) rfl rfl (fun FI1 u2 => ?_)
  have hI3 : g_I FI1 := gU_g hI hS u2 hsc (by decide +kernel)
  refine hw_aloadn (aX9_reset 3 rfl) rfl ?_
  refine xw_iloadn (aX9_reset 4 rfl) rfl ?_
  refine hv_puti (aX9_reset 5 rfl) wf_RX9_56 hc hsc (by decide) rfl rfl (fun FI4 u5 => ?_)
  have hI6 : g_I FI4 := gU_g hI3 hS u5 hsc (by decide +kernel)
  refine hw_aloadn (aX9_reset 6 rfl) rfl ?_
  refine hw_ic (v := (0 : Int32)) (aX9_reset 7 rfl) (by decide) ?_
  refine hv_puti (aX9_reset 8 rfl) wf_RX9_59 hc hsc (by decide) rfl rfl (fun FI7 u8 => ?_)
  have hI9 : g_I FI7 := gU_g hI6 hS u8 hsc (by decide +kernel)
  refine hw_aloadn (aX9_reset 9 rfl) rfl ?_
  refine hw_ic (v := (0 : Int32)) (aX9_reset 10 rfl) (by decide) ?_
  refine hv_puti (aX9_reset 11 rfl) wf_RX9_62 hc hsc (by decide) rfl rfl (fun FI10 u11 => ?_)
  have hI12 : g_I FI10 := gU_s (k := 5) (lo := 0) (hi := 128) hI9 hS hR hc hsc (by unfold g_dt; omega) (by decide +kernel) u11 (by have := ((by decide : (0 : Int32).toInt = 0) : ((0 : Int32)).toInt = 0); omega) (by have := ((by decide : (0 : Int32).toInt = 0) : ((0 : Int32)).toInt = 0); omega)
  refine hw_aloadn (aX9_reset 12 rfl) rfl ?_
  obtain ⟨r13, h14, lt15, ow16, sh17, fx18⟩ := g_nz (k := 3) (ty := 5) (zz := 0) hS hF hR hc hsc (by unfold g_dt; omega) (by decide +kernel)
  refine hw_get (v := .ref (base + r13)) (aX9_reset 13 rfl) wf_RX9_18 hc hsc (by decide) (congrArg (fun r => va_rf (h_rf base r)) (show FR c 3 = some r13 from h14)) ?_
  refine hw_ic (v := (0 : Int32)) (aX9_reset 14 rfl) (by decide) ?_
  refine hw_lc (v := (0 : Int64)) (aX9_reset 15 rfl) (by decide) ?_
  refine hw_callV (Bs := [.int ((0 : Int32)), .long ((0 : Int64))]) (rest := []) (aX9_reset 16 rfl) wc_RX9_65 (by decide) rfl wi_yX5_become wv_yX5_become lt15 sh17 rfl rfl rfl (Nat.le_of_ble_eq_true rfl) (Nat.le_of_ble_eq_true rfl) (k_X5_become (d := d + 1) hS hF hI12 hR (r13) lt15 sh17 ow16 ((0 : Int32)) ((0 : Int64)) ) (fun v19 sv20 p21 => ?_)
  obtain ⟨rfl, FI23, FL24, rfl, hI25, f26, f27⟩ := p21
  show hw sk base _ _ _ _ _ [] _ _
  refine hw_aloadn (aX9_reset 17 rfl) rfl ?_
  obtain ⟨r32, h33, lt34, ow35, sh36, fx37⟩ := g_nz (k := 4) (ty := 8) (zz := 0) hS hF hR hc hsc (by unfold g_dt; omega) (by decide +kernel)
  refine hw_get (v := .ref (base + r32)) (aX9_reset 18 rfl) wf_RX9_25 hc hsc (by decide) (congrArg (fun r => va_rf (h_rf base r)) (show FR c 4 = some r32 from h33)) ?_
  refine hw_callV (Bs := []) (rest := []) (aX9_reset 19 rfl) wc_RX9_69 (by decide) rfl wi_yX8_clear wv_yX8_clear lt34 sh36 rfl rfl rfl (Nat.le_of_ble_eq_true rfl) (Nat.le_of_ble_eq_true rfl) (k_X8_clear (d := d) hS hF hI25 hR (r32) lt34 sh36 ow35 ) (fun v38 sv39 p40 => ?_)
  obtain ⟨rfl, FI42, FL43, rfl, hI44, f45, f46⟩ := p40
  show hw sk base _ _ _ _ _ [] _ _
  refine xw_vret (aX9_reset 20 rfl) rfl ?_
  exact ⟨rfl, FI42, FL43, rfl, hI44, (gf_tr ex_rf (gf_tr ex_rf (gf_t (gf_t (gf_t (gf_t gf_rf u2 (shd_f (fix_t2 hS hR hc hsc (by unfold g_dt; omega) (by decide +kernel)) hsc) (by decide)) u5 (shd_f (fix_t2 hS hR hc hsc (by unfold g_dt; omega) (by decide +kernel)) hsc) (by decide)) u8 (shd_f (fix_t2 hS hR hc hsc (by unfold g_dt; omega) (by decide +kernel)) hsc) (by decide)) u11 (shd_f (fix_t2 hS hR hc hsc (by unfold g_dt; omega) (by decide +kernel)) hsc) (by decide)) f26 rfl rfl rfl) f45 rfl rfl rfl), (gf_tr ex_rf (gf_tr ex_rf gf_rf f27 rfl rfl rfl) f46 rfl rfl rfl)⟩
def nX9_isTooMuch : Nat := 0xac030400a70407009e949500146169851c6000b42a859700b41900b42aac0405009e949500147600b42a0e009b94097600b42a1900a09d00111bac0405009e94856c1c0010116000b42a11009b94096000b42a1a00a210109200b41900b42a3d040400a708100800a09300111b
theorem bX9_isTooMuch : cX9_isTooMuch.data.toList.map UInt8.toNat = x_un nX9_isTooMuch 109 := by decide +kernel
def iX9_isTooMuch : List (Nat × Jvm.ClassFile.Instr × Nat) := [(0, .iload_n 1, 1), (1, .sipush 147, 3), (4, .if_icmp .ne 8, 3), (7, .bipush 8, 2), (9, .goto 4, 3), (12, .iconst 1, 1), (13, .istore_n 2, 1), (14, .aload_n 0, 1), (15, .getfield 25, 3), (18, .getfield 146, 3), (21, .bipush 16, 2), (23, .if_icmp .ge 26, 3), (26, .aload_n 0, 1), (27, .getfield 96, 3), (30, .lconst 0, 1), (31, .lcmp, 1), (32, .ifCond .lt 17, 3), (35, .aload_n 0, 1), (36, .getfield 96, 3), (39, .sipush 4096, 3), (42, .iload_n 2, 1), (43, .idiv, 1), (44, .i2l, 1), (45, .lcmp, 1), (46, .ifCond .le 5, 3), (49, .iconst 1, 1), (50, .ireturn, 1), (51, .iload_n 1, 1), (52, .sipush 157, 3), (55, .if_icmp .ne 25, 3), (58, .aload_n 0, 1), (59, .getfield 118, 3), (62, .lconst 0, 1), (63, .lcmp, 1), (64, .ifCond .lt 14, 3), (67, .aload_n 0, 1), (68, .getfield 118, 3), (71, .ldc2_w 149, 3), (74, .lcmp, 1), (75, .ifCond .le 5, 3), (78, .iconst 1, 1), (79, .ireturn, 1), (80, .aload_n 0, 1), (81, .getfield 25, 3), (84, .getfield 151, 3), (87, .i2l, 1), (88, .aload_n 0, 1), (89, .getfield 96, 3), (92, .iload_n 2, 1), (93, .i2l, 1), (94, .lmul, 1), (95, .ladd, 1), (96, .ldc2_w 149, 3), (99, .lcmp, 1), (100, .ifCond .le 7, 3), (103, .iconst 1, 1), (104, .goto 4, 3), (107, .iconst 0, 1), (108, .ireturn, 1)]
theorem dX9_isTooMuch : x_il nX9_isTooMuch 109 iX9_isTooMuch = true := by decide +kernel
theorem aX9_isTooMuch (k : Nat) {pc : Nat} {i : Jvm.ClassFile.Instr} {len : Nat} (hk : iX9_isTooMuch[k]? = some (pc, i, len)) : x_at xMM 95 pc i len yX9_isTooMuch 3 (some .boolean) := ⟨cX9_isTooMuch, rfl, x_il_ok bX9_isTooMuch dX9_isTooMuch k hk⟩
set_option maxHeartbeats 4000000 in
set_option maxRecDepth 100000 in
theorem k_X9_isTooMuch {sk : xK} {base d n sl : Nat} {SH : Nat → Nat × Nat} {FI : Nat → Nat → Int32} {FL : Nat → Nat → Int64} {FR : Nat → Nat → Option Nat} (hS : h_S n SH) (hF : h_FR FR) (hI : g_I FI) (hR : g_R n SH FR) (c : Nat) {zc : Nat} (hc : c < n) (hsc : SH c = (9, zc)) (hoc : own c) (a1 : Int32) : hw sk base d none 95 0 [(0, .ref (base + c)), (1, .int (a1))] [] (n, sl, SH, FI, FL, FR) (h_I (fun r s => s = (n, sl, SH, FI, FL, FR) ∧ (0 ≤ r.toInt ∧ r.toInt ≤ 1))) := by
  have rg_a1 := i_rng a1
  refine xw_iloadn (aX9_isTooMuch 0 rfl) rfl ?_
  refine hw_sp (v := (147 : Int32)) (aX9_isTooMuch 1 rfl) (by decide) ?_
  refine hw_icne (tgt := 12) (aX9_isTooMuch 2 rfl) (by decide) rfl (by decide : (147 : Int32).toInt = 147) (fun cd1 => ?_) (fun cd1 => ?_)
  · refine hw_ic (v := (1 : Int32)) (aX9_isTooMuch 5 rfl) (by decide) ?_
    refine xw_istoren (L2 := [(2, .int ((1 : Int32))), (0, .ref (base + c)), (1, .int (a1))]) (aX9_isTooMuch 6 rfl) (by decide) rfl ?_
    refine hw_aloadn (aX9_isTooMuch 7 rfl) rfl ?_
    obtain ⟨r2, h3, lt4, ow5, sh6, fx7⟩ := g_nz (k := 4) (ty := 8) (zz := 0) hS hF hR hc hsc (by unfold g_dt; omega) (by decide +kernel)
    refine hw_get (v := .ref (base + r2)) (aX9_isTooMuch 8 rfl) wf_RX9_25 hc hsc (by decide) (congrArg (fun r => va_rf (h_rf base r)) (show FR c 4 = some r2 from h3)) ?_
    obtain ⟨x8, h9⟩ : ∃ y, FI r2 1 = y := ⟨_, rfl⟩
    have h9l := congrArg Int32.toInt h9
    have := i_rng x8
    have b10 := gI_s (k := 1) (lo := 0) (hi := 16) hI hS hR lt4 sh6 (by unfold g_dt; omega) (by decide +kernel); rw [h9] at b10
    refine hw_get (v := .int (x8)) (aX9_isTooMuch 9 rfl) wf_RX9_146 lt4 sh6 (by decide) (congrArg Value.int (show FI r2 1 = x8 from h9)) ?_
    refine hw_bp (v := (16 : Int32)) (aX9_isTooMuch 10 rfl) (by decide) ?_
    refine hw_icge (tgt := 49) (aX9_isTooMuch 11 rfl) (by decide) rfl (by decide : (16 : Int32).toInt = 16) (fun cd11 => ?_) (fun cd11 => ?_)
    · refine hw_ic (v := (1 : Int32)) (aX9_isTooMuch 25 rfl) (by decide) ?_
      refine xw_iret (aX9_isTooMuch 26 rfl) rfl (by decide) ?_
      have e12 : ((1 : Int32)).toInt = 1 := (by decide : (1 : Int32).toInt = 1)
      exact ⟨(1 : Int32), rfl, rfl, (by have : ((1 : Int32)).toInt = 1 := (by decide); omega)⟩
    · refine hw_aloadn (aX9_isTooMuch 12 rfl) rfl ?_
      obtain ⟨x13, h14⟩ : ∃ y, FL c 12 = y := ⟨_, rfl⟩
      have h14l := congrArg Int64.toInt h14
      have := l_rng x13
      refine hw_get (v := .long (x13)) (aX9_isTooMuch 13 rfl) wf_RX9_96 hc hsc (by decide) (congrArg Value.long (show FL c 12 = x13 from h14)) ?_
      refine hw_lc (v := (0 : Int64)) (aX9_isTooMuch 14 rfl) (by decide) ?_
      refine hw_lclt (tgt := 49) (aX9_isTooMuch 15 rfl) (aX9_isTooMuch 16 rfl) (by decide) rfl (by decide : (0 : Int64).toInt = 0) (fun cd15 => ?_) (fun cd15 => ?_)
      · refine hw_ic (v := (1 : Int32)) (aX9_isTooMuch 25 rfl) (by decide) ?_
        refine xw_iret (aX9_isTooMuch 26 rfl) rfl (by decide) ?_
        have e16 : ((1 : Int32)).toInt = 1 := (by decide : (1 : Int32).toInt = 1)
        exact ⟨(1 : Int32), rfl, rfl, (by have : ((1 : Int32)).toInt = 1 := (by decide); omega)⟩
      · refine hw_aloadn (aX9_isTooMuch 17 rfl) rfl ?_
        refine hw_get (v := .long (x13)) (aX9_isTooMuch 18 rfl) wf_RX9_96 hc hsc (by decide) (congrArg Value.long (show FL c 12 = x13 from h14)) ?_
        refine hw_sp (v := (4096 : Int32)) (aX9_isTooMuch 19 rfl) (by decide) ?_
        refine xw_iloadn (aX9_isTooMuch 20 rfl) rfl ?_
        refine xw_idiv (aX9_isTooMuch 21 rfl) (i_ne0 (by decide : (1 : Int32).toInt = 1) (by omega)) ?_
        refine hw_tie (A := (4096) / (1)) (i_div (by decide : (4096 : Int32).toInt = 4096) (by decide : (1 : Int32).toInt = 1) (by omega) (by omega)) (fun x17 e18 => ?_)
        refine xw_i2l (aX9_isTooMuch 22 rfl) ?_
        refine hw_tle (A := (4096) / (1)) (i_2l e18) (fun x19 e20 => ?_)
        refine hw_lcle (tgt := 51) (aX9_isTooMuch 23 rfl) (aX9_isTooMuch 24 rfl) (by decide) rfl e20 (fun cd21 => ?_) (fun cd21 => ?_)
        · refine xw_iloadn (aX9_isTooMuch 27 rfl) rfl ?_
          refine hw_sp (v := (157 : Int32)) (aX9_isTooMuch 28 rfl) (by decide) ?_
          refine hw_icne (tgt := 80) (aX9_isTooMuch 29 rfl) (by decide) rfl (by decide : (157 : Int32).toInt = 157) (fun cd22 => ?_) (fun cd22 => ?_)
          · refine hw_aloadn (aX9_isTooMuch 42 rfl) rfl ?_
            refine hw_get (v := .ref (base + r2)) (aX9_isTooMuch 43 rfl) wf_RX9_25 hc hsc (by decide) (congrArg (fun r => va_rf (h_rf base r)) (show FR c 4 = some r2 from h3)) ?_
            obtain ⟨x23, h24⟩ : ∃ y, FI r2 2 = y := ⟨_, rfl⟩
            have h24l := congrArg Int32.toInt h24
            have := i_rng x23
            refine hw_get (v := .int (x23)) (aX9_isTooMuch 44 rfl) wf_RX9_151 lt4 sh6 (by decide) (congrArg Value.int (show FI r2 2 = x23 from h24)) ?_
            refine xw_i2l (aX9_isTooMuch 45 rfl) ?_
            refine hw_tle (A := (x23).toInt) (i_2l rfl) (fun x25 e26 => ?_)
            refine hw_aloadn (aX9_isTooMuch 46 rfl) rfl ?_
            refine hw_get (v := .long (x13)) (aX9_isTooMuch 47 rfl) wf_RX9_96 hc hsc (by decide) (congrArg Value.long (show FL c 12 = x13 from h14)) ?_
            refine xw_iloadn (aX9_isTooMuch 48 rfl) rfl ?_
            refine xw_i2l (aX9_isTooMuch 49 rfl) ?_
            refine hw_tle (A := 1) (i_2l (by decide : (1 : Int32).toInt = 1)) (fun x27 e28 => ?_)
            refine xw_lmul (aX9_isTooMuch 50 rfl) ?_
            refine hw_tl (fun x29 => ?_)
            have b30 := l_rng x29
            refine xw_ladd (aX9_isTooMuch 51 rfl) ?_
            refine hw_tl (fun x31 => ?_)
            have b32 := l_rng x31
            refine xw_ldc2 (aX9_isTooMuch 52 rfl) wk_RX9_149 ?_
            refine hw_lcle (tgt := 107) (aX9_isTooMuch 53 rfl) (aX9_isTooMuch 54 rfl) (by decide) rfl (by decide : (4096 : Int64).toInt = 4096) (fun cd33 => ?_) (fun cd33 => ?_)
            · refine hw_ic (v := (0 : Int32)) (aX9_isTooMuch 57 rfl) (by decide) ?_
              refine xw_iret (aX9_isTooMuch 58 rfl) rfl (by decide) ?_
              have e34 : ((0 : Int32)).toInt = 0 := (by decide : (0 : Int32).toInt = 0)
              exact ⟨(0 : Int32), rfl, rfl, (by have : ((0 : Int32)).toInt = 0 := (by decide); omega)⟩
            · refine hw_ic (v := (1 : Int32)) (aX9_isTooMuch 55 rfl) (by decide) ?_
              refine xw_goto (tgt := 108) (aX9_isTooMuch 56 rfl) (by decide) ?_
              refine xw_iret (aX9_isTooMuch 58 rfl) rfl (by decide) ?_
              have e35 : ((1 : Int32)).toInt = 1 := (by decide : (1 : Int32).toInt = 1)
              exact ⟨(1 : Int32), rfl, rfl, (by have : ((1 : Int32)).toInt = 1 := (by decide); omega)⟩
          · refine hw_aloadn (aX9_isTooMuch 30 rfl) rfl ?_
            obtain ⟨x36, h37⟩ : ∃ y, FL c 13 = y := ⟨_, rfl⟩
            have h37l := congrArg Int64.toInt h37
            have := l_rng x36
            refine hw_get (v := .long (x36)) (aX9_isTooMuch 31 rfl) wf_RX9_118 hc hsc (by decide) (congrArg Value.long (show FL c 13 = x36 from h37)) ?_
            refine hw_lc (v := (0 : Int64)) (aX9_isTooMuch 32 rfl) (by decide) ?_
            refine hw_lclt (tgt := 78) (aX9_isTooMuch 33 rfl) (aX9_isTooMuch 34 rfl) (by decide) rfl (by decide : (0 : Int64).toInt = 0) (fun cd38 => ?_) (fun cd38 => ?_)
            · refine hw_ic (v := (1 : Int32)) (aX9_isTooMuch 40 rfl) (by decide) ?_
              refine xw_iret (aX9_isTooMuch 41 rfl) rfl (by decide) ?_
              have e39 : ((1 : Int32)).toInt = 1 := (by decide : (1 : Int32).toInt = 1)
              exact ⟨(1 : Int32), rfl, rfl, (by have : ((1 : Int32)).toInt = 1 := (by decide); omega)⟩
            · refine hw_aloadn (aX9_isTooMuch 35 rfl) rfl ?_
              refine hw_get (v := .long (x36)) (aX9_isTooMuch 36 rfl) wf_RX9_118 hc hsc (by decide) (congrArg Value.long (show FL c 13 = x36 from h37)) ?_
              refine xw_ldc2 (aX9_isTooMuch 37 rfl) wk_RX9_149 ?_
              refine hw_lcle (tgt := 80) (aX9_isTooMuch 38 rfl) (aX9_isTooMuch 39 rfl) (by decide) rfl (by decide : (4096 : Int64).toInt = 4096) (fun cd40 => ?_) (fun cd40 => ?_)
              · refine hw_aloadn (aX9_isTooMuch 42 rfl) rfl ?_
                refine hw_get (v := .ref (base + r2)) (aX9_isTooMuch 43 rfl) wf_RX9_25 hc hsc (by decide) (congrArg (fun r => va_rf (h_rf base r)) (show FR c 4 = some r2 from h3)) ?_
                obtain ⟨x41, h42⟩ : ∃ y, FI r2 2 = y := ⟨_, rfl⟩
                have h42l := congrArg Int32.toInt h42
                have := i_rng x41
                refine hw_get (v := .int (x41)) (aX9_isTooMuch 44 rfl) wf_RX9_151 lt4 sh6 (by decide) (congrArg Value.int (show FI r2 2 = x41 from h42)) ?_
                refine xw_i2l (aX9_isTooMuch 45 rfl) ?_
                refine hw_tle (A := (x41).toInt) (i_2l rfl) (fun x43 e44 => ?_)
                refine hw_aloadn (aX9_isTooMuch 46 rfl) rfl ?_
                refine hw_get (v := .long (x13)) (aX9_isTooMuch 47 rfl) wf_RX9_96 hc hsc (by decide) (congrArg Value.long (show FL c 12 = x13 from h14)) ?_
                refine xw_iloadn (aX9_isTooMuch 48 rfl) rfl ?_
                refine xw_i2l (aX9_isTooMuch 49 rfl) ?_
                refine hw_tle (A := 1) (i_2l (by decide : (1 : Int32).toInt = 1)) (fun x45 e46 => ?_)
                refine xw_lmul (aX9_isTooMuch 50 rfl) ?_
                refine hw_tl (fun x47 => ?_)
                have b48 := l_rng x47
                refine xw_ladd (aX9_isTooMuch 51 rfl) ?_
                refine hw_tl (fun x49 => ?_)
                have b50 := l_rng x49
                refine xw_ldc2 (aX9_isTooMuch 52 rfl) wk_RX9_149 ?_
                refine hw_lcle (tgt := 107) (aX9_isTooMuch 53 rfl) (aX9_isTooMuch 54 rfl) (by decide) rfl (by decide : (4096 : Int64).toInt = 4096) (fun cd51 => ?_) (fun cd51 => ?_)
                · refine hw_ic (v := (0 : Int32)) (aX9_isTooMuch 57 rfl) (by decide) ?_
                  refine xw_iret (aX9_isTooMuch 58 rfl) rfl (by decide) ?_
                  have e52 : ((0 : Int32)).toInt = 0 := (by decide : (0 : Int32).toInt = 0)
                  exact ⟨(0 : Int32), rfl, rfl, (by have : ((0 : Int32)).toInt = 0 := (by decide); omega)⟩
                · refine hw_ic (v := (1 : Int32)) (aX9_isTooMuch 55 rfl) (by decide) ?_
                  refine xw_goto (tgt := 108) (aX9_isTooMuch 56 rfl) (by decide) ?_
                  refine xw_iret (aX9_isTooMuch 58 rfl) rfl (by decide) ?_
                  have e53 : ((1 : Int32)).toInt = 1 := (by decide : (1 : Int32).toInt = 1)
                  exact ⟨(1 : Int32), rfl, rfl, (by have : ((1 : Int32)).toInt = 1 := (by decide); omega)⟩
              · refine hw_ic (v := (1 : Int32)) (aX9_isTooMuch 40 rfl) (by decide) ?_
                refine xw_iret (aX9_isTooMuch 41 rfl) rfl (by decide) ?_
                have e54 : ((1 : Int32)).toInt = 1 := (by decide : (1 : Int32).toInt = 1)
                exact ⟨(1 : Int32), rfl, rfl, (by have : ((1 : Int32)).toInt = 1 := (by decide); omega)⟩
        · refine hw_ic (v := (1 : Int32)) (aX9_isTooMuch 25 rfl) (by decide) ?_
          refine xw_iret (aX9_isTooMuch 26 rfl) rfl (by decide) ?_
          have e55 : ((1 : Int32)).toInt = 1 := (by decide : (1 : Int32).toInt = 1)
          exact ⟨(1 : Int32), rfl, rfl, (by have : ((1 : Int32)).toInt = 1 := (by decide); omega)⟩
  · refine hw_bp (v := (8 : Int32)) (aX9_isTooMuch 3 rfl) (by decide) ?_
    refine xw_goto (tgt := 13) (aX9_isTooMuch 4 rfl) (by decide) ?_
    refine xw_istoren (L2 := [(2, .int ((8 : Int32))), (0, .ref (base + c)), (1, .int (a1))]) (aX9_isTooMuch 6 rfl) (by decide) rfl ?_
    refine hw_aloadn (aX9_isTooMuch 7 rfl) rfl ?_
    obtain ⟨r56, h57, lt58, ow59, sh60, fx61⟩ := g_nz (k := 4) (ty := 8) (zz := 0) hS hF hR hc hsc (by unfold g_dt; omega) (by decide +kernel)
    refine hw_get (v := .ref (base + r56)) (aX9_isTooMuch 8 rfl) wf_RX9_25 hc hsc (by decide) (congrArg (fun r => va_rf (h_rf base r)) (show FR c 4 = some r56 from h57)) ?_
    obtain ⟨x62, h63⟩ : ∃ y, FI r56 1 = y := ⟨_, rfl⟩
    have h63l := congrArg Int32.toInt h63
    have := i_rng x62
    have b64 := gI_s (k := 1) (lo := 0) (hi := 16) hI hS hR lt58 sh60 (by unfold g_dt; omega) (by decide +kernel); rw [h63] at b64
    refine hw_get (v := .int (x62)) (aX9_isTooMuch 9 rfl) wf_RX9_146 lt58 sh60 (by decide) (congrArg Value.int (show FI r56 1 = x62 from h63)) ?_
    refine hw_bp (v := (16 : Int32)) (aX9_isTooMuch 10 rfl) (by decide) ?_
    refine hw_icge (tgt := 49) (aX9_isTooMuch 11 rfl) (by decide) rfl (by decide : (16 : Int32).toInt = 16) (fun cd65 => ?_) (fun cd65 => ?_)
    · refine hw_ic (v := (1 : Int32)) (aX9_isTooMuch 25 rfl) (by decide) ?_
      refine xw_iret (aX9_isTooMuch 26 rfl) rfl (by decide) ?_
      have e66 : ((1 : Int32)).toInt = 1 := (by decide : (1 : Int32).toInt = 1)
      exact ⟨(1 : Int32), rfl, rfl, (by have : ((1 : Int32)).toInt = 1 := (by decide); omega)⟩
    · refine hw_aloadn (aX9_isTooMuch 12 rfl) rfl ?_
      obtain ⟨x67, h68⟩ : ∃ y, FL c 12 = y := ⟨_, rfl⟩
      have h68l := congrArg Int64.toInt h68
      have := l_rng x67
      refine hw_get (v := .long (x67)) (aX9_isTooMuch 13 rfl) wf_RX9_96 hc hsc (by decide) (congrArg Value.long (show FL c 12 = x67 from h68)) ?_
      refine hw_lc (v := (0 : Int64)) (aX9_isTooMuch 14 rfl) (by decide) ?_
      refine hw_lclt (tgt := 49) (aX9_isTooMuch 15 rfl) (aX9_isTooMuch 16 rfl) (by decide) rfl (by decide : (0 : Int64).toInt = 0) (fun cd69 => ?_) (fun cd69 => ?_)
      · refine hw_ic (v := (1 : Int32)) (aX9_isTooMuch 25 rfl) (by decide) ?_
        refine xw_iret (aX9_isTooMuch 26 rfl) rfl (by decide) ?_
        have e70 : ((1 : Int32)).toInt = 1 := (by decide : (1 : Int32).toInt = 1)
        exact ⟨(1 : Int32), rfl, rfl, (by have : ((1 : Int32)).toInt = 1 := (by decide); omega)⟩
      · refine hw_aloadn (aX9_isTooMuch 17 rfl) rfl ?_
        refine hw_get (v := .long (x67)) (aX9_isTooMuch 18 rfl) wf_RX9_96 hc hsc (by decide) (congrArg Value.long (show FL c 12 = x67 from h68)) ?_
        refine hw_sp (v := (4096 : Int32)) (aX9_isTooMuch 19 rfl) (by decide) ?_
        refine xw_iloadn (aX9_isTooMuch 20 rfl) rfl ?_
        refine xw_idiv (aX9_isTooMuch 21 rfl) (i_ne0 (by decide : (8 : Int32).toInt = 8) (by omega)) ?_
        refine hw_tie (A := (4096) / (8)) (i_div (by decide : (4096 : Int32).toInt = 4096) (by decide : (8 : Int32).toInt = 8) (by omega) (by omega)) (fun x71 e72 => ?_)
        refine xw_i2l (aX9_isTooMuch 22 rfl) ?_
        refine hw_tle (A := (4096) / (8)) (i_2l e72) (fun x73 e74 => ?_)
        refine hw_lcle (tgt := 51) (aX9_isTooMuch 23 rfl) (aX9_isTooMuch 24 rfl) (by decide) rfl e74 (fun cd75 => ?_) (fun cd75 => ?_)
        · refine xw_iloadn (aX9_isTooMuch 27 rfl) rfl ?_
          refine hw_sp (v := (157 : Int32)) (aX9_isTooMuch 28 rfl) (by decide) ?_
          refine hw_icne (tgt := 80) (aX9_isTooMuch 29 rfl) (by decide) rfl (by decide : (157 : Int32).toInt = 157) (fun cd76 => ?_) (fun cd76 => ?_)
          · refine hw_aloadn (aX9_isTooMuch 42 rfl) rfl ?_
            refine hw_get (v := .ref (base + r56)) (aX9_isTooMuch 43 rfl) wf_RX9_25 hc hsc (by decide) (congrArg (fun r => va_rf (h_rf base r)) (show FR c 4 = some r56 from h57)) ?_
            obtain ⟨x77, h78⟩ : ∃ y, FI r56 2 = y := ⟨_, rfl⟩
            have h78l := congrArg Int32.toInt h78
            have := i_rng x77
            refine hw_get (v := .int (x77)) (aX9_isTooMuch 44 rfl) wf_RX9_151 lt58 sh60 (by decide) (congrArg Value.int (show FI r56 2 = x77 from h78)) ?_
            refine xw_i2l (aX9_isTooMuch 45 rfl) ?_
            refine hw_tle (A := (x77).toInt) (i_2l rfl) (fun x79 e80 => ?_)
            refine hw_aloadn (aX9_isTooMuch 46 rfl) rfl ?_
            refine hw_get (v := .long (x67)) (aX9_isTooMuch 47 rfl) wf_RX9_96 hc hsc (by decide) (congrArg Value.long (show FL c 12 = x67 from h68)) ?_
            refine xw_iloadn (aX9_isTooMuch 48 rfl) rfl ?_
            refine xw_i2l (aX9_isTooMuch 49 rfl) ?_
            refine hw_tle (A := 8) (i_2l (by decide : (8 : Int32).toInt = 8)) (fun x81 e82 => ?_)
            refine xw_lmul (aX9_isTooMuch 50 rfl) ?_
            refine hw_tl (fun x83 => ?_)
            have b84 := l_rng x83
            refine xw_ladd (aX9_isTooMuch 51 rfl) ?_
            refine hw_tl (fun x85 => ?_)
            have b86 := l_rng x85
            refine xw_ldc2 (aX9_isTooMuch 52 rfl) wk_RX9_149 ?_
            refine hw_lcle (tgt := 107) (aX9_isTooMuch 53 rfl) (aX9_isTooMuch 54 rfl) (by decide) rfl (by decide : (4096 : Int64).toInt = 4096) (fun cd87 => ?_) (fun cd87 => ?_)
            · refine hw_ic (v := (0 : Int32)) (aX9_isTooMuch 57 rfl) (by decide) ?_
              refine xw_iret (aX9_isTooMuch 58 rfl) rfl (by decide) ?_
              have e88 : ((0 : Int32)).toInt = 0 := (by decide : (0 : Int32).toInt = 0)
              exact ⟨(0 : Int32), rfl, rfl, (by have : ((0 : Int32)).toInt = 0 := (by decide); omega)⟩
            · refine hw_ic (v := (1 : Int32)) (aX9_isTooMuch 55 rfl) (by decide) ?_
              refine xw_goto (tgt := 108) (aX9_isTooMuch 56 rfl) (by decide) ?_
              refine xw_iret (aX9_isTooMuch 58 rfl) rfl (by decide) ?_
              have e89 : ((1 : Int32)).toInt = 1 := (by decide : (1 : Int32).toInt = 1)
              exact ⟨(1 : Int32), rfl, rfl, (by have : ((1 : Int32)).toInt = 1 := (by decide); omega)⟩
          · omega
        · refine hw_ic (v := (1 : Int32)) (aX9_isTooMuch 25 rfl) (by decide) ?_
          refine xw_iret (aX9_isTooMuch 26 rfl) rfl (by decide) ?_
          have e90 : ((1 : Int32)).toInt = 1 := (by decide : (1 : Int32).toInt = 1)
          exact ⟨(1 : Int32), rfl, rfl, (by have : ((1 : Int32)).toInt = 1 := (by decide); omega)⟩
def nX9_pop : Nat := 0xad2f3e00b42a0b00b42a3e00b564043e00b4592aad090500a4be0b00b42a3e00b42a0f009e3e00b42a
theorem bX9_pop : cX9_pop.data.toList.map UInt8.toNat = x_un nX9_pop 41 := by decide +kernel
def iX9_pop : List (Nat × Jvm.ClassFile.Instr × Nat) := [(0, .aload_n 0, 1), (1, .getfield 62, 3), (4, .ifCond .le 15, 3), (7, .aload_n 0, 1), (8, .getfield 62, 3), (11, .aload_n 0, 1), (12, .getfield 11, 3), (15, .arraylength, 1), (16, .if_icmp .le 5, 3), (19, .lconst 0, 1), (20, .lreturn, 1), (21, .aload_n 0, 1), (22, .dup, 1), (23, .getfield 62, 3), (26, .iconst 1, 1), (27, .isub, 1), (28, .putfield 62, 3), (31, .aload_n 0, 1), (32, .getfield 11, 3), (35, .aload_n 0, 1), (36, .getfield 62, 3), (39, .laload, 1), (40, .lreturn, 1)]
theorem dX9_pop : x_il nX9_pop 41 iX9_pop = true := by decide +kernel
theorem aX9_pop (k : Nat) {pc : Nat} {i : Jvm.ClassFile.Instr} {len : Nat} (hk : iX9_pop[k]? = some (pc, i, len)) : x_at xMM 101 pc i len yX9_pop 1 (some .long) := ⟨cX9_pop, rfl, x_il_ok bX9_pop dX9_pop k hk⟩
set_option maxHeartbeats 4000000 in
set_option maxRecDepth 100000 in
theorem k_X9_pop {sk : xK} {base d n sl : Nat} {SH : Nat → Nat × Nat} {FI : Nat → Nat → Int32} {FL : Nat → Nat → Int64} {FR : Nat → Nat → Option Nat} (hS : h_S n SH) (hF : h_FR FR) (hI : g_I FI) (hR : g_R n SH FR) (c : Nat) {zc : Nat} (hc : c < n) (hsc : SH c = (9, zc)) (hoc : own c) : hw sk base d none 101 0 [(0, .ref (base + c))] [] (n, sl, SH, FI, FL, FR) (h_J (fun r s => ∃ FI', s = (n, sl, SH, FI', FL, FR) ∧ g_I FI' ∧ g_fr n (shd SH) [] [] [9] FI FI')) := by
  refine hw_aloadn (aX9_pop 0 rfl) rfl ?_
  obtain ⟨x1, h2⟩ : ∃ y, FI c 5 = y := ⟨_, rfl⟩
  have h2l := congrArg Int32.toInt h2
  have := i_rng x1
  have b3 := gI_s (k := 5) (lo := 0) (hi := 128) hI hS hR hc hsc (by unfold g_dt; omega) (by decide +kernel); rw [h2] at b3
  refine hw_get (v := .int (x1)) (aX9_pop 1 rfl) wf_RX9_62 hc hsc (by decide) (congrArg Value.int (show FI c 5 = x1 from h2)) ?_
  refine hw_ifle (tgt := 19) (aX9_pop 2 rfl) (by decide) rfl (fun cd4 => ?_) (fun cd4 => ?_)
  · refine hw_lc (v := (0 : Int64)) (aX9_pop 9 rfl) (by decide) ?_
    refine xw_lret (aX9_pop 10 rfl) rfl ?_
    have e5 : ((0 : Int64)).toInt = 0 := (by decide : (0 : Int64).toInt = 0)
    exact ⟨(0 : Int64), rfl, FI, rfl, hI, gf_rf⟩
  · refine hw_aloadn (aX9_pop 3 rfl) rfl ?_
    refine hw_get (v := .int (x1)) (aX9_pop 4 rfl) wf_RX9_62 hc hsc (by decide) (congrArg Value.int (show FI c 5 = x1 from h2)) ?_
    refine hw_aloadn (aX9_pop 5 rfl) rfl ?_
    obtain ⟨r6, h7, lt8, ow9, sh10, fx11⟩ := g_nz (k := 2) (ty := 101) (zz := 128) hS hF hR hc hsc (by unfold g_dt; omega) (by decide +kernel)
    refine hw_get (v := .ref (base + r6)) (aX9_pop 6 rfl) wf_RX9_11 hc hsc (by decide) (congrArg (fun r => va_rf (h_rf base r)) (show FR c 2 = some r6 from h7)) ?_
    refine hw_alen (k := 1) (z := 128) (v := (128 : Int32)) (aX9_pop 7 rfl) lt8 sh10 (by decide) (by decide) ?_
    refine hw_icle (tgt := 21) (aX9_pop 8 rfl) (by decide) rfl (by decide : (128 : Int32).toInt = 128) (fun cd12 => ?_) (fun cd12 => ?_)
    · refine hw_aloadn (aX9_pop 11 rfl) rfl ?_
      refine xw_dup (aX9_pop 12 rfl) rfl ?_
      refine hw_get (v := .int (x1)) (aX9_pop 13 rfl) wf_RX9_62 hc hsc (by decide) (congrArg Value.int (show FI c 5 = x1 from h2)) ?_
      refine hw_ic (v := (1 : Int32)) (aX9_pop 14 rfl) (by decide) ?_
      refine xw_isub (aX9_pop 15 rfl) ?_
      refine hw_tie (A := ((x1).toInt) - (1)) (i_sub rfl (by decide : (1 : Int32).toInt = 1) (by omega) (by omega)) (fun x13 e14 => ?_)
      refine hv_puti (aX9_pop 16 rfl) wf_RX9_62 hc hsc (by decide) rfl rfl (fun FI15 u16 => ?_)
      have hI17 : g_I FI15 := gU_s (k := 5) (lo := 0) (hi := 128) hI hS hR hc hsc (by unfold g_dt; omega) (by decide +kernel) u16 (by have := (e14 : (x13).toInt = ((x1).toInt) - (1)); omega) (by have := (e14 : (x13).toInt = ((x1).toInt) - (1)); omega)
      refine hw_aloadn (aX9_pop 17 rfl) rfl ?_
      refine hw_get (v := .ref (base + r6)) (aX9_pop 18 rfl) wf_RX9_11 hc hsc (by decide) (congrArg (fun r => va_rf (h_rf base r)) (show FR c 2 = some r6 from h7)) ?_
      refine hw_aloadn (aX9_pop 19 rfl) rfl ?_
      refine hw_get (v := .int (x13)) (aX9_pop 20 rfl) wf_RX9_62 hc hsc (by decide) (congrArg Value.int (show FI15 c 5 = x13 from up_eq u16)) ?_
      obtain ⟨x18, h19⟩ : ∃ y, FL r6 (x13).toNatClampNeg = y := ⟨_, rfl⟩
      have h19l := congrArg Int64.toInt h19
      have := l_rng x18
      refine hw_lald (v := x18) (aX9_pop 21 rfl) lt8 sh10 (h_in e14 (by omega) (by omega)) (show FL r6 (x13).toNatClampNeg = x18 from h19) ?_
      refine xw_lret (aX9_pop 22 rfl) rfl ?_
      exact ⟨x18, rfl, FI15, rfl, hI17, (gf_t gf_rf u16 (shd_f (fix_t2 hS hR hc hsc (by unfold g_dt; omega) (by decide +kernel)) hsc) (by decide))⟩
    · omega
def nX9_below : Nat := 0xad2f1c0b00b42a0900a7090700a1be0b00b42a1c0c009b1c3d641b64043e00b42a
theorem bX9_below : cX9_below.data.toList.map UInt8.toNat = x_un nX9_below 33 := by decide +kernel
def iX9_below : List (Nat × Jvm.ClassFile.Instr × Nat) := [(0, .aload_n 0, 1), (1, .getfield 62, 3), (4, .iconst 1, 1), (5, .isub, 1), (6, .iload_n 1, 1), (7, .isub, 1), (8, .istore_n 2, 1), (9, .iload_n 2, 1), (10, .ifCond .lt 12, 3), (13, .iload_n 2, 1), (14, .aload_n 0, 1), (15, .getfield 11, 3), (18, .arraylength, 1), (19, .if_icmp .lt 7, 3), (22, .lconst 0, 1), (23, .goto 9, 3), (26, .aload_n 0, 1), (27, .getfield 11, 3), (30, .iload_n 2, 1), (31, .laload, 1), (32, .lreturn, 1)]
theorem dX9_below : x_il nX9_below 33 iX9_below = true := by decide +kernel
theorem aX9_below (k : Nat) {pc : Nat} {i : Jvm.ClassFile.Instr} {len : Nat} (hk : iX9_below[k]? = some (pc, i, len)) : x_at xMM 102 pc i len yX9_below 3 (some .long) := ⟨cX9_below, rfl, x_il_ok bX9_below dX9_below k hk⟩
set_option maxHeartbeats 4000000 in
set_option maxRecDepth 100000 in
theorem k_X9_below {sk : xK} {base d n sl : Nat} {SH : Nat → Nat × Nat} {FI : Nat → Nat → Int32} {FL : Nat → Nat → Int64} {FR : Nat → Nat → Option Nat} (hS : h_S n SH) (hF : h_FR FR) (hI : g_I FI) (hR : g_R n SH FR) (c : Nat) {zc : Nat} (hc : c < n) (hsc : SH c = (9, zc)) (hoc : own c) (a1 : Int32) : hw sk base d none 102 0 [(0, .ref (base + c)), (1, .int (a1))] [] (n, sl, SH, FI, FL, FR) (h_J (fun r s => s = (n, sl, SH, FI, FL, FR))) := by
  have rg_a1 := i_rng a1
  refine hw_aloadn (aX9_below 0 rfl) rfl ?_
  obtain ⟨x1, h2⟩ : ∃ y, FI c 5 = y := ⟨_, rfl⟩
  have h2l := congrArg Int32.toInt h2
  have := i_rng x1
  have b3 := gI_s (k := 5) (lo := 0) (hi := 128) hI hS hR hc hsc (by unfold g_dt; omega) (by decide +kernel); rw [h2] at b3
  refine hw_get (v := .int (x1)) (aX9_below 1 rfl) wf_RX9_62 hc hsc (by decide) (congrArg Value.int (show FI c 5 = x1 from h2)) ?_
  refine hw_ic (v := (1 : Int32)) (aX9_below 2 rfl) (by decide) ?_
  refine xw_isub (aX9_below 3 rfl) ?_
  refine hw_tie (A := ((x1).toInt) - (1)) (i_sub rfl (by decide : (1 : Int32).toInt = 1) (by omega) (by omega)) (fun x4 e5 => ?_)
  refine xw_iloadn (aX9_below 4 rfl) rfl ?_
  refine xw_isub (aX9_below 5 rfl) ?_
  have := i_rng ((x4) - (a1))
  refine xw_istoren (L2 := [(2, .int (((x4) - (a1)))), (0, .ref (base + c)), (1, .int (a1))]) (aX9_below 6 rfl) (by decide) rfl ?_
  refine xw_iloadn (aX9_below 7 rfl) rfl ?_
  refine hw_iflt (tgt := 22) (aX9_below 8 rfl) (by decide) rfl (fun cd6 => ?_) (fun cd6 => ?_)
  · refine hw_lc (v := (0 : Int64)) (aX9_below 14 rfl) (by decide) ?_
    refine xw_goto (tgt := 32) (aX9_below 15 rfl) (by decide) ?_
    refine xw_lret (aX9_below 20 rfl) rfl ?_
    have e7 : ((0 : Int64)).toInt = 0 := (by decide : (0 : Int64).toInt = 0)
    exact ⟨(0 : Int64), rfl, rfl⟩
  · refine xw_iloadn (aX9_below 9 rfl) rfl ?_
    refine hw_aloadn (aX9_below 10 rfl) rfl ?_
    obtain ⟨r8, h9, lt10, ow11, sh12, fx13⟩ := g_nz (k := 2) (ty := 101) (zz := 128) hS hF hR hc hsc (by unfold g_dt; omega) (by decide +kernel)
    refine hw_get (v := .ref (base + r8)) (aX9_below 11 rfl) wf_RX9_11 hc hsc (by decide) (congrArg (fun r => va_rf (h_rf base r)) (show FR c 2 = some r8 from h9)) ?_
    refine hw_alen (k := 1) (z := 128) (v := (128 : Int32)) (aX9_below 12 rfl) lt10 sh12 (by decide) (by decide) ?_
    refine hw_iclt (tgt := 26) (aX9_below 13 rfl) (by decide) rfl (by decide : (128 : Int32).toInt = 128) (fun cd14 => ?_) (fun cd14 => ?_)
    · refine hw_aloadn (aX9_below 16 rfl) rfl ?_
      refine hw_get (v := .ref (base + r8)) (aX9_below 17 rfl) wf_RX9_11 hc hsc (by decide) (congrArg (fun r => va_rf (h_rf base r)) (show FR c 2 = some r8 from h9)) ?_
      refine xw_iloadn (aX9_below 18 rfl) rfl ?_
      obtain ⟨x15, h16⟩ : ∃ y, FL r8 (((x4) - (a1))).toNatClampNeg = y := ⟨_, rfl⟩
      have h16l := congrArg Int64.toInt h16
      have := l_rng x15
      refine hw_lald (v := x15) (aX9_below 19 rfl) lt10 sh12 (h_in rfl (by omega) (by omega)) (show FL r8 (((x4) - (a1))).toNatClampNeg = x15 from h16) ?_
      refine xw_lret (aX9_below 20 rfl) rfl ?_
      exact ⟨x15, rfl, rfl⟩
    · refine hw_lc (v := (0 : Int64)) (aX9_below 14 rfl) (by decide) ?_
      refine xw_goto (tgt := 32) (aX9_below 15 rfl) (by decide) ?_
      refine xw_lret (aX9_below 20 rfl) rfl ?_
      have e17 : ((0 : Int64)).toInt = 0 := (by decide : (0 : Int64).toInt = 0)
      exact ⟨(0 : Int64), rfl, rfl⟩
def nX9_keep : Nat := 0xac034100b65c00b62a061200b42a0f00a7ea00b6886000b42a887600b42a2c1200b42a1800a09e00111b
theorem bX9_keep : cX9_keep.data.toList.map UInt8.toNat = x_un nX9_keep 42 := by decide +kernel
def iX9_keep : List (Nat × Jvm.ClassFile.Instr × Nat) := [(0, .iload_n 1, 1), (1, .sipush 158, 3), (4, .if_icmp .ne 24, 3), (7, .aload_n 0, 1), (8, .getfield 18, 3), (11, .aload_n 2, 1), (12, .aload_n 0, 1), (13, .getfield 118, 3), (16, .l2i, 1), (17, .aload_n 0, 1), (18, .getfield 96, 3), (21, .l2i, 1), (22, .invokevirtual 234, 3), (25, .goto 15, 3), (28, .aload_n 0, 1), (29, .getfield 18, 3), (32, .iconst 3, 1), (33, .aload_n 0, 1), (34, .invokevirtual 92, 3), (37, .invokevirtual 65, 3), (40, .iconst 0, 1), (41, .ireturn, 1)]
theorem dX9_keep : x_il nX9_keep 42 iX9_keep = true := by decide +kernel
theorem aX9_keep (k : Nat) {pc : Nat} {i : Jvm.ClassFile.Instr} {len : Nat} (hk : iX9_keep[k]? = some (pc, i, len)) : x_at xMM 106 pc i len yX9_keep 3 (some .int) := ⟨cX9_keep, rfl, x_il_ok bX9_keep dX9_keep k hk⟩
set_option maxHeartbeats 4000000 in
set_option maxRecDepth 100000 in
theorem k_X9_keep {sk : xK} {base d n sl : Nat} {SH : Nat → Nat × Nat} {FI : Nat → Nat → Int32} {FL : Nat → Nat → Int64} {FR : Nat → Nat → Option Nat} (hS : h_S n SH) (hF : h_FR FR) (hI : g_I FI) (hR : g_R n SH FR) (c : Nat) {zc : Nat} (hc : c < n) (hsc : SH c = (9, zc)) (hoc : own c) (a1 : Int32) (a2 : Nat) {z2 : Nat} (ha2l : a2 < n) (ha2s : SH a2 = (100, z2)) (ha2o : own a2) : hw sk base (d + 2) none 106 0 [(0, .ref (base + c)), (1, .int (a1)), (2, .ref (base + a2))] [] (n, sl, SH, FI, FL, FR) (h_I (fun r s => ∃ FI' FL' FR', s = (n, sl, SH, FI', FL', FR') ∧ g_I FI' ∧ g_fr n (shd SH) [] [] [5, 9] FI FI' ∧ g_fr n (shd SH) [] [] [5] FL FL' ∧ g_fr n (shd SH) [] [] [5] FR FR' ∧ h_FR FR' ∧ g_R n SH FR')) := by
  have rg_a1 := i_rng a1
  refine xw_iloadn (aX9_keep 0 rfl) rfl ?_
  refine hw_sp (v := (158 : Int32)) (aX9_keep 1 rfl) (by decide) ?_
  refine hw_icne (tgt := 28) (aX9_keep 2 rfl) (by decide) rfl (by decide : (158 : Int32).toInt = 158) (fun cd1 => ?_) (fun cd1 => ?_)
  · refine hw_aloadn (aX9_keep 14 rfl) rfl ?_
    obtain ⟨r2, h3, lt4, ow5, sh6, fx7⟩ := g_nz (k := 3) (ty := 5) (zz := 0) hS hF hR hc hsc (by unfold g_dt; omega) (by decide +kernel)
    refine hw_get (v := .ref (base + r2)) (aX9_keep 15 rfl) wf_RX9_18 hc hsc (by decide) (congrArg (fun r => va_rf (h_rf base r)) (show FR c 3 = some r2 from h3)) ?_
    refine hw_ic (v := (3 : Int32)) (aX9_keep 16 rfl) (by decide) ?_
    refine hw_aloadn (aX9_keep 17 rfl) rfl ?_
    refine hw_callV (Bs := []) (rest := [.int ((3 : Int32)), .ref (base + r2)]) (aX9_keep 18 rfl) wc_RX9_92 (by decide) rfl wi_yX9_pop wv_yX9_pop hc hsc rfl rfl rfl (Nat.le_of_ble_eq_true rfl) (Nat.le_of_ble_eq_true rfl) (k_X9_pop (d := d + 1) hS hF hI hR (c) hc hsc hoc ) (fun v8 sv9 p10 => ?_)
    obtain ⟨r11, rfl, FI12, rfl, hI13, f14⟩ := p10
    have rg_r11 := l_rng r11
    show hw sk base _ _ _ _ _ [.long (r11), .int ((3 : Int32)), .ref (base + r2)] _ _
    refine hw_callV (Bs := [.int ((3 : Int32)), .long (r11)]) (rest := []) (aX9_keep 19 rfl) wc_RX9_65 (by decide) rfl wi_yX5_become wv_yX5_become lt4 sh6 rfl rfl rfl (Nat.le_of_ble_eq_true rfl) (Nat.le_of_ble_eq_true rfl) (k_X5_become (d := d + 1) hS hF hI13 hR (r2) lt4 sh6 ow5 ((3 : Int32)) (r11) ) (fun v19 sv20 p21 => ?_)
    obtain ⟨rfl, FI23, FL24, rfl, hI25, f26, f27⟩ := p21
    show hw sk base _ _ _ _ _ [] _ _
    refine hw_ic (v := (0 : Int32)) (aX9_keep 20 rfl) (by decide) ?_
    refine xw_iret (aX9_keep 21 rfl) rfl rfl ?_
    have e32 : ((0 : Int32)).toInt = 0 := (by decide : (0 : Int32).toInt = 0)
    exact ⟨(0 : Int32), rfl, FI23, FL24, FR, rfl, hI25, (gf_tr ex_rf (gf_tr ex_rf gf_rf f14 rfl rfl rfl) f26 rfl rfl rfl), (gf_tr ex_rf gf_rf f27 rfl rfl rfl), gf_rf, hF, hR⟩
  · refine hw_aloadn (aX9_keep 3 rfl) rfl ?_
    obtain ⟨r33, h34, lt35, ow36, sh37, fx38⟩ := g_nz (k := 3) (ty := 5) (zz := 0) hS hF hR hc hsc (by unfold g_dt; omega) (by decide +kernel)
    refine hw_get (v := .ref (base + r33)) (aX9_keep 4 rfl) wf_RX9_18 hc hsc (by decide) (congrArg (fun r => va_rf (h_rf base r)) (show FR c 3 = some r33 from h34)) ?_
    refine hw_aloadn (aX9_keep 5 rfl) rfl ?_
    refine hw_aloadn (aX9_keep 6 rfl) rfl ?_
    obtain ⟨x39, h40⟩ : ∃ y, FL c 13 = y := ⟨_, rfl⟩
    have h40l := congrArg Int64.toInt h40
    have := l_rng x39
    refine hw_get (v := .long (x39)) (aX9_keep 7 rfl) wf_RX9_118 hc hsc (by decide) (congrArg Value.long (show FL c 13 = x39 from h40)) ?_
    refine xw_l2i (aX9_keep 8 rfl) ?_
    refine hw_ti (fun x41 => ?_)
    have b42 := i_rng x41
    refine hw_aloadn (aX9_keep 9 rfl) rfl ?_
    obtain ⟨x43, h44⟩ : ∃ y, FL c 12 = y := ⟨_, rfl⟩
    have h44l := congrArg Int64.toInt h44
    have := l_rng x43
    refine hw_get (v := .long (x43)) (aX9_keep 10 rfl) wf_RX9_96 hc hsc (by decide) (congrArg Value.long (show FL c 12 = x43 from h44)) ?_
    refine xw_l2i (aX9_keep 11 rfl) ?_
    refine hw_ti (fun x45 => ?_)
    have b46 := i_rng x45
    refine hw_callV (Bs := [.ref (base + a2), .int (x41), .int (x45)]) (rest := []) (aX9_keep 12 rfl) wc_RX9_234 (by decide) rfl wi_yX5_becomeBlock wv_yX5_becomeBlock lt35 sh37 rfl rfl rfl (Nat.le_of_ble_eq_true rfl) (Nat.le_of_ble_eq_true rfl) (k_X5_becomeBlock (d := d) hS hF hI hR (r33) lt35 sh37 ow36 (a2) ha2l ha2s ha2o (x41) (x45) ) (fun v47 sv48 p49 => ?_)
    obtain ⟨rfl, FI51, FL52, FR53, rfl, hI54, f55, f56, f57, hF58, hR59⟩ := p49
    show hw sk base _ _ _ _ _ [] _ _
    refine xw_goto (tgt := 40) (aX9_keep 13 rfl) (by decide) ?_
    refine hw_ic (v := (0 : Int32)) (aX9_keep 20 rfl) (by decide) ?_
    refine xw_iret (aX9_keep 21 rfl) rfl rfl ?_
    have e62 : ((0 : Int32)).toInt = 0 := (by decide : (0 : Int32).toInt = 0)
    exact ⟨(0 : Int32), rfl, FI51, FL52, FR53, rfl, hI54, (gf_tr ex_rf gf_rf f55 rfl rfl rfl), (gf_tr ex_rf gf_rf f56 rfl rfl rfl), (gf_tr ex_rf gf_rf f57 rfl rfl rfl), hF58, hR59⟩
def nX9_holdTop : Nat := 0xb14100b6c900b6032a041200b42a10009e3e00b42a17009a7f00b41200b42a
theorem bX9_holdTop : cX9_holdTop.data.toList.map UInt8.toNat = x_un nX9_holdTop 31 := by decide +kernel
def iX9_holdTop : List (Nat × Jvm.ClassFile.Instr × Nat) := [(0, .aload_n 0, 1), (1, .getfield 18, 3), (4, .getfield 127, 3), (7, .ifCond .ne 23, 3), (10, .aload_n 0, 1), (11, .getfield 62, 3), (14, .ifCond .le 16, 3), (17, .aload_n 0, 1), (18, .getfield 18, 3), (21, .iconst 1, 1), (22, .aload_n 0, 1), (23, .iconst 0, 1), (24, .invokevirtual 201, 3), (27, .invokevirtual 65, 3), (30, .return_, 1)]
theorem dX9_holdTop : x_il nX9_holdTop 31 iX9_holdTop = true := by decide +kernel
theorem aX9_holdTop (k : Nat) {pc : Nat} {i : Jvm.ClassFile.Instr} {len : Nat} (hk : iX9_holdTop[k]? = some (pc, i, len)) : x_at xMM 108 pc i len yX9_holdTop 1 none := ⟨cX9_holdTop, rfl, x_il_ok bX9_holdTop dX9_holdTop k hk⟩
set_option maxHeartbeats 4000000 in
set_option maxRecDepth 100000 in
theorem k_X9_holdTop {sk : xK} {base d n sl : Nat} {SH : Nat → Nat × Nat} {FI : Nat → Nat → Int32} {FL : Nat → Nat → Int64} {FR : Nat → Nat → Option Nat} (hS : h_S n SH) (hF : h_FR FR) (hI : g_I FI) (hR : g_R n SH FR) (c : Nat) {zc : Nat} (hc : c < n) (hsc : SH c = (9, zc)) (hoc : own c) : hw sk base (d + 1) none 108 0 [(0, .ref (base + c))] [] (n, sl, SH, FI, FL, FR) (h_V (fun s => ∃ FI' FL', s = (n, sl, SH, FI', FL', FR) ∧ g_I FI' ∧ g_fr n (shd SH) [] [] [5] FI FI' ∧ g_fr n (shd SH) [] [] [5] FL FL')) := by
  refine hw_aloadn (aX9_holdTop 0 rfl) rfl ?_
  obtain ⟨r1, h2, lt3, ow4, sh5, fx6⟩ := g_nz (k := 3) (ty := 5) (zz := 0) hS hF hR hc hsc (by unfold g_dt; omega) (by decide +kernel)
  refine hw_get (v := .ref (base + r1)) (aX9_holdTop 1 rfl) wf_RX9_18 hc hsc (by decide) (congrArg (fun r => va_rf (h_rf base r)) (show FR c 3 = some r1 from h2)) ?_
  obtain ⟨x7, h8⟩ : ∃ y, FI r1 0 = y := ⟨_, rfl⟩
  have h8l := congrArg Int32.toInt h8
  have := i_rng x7
  refine hw_get (v := .int (x7)) (aX9_holdTop 2 rfl) wf_RX9_127 lt3 sh5 (by decide) (congrArg Value.int (show FI r1 0 = x7 from h8)) ?_
  refine hw_ifne (tgt := 30) (aX9_holdTop 3 rfl) (by decide) rfl (fun cd9 => ?_) (fun cd9 => ?_)
  · refine xw_vret (aX9_holdTop 14 rfl) rfl ?_
    exact ⟨rfl, FI, FL, rfl, hI, gf_rf, gf_rf⟩
  · refine hw_aloadn (aX9_holdTop 4 rfl) rfl ?_
    obtain ⟨x10, h11⟩ : ∃ y, FI c 5 = y := ⟨_, rfl⟩
    have h11l := congrArg Int32.toInt h11
    have := i_rng x10
    have b12 := gI_s (k := 5) (lo := 0) (hi := 128) hI hS hR hc hsc (by unfold g_dt; omega) (by decide +kernel); rw [h11] at b12
    refine hw_get (v := .int (x10)) (aX9_holdTop 5 rfl) wf_RX9_62 hc hsc (by decide) (congrArg Value.int (show FI c 5 = x10 from h11)) ?_
    refine hw_ifle (tgt := 30) (aX9_holdTop 6 rfl) (by decide) rfl (fun cd13 => ?_) (fun cd13 => ?_)
    · refine xw_vret (aX9_holdTop 14 rfl) rfl ?_
      exact ⟨rfl, FI, FL, rfl, hI, gf_rf, gf_rf⟩
    · refine hw_aloadn (aX9_holdTop 7 rfl) rfl ?_
      refine hw_get (v := .ref (base + r1)) (aX9_holdTop 8 rfl) wf_RX9_18 hc hsc (by decide) (congrArg (fun r => va_rf (h_rf base r)) (show FR c 3 = some r1 from h2)) ?_
      refine hw_ic (v := (1 : Int32)) (aX9_holdTop 9 rfl) (by decide) ?_
      refine hw_aloadn (aX9_holdTop 10 rfl) rfl ?_
      refine hw_ic (v := (0 : Int32)) (aX9_holdTop 11 rfl) (by decide) ?_
      refine hw_callV (Bs := [.int ((0 : Int32))]) (rest := [.int ((1 : Int32)), .ref (base + r1)]) (aX9_holdTop 12 rfl) wc_RX9_201 (by decide) rfl wi_yX9_below wv_yX9_below hc hsc rfl rfl rfl (Nat.le_of_ble_eq_true rfl) (Nat.le_of_ble_eq_true rfl) (k_X9_below (d := d) hS hF hI hR (c) hc hsc hoc ((0 : Int32)) ) (fun v14 sv15 p16 => ?_)
      obtain ⟨r17, rfl, rfl⟩ := p16
      have rg_r17 := l_rng r17
      show hw sk base _ _ _ _ _ [.long (r17), .int ((1 : Int32)), .ref (base + r1)] _ _
      refine hw_callV (Bs := [.int ((1 : Int32)), .long (r17)]) (rest := []) (aX9_holdTop 13 rfl) wc_RX9_65 (by decide) rfl wi_yX5_become wv_yX5_become lt3 sh5 rfl rfl rfl (Nat.le_of_ble_eq_true rfl) (Nat.le_of_ble_eq_true rfl) (k_X5_become (d := d) hS hF hI hR (r1) lt3 sh5 ow4 ((1 : Int32)) (r17) ) (fun v23 sv24 p25 => ?_)
      obtain ⟨rfl, FI27, FL28, rfl, hI29, f30, f31⟩ := p25
      show hw sk base _ _ _ _ _ [] _ _
      refine xw_vret (aX9_holdTop 14 rfl) rfl ?_
      exact ⟨rfl, FI27, FL28, rfl, hI29, (gf_tr ex_rf gf_rf f30 rfl rfl rfl), (gf_tr ex_rf gf_rf f31 rfl rfl rfl)⟩
def nX9_settle : Nat := 0xac03f800b61200b42af400b61900b42aee00b62aac030400a70d1008009e3e00b42a0a009a7f00b41200b42a1b009e9200b41900b42a
theorem bX9_settle : cX9_settle.data.toList.map UInt8.toNat = x_un nX9_settle 54 := by decide +kernel
def iX9_settle : List (Nat × Jvm.ClassFile.Instr × Nat) := [(0, .aload_n 0, 1), (1, .getfield 25, 3), (4, .getfield 146, 3), (7, .ifCond .le 27, 3), (10, .aload_n 0, 1), (11, .getfield 18, 3), (14, .getfield 127, 3), (17, .ifCond .ne 10, 3), (20, .aload_n 0, 1), (21, .getfield 62, 3), (24, .ifCond .le 8, 3), (27, .bipush 13, 2), (29, .goto 4, 3), (32, .iconst 0, 1), (33, .ireturn, 1), (34, .aload_n 0, 1), (35, .invokevirtual 238, 3), (38, .aload_n 0, 1), (39, .getfield 25, 3), (42, .invokevirtual 244, 3), (45, .aload_n 0, 1), (46, .getfield 18, 3), (49, .invokevirtual 248, 3), (52, .iconst 0, 1), (53, .ireturn, 1)]
theorem dX9_settle : x_il nX9_settle 54 iX9_settle = true := by decide +kernel
theorem aX9_settle (k : Nat) {pc : Nat} {i : Jvm.ClassFile.Instr} {len : Nat} (hk : iX9_settle[k]? = some (pc, i, len)) : x_at xMM 109 pc i len yX9_settle 1 (some .int) := ⟨cX9_settle, rfl, x_il_ok bX9_settle dX9_settle k hk⟩
set_option maxHeartbeats 4000000 in
set_option maxRecDepth 100000 in
theorem k_X9_settle {sk : xK} {base d n sl : Nat} {SH : Nat → Nat × Nat} {FI : Nat → Nat → Int32} {FL : Nat → Nat → Int64} {FR : Nat → Nat → Option Nat} (hS : h_S n SH) (hF : h_FR FR) (hI : g_I FI) (hR : g_R n SH FR) (c : Nat) {zc : Nat} (hc : c < n) (hsc : SH c = (9, zc)) (hoc : own c) : hw sk base (d + 2) none 109 0 [(0, .ref (base + c))] [] (n, sl, SH, FI, FL, FR) (h_I (fun r s => ∃ FI' FL' FR', s = (n, sl, SH, FI', FL', FR') ∧ g_I FI' ∧ g_fr n (shd SH) [] [] [5] FI FI' ∧ g_fr n (shd SH) [] [] [5] FL FL' ∧ g_fr n (shd SH) [] [] [5] FR FR' ∧ h_FR FR' ∧ g_R n SH FR')) := by
  refine hw_aloadn (aX9_settle 0 rfl) rfl ?_
  obtain ⟨r1, h2, lt3, ow4, sh5, fx6⟩ := g_nz (k := 4) (ty := 8) (zz := 0) hS hF hR hc hsc (by unfold g_dt; omega) (by decide +kernel)
  refine hw_get (v := .ref (base + r1)) (aX9_settle 1 rfl) wf_RX9_25 hc hsc (by decide) (congrArg (fun r => va_rf (h_rf base r)) (show FR c 4 = some r1 from h2)) ?_
  obtain ⟨x7, h8⟩ : ∃ y, FI r1 1 = y := ⟨_, rfl⟩
  have h8l := congrArg Int32.toInt h8
  have := i_rng x7
  have b9 := gI_s (k := 1) (lo := 0) (hi := 16) hI hS hR lt3 sh5 (by unfold g_dt; omega) (by decide +kernel); rw [h8] at b9
  refine hw_get (v := .int (x7)) (aX9_settle 2 rfl) wf_RX9_146 lt3 sh5 (by decide) (congrArg Value.int (show FI r1 1 = x7 from h8)) ?_
  refine hw_ifle (tgt := 34) (aX9_settle 3 rfl) (by decide) rfl (fun cd10 => ?_) (fun cd10 => ?_)
  · refine hw_aloadn (aX9_settle 15 rfl) rfl ?_
    refine hw_callV (Bs := []) (rest := []) (aX9_settle 16 rfl) wc_RX9_238 (by decide) rfl wi_yX9_holdTop wv_yX9_holdTop hc hsc rfl rfl rfl (Nat.le_of_ble_eq_true rfl) (Nat.le_of_ble_eq_true rfl) (k_X9_holdTop (d := d) hS hF hI hR (c) hc hsc hoc ) (fun v11 sv12 p13 => ?_)
    obtain ⟨rfl, FI15, FL16, rfl, hI17, f18, f19⟩ := p13
    show hw sk base _ _ _ _ _ [] _ _
    refine hw_aloadn (aX9_settle 17 rfl) rfl ?_
    refine hw_get (v := .ref (base + r1)) (aX9_settle 18 rfl) wf_RX9_25 hc hsc (by decide) (congrArg (fun r => va_rf (h_rf base r)) (show FR c 4 = some r1 from h2)) ?_
    refine hw_callV (Bs := []) (rest := []) (aX9_settle 19 rfl) wc_RX9_244 (by decide) rfl wi_yX8_only wv_yX8_only lt3 sh5 rfl rfl rfl (Nat.le_of_ble_eq_true rfl) (Nat.le_of_ble_eq_true rfl) (k_X8_only (d := d + 1) hS hF hI17 hR (r1) lt3 sh5 ow4 ) (fun v24 sv25 p26 => ?_)
    obtain ⟨r27, rfl, rfl, ht31, nn32⟩ := p26
    obtain ⟨r33, rfl⟩ : ∃ q, r27 = some q := Option.ne_none_iff_exists'.mp nn32
    obtain ⟨lt34, ow35, sh36⟩ := ht31 r33 rfl
    show hw sk base _ _ _ _ _ [.ref (base + r33)] _ _
    refine hw_aloadn (aX9_settle 20 rfl) rfl ?_
    obtain ⟨r37, h38, lt39, ow40, sh41, fx42⟩ := g_nz (k := 3) (ty := 5) (zz := 0) hS hF hR hc hsc (by unfold g_dt; omega) (by decide +kernel)
    refine hw_get (v := .ref (base + r37)) (aX9_settle 21 rfl) wf_RX9_18 hc hsc (by decide) (congrArg (fun r => va_rf (h_rf base r)) (show FR c 3 = some r37 from h38)) ?_
    refine hw_callV (Bs := [.ref (base + r37)]) (rest := []) (aX9_settle 22 rfl) wc_RX9_248 (by decide) rfl wi_yX5_take wv_yX5_take lt34 sh36 rfl rfl rfl (Nat.le_of_ble_eq_true rfl) (Nat.le_of_ble_eq_true rfl) (k_X5_take (d := d + 1) hS hF hI17 hR (r33) lt34 sh36 ow35 (r37) lt39 sh41 ow40 ) (fun v43 sv44 p45 => ?_)
    obtain ⟨rfl, FI47, FL48, FR49, rfl, hI50, f51, f52, f53, hF54, hR55⟩ := p45
    show hw sk base _ _ _ _ _ [] _ _
    refine hw_ic (v := (0 : Int32)) (aX9_settle 23 rfl) (by decide) ?_
    refine xw_iret (aX9_settle 24 rfl) rfl rfl ?_
    have e58 : ((0 : Int32)).toInt = 0 := (by decide : (0 : Int32).toInt = 0)
    exact ⟨(0 : Int32), rfl, FI47, FL48, FR49, rfl, hI50, (gf_tr ex_rf (gf_tr ex_rf gf_rf f18 rfl rfl rfl) f51 rfl rfl rfl), (gf_tr ex_rf (gf_tr ex_rf gf_rf f19 rfl rfl rfl) f52 rfl rfl rfl), (gf_tr ex_rf gf_rf f53 rfl rfl rfl), hF54, hR55⟩
  · refine hw_aloadn (aX9_settle 4 rfl) rfl ?_
    obtain ⟨r59, h60, lt61, ow62, sh63, fx64⟩ := g_nz (k := 3) (ty := 5) (zz := 0) hS hF hR hc hsc (by unfold g_dt; omega) (by decide +kernel)
    refine hw_get (v := .ref (base + r59)) (aX9_settle 5 rfl) wf_RX9_18 hc hsc (by decide) (congrArg (fun r => va_rf (h_rf base r)) (show FR c 3 = some r59 from h60)) ?_
    obtain ⟨x65, h66⟩ : ∃ y, FI r59 0 = y := ⟨_, rfl⟩
    have h66l := congrArg Int32.toInt h66
    have := i_rng x65
    refine hw_get (v := .int (x65)) (aX9_settle 6 rfl) wf_RX9_127 lt61 sh63 (by decide) (congrArg Value.int (show FI r59 0 = x65 from h66)) ?_
    refine hw_ifne (tgt := 27) (aX9_settle 7 rfl) (by decide) rfl (fun cd67 => ?_) (fun cd67 => ?_)
    · refine hw_bp (v := (13 : Int32)) (aX9_settle 11 rfl) (by decide) ?_
      refine xw_goto (tgt := 33) (aX9_settle 12 rfl) (by decide) ?_
      refine xw_iret (aX9_settle 14 rfl) rfl rfl ?_
      have e68 : ((13 : Int32)).toInt = 13 := (by decide : (13 : Int32).toInt = 13)
      exact ⟨(13 : Int32), rfl, FI, FL, FR, rfl, hI, gf_rf, gf_rf, gf_rf, hF, hR⟩
    · refine hw_aloadn (aX9_settle 8 rfl) rfl ?_
      obtain ⟨x69, h70⟩ : ∃ y, FI c 5 = y := ⟨_, rfl⟩
      have h70l := congrArg Int32.toInt h70
      have := i_rng x69
      have b71 := gI_s (k := 5) (lo := 0) (hi := 128) hI hS hR hc hsc (by unfold g_dt; omega) (by decide +kernel); rw [h70] at b71
      refine hw_get (v := .int (x69)) (aX9_settle 9 rfl) wf_RX9_62 hc hsc (by decide) (congrArg Value.int (show FI c 5 = x69 from h70)) ?_
      refine hw_ifle (tgt := 32) (aX9_settle 10 rfl) (by decide) rfl (fun cd72 => ?_) (fun cd72 => ?_)
      · refine hw_ic (v := (0 : Int32)) (aX9_settle 13 rfl) (by decide) ?_
        refine xw_iret (aX9_settle 14 rfl) rfl rfl ?_
        have e73 : ((0 : Int32)).toInt = 0 := (by decide : (0 : Int32).toInt = 0)
        exact ⟨(0 : Int32), rfl, FI, FL, FR, rfl, hI, gf_rf, gf_rf, gf_rf, hF, hR⟩
      · refine hw_bp (v := (13 : Int32)) (aX9_settle 11 rfl) (by decide) ?_
        refine xw_goto (tgt := 33) (aX9_settle 12 rfl) (by decide) ?_
        refine xw_iret (aX9_settle 14 rfl) rfl rfl ?_
        have e74 : ((13 : Int32)).toInt = 13 := (by decide : (13 : Int32).toInt = 13)
        exact ⟨(13 : Int32), rfl, FI, FL, FR, rfl, hI, gf_rf, gf_rf, gf_rf, hF, hR⟩
def nX9_takeBase : Nat := 0xac03d400b50301b42c0700a7a200b60301b42c1d00b42a1100a0057f00b42c2aac0b100600a0077f00b42c0b00997f00b42c12009d9200b42b4df400b62b
theorem bX9_takeBase : cX9_takeBase.data.toList.map UInt8.toNat = x_un nX9_takeBase 62 := by decide +kernel
def iX9_takeBase : List (Nat × Jvm.ClassFile.Instr × Nat) := [(0, .aload_n 1, 1), (1, .invokevirtual 244, 3), (4, .astore_n 2, 1), (5, .aload_n 1, 1), (6, .getfield 146, 3), (9, .ifCond .gt 18, 3), (12, .aload_n 2, 1), (13, .getfield 127, 3), (16, .ifCond .eq 11, 3), (19, .aload_n 2, 1), (20, .getfield 127, 3), (23, .iconst 4, 1), (24, .if_icmp .ne 6, 3), (27, .bipush 11, 2), (29, .ireturn, 1), (30, .aload_n 0, 1), (31, .aload_n 2, 1), (32, .getfield 127, 3), (35, .iconst 2, 1), (36, .if_icmp .ne 17, 3), (39, .aload_n 0, 1), (40, .getfield 29, 3), (43, .aload_n 2, 1), (44, .getfield 259, 3), (47, .invokevirtual 162, 3), (50, .goto 7, 3), (53, .aload_n 2, 1), (54, .getfield 259, 3), (57, .putfield 212, 3), (60, .iconst 0, 1), (61, .ireturn, 1)]
theorem dX9_takeBase : x_il nX9_takeBase 62 iX9_takeBase = true := by decide +kernel
theorem aX9_takeBase (k : Nat) {pc : Nat} {i : Jvm.ClassFile.Instr} {len : Nat} (hk : iX9_takeBase[k]? = some (pc, i, len)) : x_at xMM 111 pc i len yX9_takeBase 3 (some .int) := ⟨cX9_takeBase, rfl, x_il_ok bX9_takeBase dX9_takeBase k hk⟩
set_option maxHeartbeats 4000000 in
set_option maxRecDepth 100000 in
theorem k_X9_takeBase {sk : xK} {base d n sl : Nat} {SH : Nat → Nat × Nat} {FI : Nat → Nat → Int32} {FL : Nat → Nat → Int64} {FR : Nat → Nat → Option Nat} (hS : h_S n SH) (hF : h_FR FR) (hI : g_I FI) (hR : g_R n SH FR) (c : Nat) {zc : Nat} (hc : c < n) (hsc : SH c = (9, zc)) (hoc : own c) (a1 : Nat) {z1 : Nat} (ha1l : a1 < n) (ha1s : SH a1 = (8, z1)) (ha1o : own a1) : hw sk base (d + 1) none 111 0 [(0, .ref (base + c)), (1, .ref (base + a1))] [] (n, sl, SH, FI, FL, FR) (h_I (fun r s => ∃ FL', s = (n, sl, SH, FI, FL', FR) ∧ g_fr n (shd SH) [] [] [9] FL FL')) := by
  refine hw_aloadn (aX9_takeBase 0 rfl) rfl ?_
  refine hw_callV (Bs := []) (rest := []) (aX9_takeBase 1 rfl) wc_RX9_244 (by decide) rfl wi_yX8_only wv_yX8_only ha1l ha1s rfl rfl rfl (Nat.le_of_ble_eq_true rfl) (Nat.le_of_ble_eq_true rfl) (k_X8_only (d := d) hS hF hI hR (a1) ha1l ha1s ha1o ) (fun v1 sv2 p3 => ?_)
  obtain ⟨r4, rfl, rfl, ht8, nn9⟩ := p3
  obtain ⟨r10, rfl⟩ : ∃ q, r4 = some q := Option.ne_none_iff_exists'.mp nn9
  obtain ⟨lt11, ow12, sh13⟩ := ht8 r10 rfl
  show hw sk base _ _ _ _ _ [.ref (base + r10)] _ _
  refine hw_astoren (L2 := [(2, .ref (base + r10)), (0, .ref (base + c)), (1, .ref (base + a1))]) (aX9_takeBase 2 rfl) (by decide) rfl ?_
  refine hw_aloadn (aX9_takeBase 3 rfl) rfl ?_
  obtain ⟨x14, h15⟩ : ∃ y, FI a1 1 = y := ⟨_, rfl⟩
  have h15l := congrArg Int32.toInt h15
  have := i_rng x14
  have b16 := gI_s (k := 1) (lo := 0) (hi := 16) hI hS hR ha1l ha1s (by unfold g_dt; omega) (by decide +kernel); rw [h15] at b16
  refine hw_get (v := .int (x14)) (aX9_takeBase 4 rfl) wf_RX9_146 ha1l ha1s (by decide) (congrArg Value.int (show FI a1 1 = x14 from h15)) ?_
  refine hw_ifgt (tgt := 27) (aX9_takeBase 5 rfl) (by decide) rfl (fun cd17 => ?_) (fun cd17 => ?_)
  · refine hw_bp (v := (11 : Int32)) (aX9_takeBase 13 rfl) (by decide) ?_
    refine xw_iret (aX9_takeBase 14 rfl) rfl rfl ?_
    have e18 : ((11 : Int32)).toInt = 11 := (by decide : (11 : Int32).toInt = 11)
    exact ⟨(11 : Int32), rfl, FL, rfl, gf_rf⟩
  · refine hw_aloadn (aX9_takeBase 6 rfl) rfl ?_
    obtain ⟨x19, h20⟩ : ∃ y, FI r10 0 = y := ⟨_, rfl⟩
    have h20l := congrArg Int32.toInt h20
    have := i_rng x19
    refine hw_get (v := .int (x19)) (aX9_takeBase 7 rfl) wf_RX9_127 lt11 sh13 (by decide) (congrArg Value.int (show FI r10 0 = x19 from h20)) ?_
    refine hw_ifeq (tgt := 27) (aX9_takeBase 8 rfl) (by decide) rfl (fun cd21 => ?_) (fun cd21 => ?_)
    · refine hw_bp (v := (11 : Int32)) (aX9_takeBase 13 rfl) (by decide) ?_
      refine xw_iret (aX9_takeBase 14 rfl) rfl rfl ?_
      have e22 : ((11 : Int32)).toInt = 11 := (by decide : (11 : Int32).toInt = 11)
      exact ⟨(11 : Int32), rfl, FL, rfl, gf_rf⟩
    · refine hw_aloadn (aX9_takeBase 9 rfl) rfl ?_
      refine hw_get (v := .int (x19)) (aX9_takeBase 10 rfl) wf_RX9_127 lt11 sh13 (by decide) (congrArg Value.int (show FI r10 0 = x19 from h20)) ?_
      refine hw_ic (v := (4 : Int32)) (aX9_takeBase 11 rfl) (by decide) ?_
      refine hw_icne (tgt := 30) (aX9_takeBase 12 rfl) (by decide) rfl (by decide : (4 : Int32).toInt = 4) (fun cd23 => ?_) (fun cd23 => ?_)
      · refine hw_aloadn (aX9_takeBase 15 rfl) rfl ?_
        refine hw_aloadn (aX9_takeBase 16 rfl) rfl ?_
        refine hw_get (v := .int (x19)) (aX9_takeBase 17 rfl) wf_RX9_127 lt11 sh13 (by decide) (congrArg Value.int (show FI r10 0 = x19 from h20)) ?_
        refine hw_ic (v := (2 : Int32)) (aX9_takeBase 18 rfl) (by decide) ?_
        refine hw_icne (tgt := 53) (aX9_takeBase 19 rfl) (by decide) rfl (by decide : (2 : Int32).toInt = 2) (fun cd24 => ?_) (fun cd24 => ?_)
        · refine hw_aloadn (aX9_takeBase 26 rfl) rfl ?_
          obtain ⟨x25, h26⟩ : ∃ y, FL r10 1 = y := ⟨_, rfl⟩
          have h26l := congrArg Int64.toInt h26
          have := l_rng x25
          refine hw_get (v := .long (x25)) (aX9_takeBase 27 rfl) wf_RX9_259 lt11 sh13 (by decide) (congrArg Value.long (show FL r10 1 = x25 from h26)) ?_
          refine hv_putl (aX9_takeBase 28 rfl) wf_RX9_212 hc hsc (by decide) rfl rfl (fun FL27 u28 => ?_)
          refine hw_ic (v := (0 : Int32)) (aX9_takeBase 29 rfl) (by decide) ?_
          refine xw_iret (aX9_takeBase 30 rfl) rfl rfl ?_
          have e29 : ((0 : Int32)).toInt = 0 := (by decide : (0 : Int32).toInt = 0)
          exact ⟨(0 : Int32), rfl, FL27, rfl, (gf_t gf_rf u28 (shd_f (fix_t2 hS hR hc hsc (by unfold g_dt; omega) (by decide +kernel)) hsc) (by decide))⟩
        · refine hw_aloadn (aX9_takeBase 20 rfl) rfl ?_
          have h30 := g_nl (k := 0) (l := 23) hS hF hR hc hsc (by unfold g_dt; omega) (by decide +kernel)
          refine hw_get (v := .ref (base + 23)) (aX9_takeBase 21 rfl) wf_RX9_29 hc hsc (by decide) (congrArg (fun r => va_rf (h_rf base r)) (show FR c 0 = some 23 from h30)) ?_
          refine hw_aloadn (aX9_takeBase 22 rfl) rfl ?_
          obtain ⟨x31, h32⟩ : ∃ y, FL r10 1 = y := ⟨_, rfl⟩
          have h32l := congrArg Int64.toInt h32
          have := l_rng x31
          refine hw_get (v := .long (x31)) (aX9_takeBase 23 rfl) wf_RX9_259 lt11 sh13 (by decide) (congrArg Value.long (show FL r10 1 = x31 from h32)) ?_
          refine hw_callV (Bs := [.long (x31)]) (rest := [.ref (base + c)]) (aX9_takeBase 24 rfl) wc_RX9_162 (by decide) rfl wi_yX1_registerValue wv_yX1_registerValue (c23 hS) (s23 hS) rfl rfl rfl (Nat.le_of_ble_eq_true rfl) (Nat.le_of_ble_eq_true rfl) (k_X1_registerValue (d := d) hS hF hI hR (x31) ) (fun v33 sv34 p35 => ?_)
          obtain ⟨r36, rfl, rfl⟩ := p35
          have rg_r36 := l_rng r36
          show hw sk base _ _ _ _ _ [.long (r36), .ref (base + c)] _ _
          refine xw_goto (tgt := 57) (aX9_takeBase 25 rfl) (by decide) ?_
          refine hv_putl (aX9_takeBase 28 rfl) wf_RX9_212 hc hsc (by decide) rfl rfl (fun FL42 u43 => ?_)
          refine hw_ic (v := (0 : Int32)) (aX9_takeBase 29 rfl) (by decide) ?_
          refine xw_iret (aX9_takeBase 30 rfl) rfl rfl ?_
          have e44 : ((0 : Int32)).toInt = 0 := (by decide : (0 : Int32).toInt = 0)
          exact ⟨(0 : Int32), rfl, FL42, rfl, (gf_t gf_rf u43 (shd_f (fix_t2 hS hR hc hsc (by unfold g_dt; omega) (by decide +kernel)) hsc) (by decide))⟩
      · refine hw_bp (v := (11 : Int32)) (aX9_takeBase 13 rfl) (by decide) ?_
        refine xw_iret (aX9_takeBase 14 rfl) rfl rfl ?_
        have e45 : ((11 : Int32)).toInt = 11 := (by decide : (11 : Int32).toInt = 11)
        exact ⟨(11 : Int32), rfl, FL, rfl, gf_rf⟩
def nX9_restWithoutSign : Nat := 0xad652004160700a704160800991201b8200416043765692079046d207d041e1ead71201e07009b94091ead65201e0600a71e0700991201b8201e13009c940920ad0905009a940920
theorem bX9_restWithoutSign : cX9_restWithoutSign.data.toList.map UInt8.toNat = x_un nX9_restWithoutSign 72 := by decide +kernel
def iX9_restWithoutSign : List (Nat × Jvm.ClassFile.Instr × Nat) := [(0, .lload_n 2, 1), (1, .lconst 0, 1), (2, .lcmp, 1), (3, .ifCond .ne 5, 3), (6, .lconst 0, 1), (7, .lreturn, 1), (8, .lload_n 2, 1), (9, .lconst 0, 1), (10, .lcmp, 1), (11, .ifCond .ge 19, 3), (14, .lload_n 0, 1), (15, .lload_n 2, 1), (16, .invokestatic 274, 3), (19, .ifCond .eq 7, 3), (22, .lload_n 0, 1), (23, .goto 6, 3), (26, .lload_n 0, 1), (27, .lload_n 2, 1), (28, .lsub, 1), (29, .lreturn, 1), (30, .lload_n 0, 1), (31, .lconst 0, 1), (32, .lcmp, 1), (33, .ifCond .lt 7, 3), (36, .lload_n 0, 1), (37, .lload_n 2, 1), (38, .lrem, 1), (39, .lreturn, 1), (40, .lload_n 0, 1), (41, .lload_n 0, 1), (42, .iconst 1, 1), (43, .lushr, 1), (44, .lload_n 2, 1), (45, .ldiv, 1), (46, .iconst 1, 1), (47, .lshl, 1), (48, .lload_n 2, 1), (49, .lmul, 1), (50, .lsub, 1), (51, .lstore 4, 2), (53, .lload 4, 2), (55, .lload_n 2, 1), (56, .invokestatic 274, 3), (59, .ifCond .eq 8, 3), (62, .lload 4, 2), (64, .goto 7, 3), (67, .lload 4, 2), (69, .lload_n 2, 1), (70, .lsub, 1), (71, .lreturn, 1)]
theorem dX9_restWithoutSign : x_il nX9_restWithoutSign 72 iX9_restWithoutSign = true := by decide +kernel
theorem aX9_restWithoutSign (k : Nat) {pc : Nat} {i : Jvm.ClassFile.Instr} {len : Nat} (hk : iX9_restWithoutSign[k]? = some (pc, i, len)) : x_at xMM 115 pc i len yX9_restWithoutSign 6 (some .long) := ⟨cX9_restWithoutSign, rfl, x_il_ok bX9_restWithoutSign dX9_restWithoutSign k hk⟩
set_option maxHeartbeats 4000000 in
set_option maxRecDepth 100000 in
theorem k_X9_restWithoutSign {sk : xK} {base d n sl : Nat} {SH : Nat → Nat × Nat} {FI : Nat → Nat → Int32} {FL : Nat → Nat → Int64} {FR : Nat → Nat → Option Nat} (hS : h_S n SH) (hF : h_FR FR) (hI : g_I FI) (hR : g_R n SH FR) (a1 : Int64) (a2 : Int64) : hw sk base (d + 1) none 115 0 [(0, .long (a1)), (2, .long (a2))] [] (n, sl, SH, FI, FL, FR) (h_J (fun r s => s = (n, sl, SH, FI, FL, FR))) := by
  have rg_a1 := l_rng a1
  have rg_a2 := l_rng a2
  refine xw_lloadn (aX9_restWithoutSign 0 rfl) rfl ?_
  refine hw_lc (v := (0 : Int64)) (aX9_restWithoutSign 1 rfl) (by decide) ?_
  refine hw_lcne (tgt := 8) (aX9_restWithoutSign 2 rfl) (aX9_restWithoutSign 3 rfl) (by decide) rfl (by decide : (0 : Int64).toInt = 0) (fun cd1 => ?_) (fun cd1 => ?_)
  · refine xw_lloadn (aX9_restWithoutSign 6 rfl) rfl ?_
    refine hw_lc (v := (0 : Int64)) (aX9_restWithoutSign 7 rfl) (by decide) ?_
    refine hw_lcge (tgt := 30) (aX9_restWithoutSign 8 rfl) (aX9_restWithoutSign 9 rfl) (by decide) rfl (by decide : (0 : Int64).toInt = 0) (fun cd2 => ?_) (fun cd2 => ?_)
    · refine xw_lloadn (aX9_restWithoutSign 20 rfl) rfl ?_
      refine hw_lc (v := (0 : Int64)) (aX9_restWithoutSign 21 rfl) (by decide) ?_
      refine hw_lclt (tgt := 40) (aX9_restWithoutSign 22 rfl) (aX9_restWithoutSign 23 rfl) (by decide) rfl (by decide : (0 : Int64).toInt = 0) (fun cd3 => ?_) (fun cd3 => ?_)
      · refine xw_lloadn (aX9_restWithoutSign 28 rfl) rfl ?_
        refine xw_lloadn (aX9_restWithoutSign 29 rfl) rfl ?_
        refine hw_ic (v := (1 : Int32)) (aX9_restWithoutSign 30 rfl) (by decide) ?_
        refine xw_lushr (aX9_restWithoutSign 31 rfl) ?_
        refine hw_tl (fun x4 => ?_)
        have b5 := l_rng x4
        refine xw_lloadn (aX9_restWithoutSign 32 rfl) rfl ?_
        refine xw_ldiv (aX9_restWithoutSign 33 rfl) (l_ne0 rfl (by omega)) ?_
        refine hw_tl (fun x6 => ?_)
        have b7 := l_rng x6
        refine hw_ic (v := (1 : Int32)) (aX9_restWithoutSign 34 rfl) (by decide) ?_
        refine xw_lshl (aX9_restWithoutSign 35 rfl) ?_
        refine hw_tl (fun x8 => ?_)
        have b9 := l_rng x8
        refine xw_lloadn (aX9_restWithoutSign 36 rfl) rfl ?_
        refine xw_lmul (aX9_restWithoutSign 37 rfl) ?_
        refine hw_tl (fun x10 => ?_)
        have b11 := l_rng x10
        refine xw_lsub (aX9_restWithoutSign 38 rfl) ?_
        refine hw_tl (fun x12 => ?_)
        have b13 := l_rng x12
        refine xw_lstore (L2 := [(4, .long (x12)), (0, .long (a1)), (2, .long (a2))]) (aX9_restWithoutSign 39 rfl) (by decide) rfl ?_
        refine xw_lload (aX9_restWithoutSign 40 rfl) rfl ?_
        refine xw_lloadn (aX9_restWithoutSign 41 rfl) rfl ?_
        refine hw_callS (As := [.long (x12), .long (a2)]) (rest := []) (aX9_restWithoutSign 42 rfl) wc_RX9_274 (by decide) rfl wt_yX11_isBelow rfl rfl (Nat.le_of_ble_eq_true rfl) (Nat.le_of_ble_eq_true rfl) (k_X11_isBelow (d := d) hS hF hI hR (x12) (a2) ) (fun v14 sv15 p16 => ?_)
        obtain ⟨r17, rfl, rfl, t21⟩ := p16
        show hw sk base _ _ _ _ _ [.int (r17)] _ _
        refine hw_ifeq (tgt := 67) (aX9_restWithoutSign 43 rfl) (by decide) rfl (fun cd24 => ?_) (fun cd24 => ?_)
        · refine xw_lload (aX9_restWithoutSign 46 rfl) rfl ?_
          refine xw_lloadn (aX9_restWithoutSign 47 rfl) rfl ?_
          refine xw_lsub (aX9_restWithoutSign 48 rfl) ?_
          refine hw_tl (fun x25 => ?_)
          have b26 := l_rng x25
          refine xw_lret (aX9_restWithoutSign 49 rfl) rfl ?_
          exact ⟨x25, rfl, rfl⟩
        · refine xw_lload (aX9_restWithoutSign 44 rfl) rfl ?_
          refine xw_goto (tgt := 71) (aX9_restWithoutSign 45 rfl) (by decide) ?_
          refine xw_lret (aX9_restWithoutSign 49 rfl) rfl ?_
          exact ⟨x12, rfl, rfl⟩
      · refine xw_lloadn (aX9_restWithoutSign 24 rfl) rfl ?_
        refine xw_lloadn (aX9_restWithoutSign 25 rfl) rfl ?_
        refine xw_lrem (aX9_restWithoutSign 26 rfl) (l_ne0 rfl (by omega)) ?_
        refine hw_tl (fun x27 => ?_)
        have b28 := l_rng x27
        refine xw_lret (aX9_restWithoutSign 27 rfl) rfl ?_
        exact ⟨x27, rfl, rfl⟩
    · refine xw_lloadn (aX9_restWithoutSign 10 rfl) rfl ?_
      refine xw_lloadn (aX9_restWithoutSign 11 rfl) rfl ?_
      refine hw_callS (As := [.long (a1), .long (a2)]) (rest := []) (aX9_restWithoutSign 12 rfl) wc_RX9_274 (by decide) rfl wt_yX11_isBelow rfl rfl (Nat.le_of_ble_eq_true rfl) (Nat.le_of_ble_eq_true rfl) (k_X11_isBelow (d := d) hS hF hI hR (a1) (a2) ) (fun v29 sv30 p31 => ?_)
      obtain ⟨r32, rfl, rfl, t36⟩ := p31
      show hw sk base _ _ _ _ _ [.int (r32)] _ _
      refine hw_ifeq (tgt := 26) (aX9_restWithoutSign 13 rfl) (by decide) rfl (fun cd39 => ?_) (fun cd39 => ?_)
      · refine xw_lloadn (aX9_restWithoutSign 16 rfl) rfl ?_
        refine xw_lloadn (aX9_restWithoutSign 17 rfl) rfl ?_
        refine xw_lsub (aX9_restWithoutSign 18 rfl) ?_
        refine hw_tl (fun x40 => ?_)
        have b41 := l_rng x40
        refine xw_lret (aX9_restWithoutSign 19 rfl) rfl ?_
        exact ⟨x40, rfl, rfl⟩
      · refine xw_lloadn (aX9_restWithoutSign 14 rfl) rfl ?_
        refine xw_goto (tgt := 29) (aX9_restWithoutSign 15 rfl) (by decide) ?_
        refine xw_lret (aX9_restWithoutSign 19 rfl) rfl ?_
        exact ⟨a1, rfl, rfl⟩
  · refine hw_lc (v := (0 : Int64)) (aX9_restWithoutSign 4 rfl) (by decide) ?_
    refine xw_lret (aX9_restWithoutSign 5 rfl) rfl ?_
    have e42 : ((0 : Int64)).toInt = 0 := (by decide : (0 : Int64).toInt = 0)
    exact ⟨(0 : Int64), rfl, rfl⟩
