def nX9_start : Nat := 0xac05153100b5641c1d2a05362d00b62a10009a051505362900b6031d1c2b2a2500b60304152a
theorem bX9_start : cX9_start.data.toList.map UInt8.toNat = x_un nX9_start 38 := by decide +kernel
def iX9_start : List (Nat × Jvm.ClassFile.Instr × Nat) := [(0, .aload_n 0, 1), (1, .iload 4, 2), (3, .iconst 0, 1), (4, .invokevirtual 37, 3), (7, .aload_n 0, 1), (8, .aload_n 1, 1), (9, .iload_n 2, 1), (10, .iload_n 3, 1), (11, .iconst 0, 1), (12, .invokevirtual 41, 3), (15, .istore 5, 2), (17, .iload 5, 2), (19, .ifCond .ne 16, 3), (22, .aload_n 0, 1), (23, .invokevirtual 45, 3), (26, .istore 5, 2), (28, .aload_n 0, 1), (29, .iload_n 3, 1), (30, .iload_n 2, 1), (31, .isub, 1), (32, .putfield 49, 3), (35, .iload 5, 2), (37, .ireturn, 1)]
theorem dX9_start : x_il nX9_start 38 iX9_start = true := by decide +kernel
theorem aX9_start (k : Nat) {pc : Nat} {i : Jvm.ClassFile.Instr} {len : Nat} (hk : iX9_start[k]? = some (pc, i, len)) : x_at xMM 85 pc i len yX9_start 6 (some .int) := ⟨cX9_start, rfl, x_il_ok bX9_start dX9_start k hk⟩
set_option maxHeartbeats 4000000 in
set_option maxRecDepth 100000 in
theorem k_X9_start {sk : xK} {base d n sl : Nat} {SH : Nat → Nat × Nat} {FI : Nat → Nat → Int32} {FL : Nat → Nat → Int64} {FR : Nat → Nat → Option Nat} (hS : h_S n SH) (hF : h_FR FR) (hI : g_I FI) (hR : g_R n SH FR) (a1 : Nat) {z1 : Nat} (ha1l : a1 < n) (ha1s : SH a1 = (100, z1)) (ha1o : own a1) (a2 : Int32) (a3 : Int32) (a4 : Int32) : hw sk base (d + 532) none 85 0 [(0, .ref (base + 48)), (1, .ref (base + a1)), (2, .int (a2)), (3, .int (a3)), (4, .int (a4))] [] (n, sl, SH, FI, FL, FR) (h_I (fun r s => ∃ FI' FL' FR', s = (n, sl, SH, FI', FL', FR') ∧ g_I FI' ∧ g_fr n (shd SH) [(48, 5), (48, 6), (48, 7), (48, 8), (48, 9), (48, 10), (48, 11), (49, 5), (49, 6), (49, 7), (49, 8), (49, 9), (49, 10), (49, 11)] [] [5, 8, 9] FI FI' ∧ g_fr n (shd SH) [(48, 12), (48, 13), (48, 14), (48, 15), (49, 12), (49, 13), (49, 14), (49, 15)] [] [5, 9, 101] FL FL' ∧ g_fr n (shd SH) [] [] [5] FR FR' ∧ h_FR FR' ∧ g_R n SH FR')) := by
  have rg_a2 := i_rng a2
  have rg_a3 := i_rng a3
  have rg_a4 := i_rng a4
  refine hw_aloadn (aX9_start 0 rfl) rfl ?_
  refine xw_iload (aX9_start 1 rfl) rfl ?_
  refine hw_ic (v := (0 : Int32)) (aX9_start 2 rfl) (by decide) ?_
  refine hw_callV (Bs := [.int (a4), .int ((0 : Int32))]) (rest := []) (aX9_start 3 rfl) wc_RX9_37 (by decide) rfl wi_yX9_reset wv_yX9_reset (c48 hS) (s48 hS) rfl rfl rfl (Nat.le_of_ble_eq_true rfl) (Nat.le_of_ble_eq_true rfl) (k_X9_reset (d := d + 529) hS hF hI hR (48) (c48 hS) (s48 hS) (Or.inl (by decide)) (a4) ((0 : Int32)) ) (fun v1 sv2 p3 => ?_)
  obtain ⟨rfl, FI5, FL6, rfl, hI7, f8, f9⟩ := p3
  show hw sk base _ _ _ _ _ [] _ _
  refine hw_aloadn (aX9_start 4 rfl) rfl ?_
  refine hw_aloadn (aX9_start 5 rfl) rfl ?_
  refine xw_iloadn (aX9_start 6 rfl) rfl ?_
  refine xw_iloadn (aX9_start 7 rfl) rfl ?_
  refine hw_ic (v := (0 : Int32)) (aX9_start 8 rfl) (by decide) ?_
  refine hw_callV (Bs := [.ref (base + a1), .int (a2), .int (a3), .int ((0 : Int32))]) (rest := []) (aX9_start 9 rfl) wc_RX9_41 (by decide) rfl wi_yX9_perform wv_yX9_perform (c48 hS) (s48 hS) rfl rfl rfl (Nat.le_of_ble_eq_true rfl) (Nat.le_of_ble_eq_true rfl) (k_perform48 (d := d) hS hF hI7 hR (a1) ha1l ha1s ha1o (a2) (a3) ((0 : Int32)) (by have := ((by decide : (0 : Int32).toInt = 0) : ((0 : Int32)).toInt = 0); have := ((by decide : (0 : Int32).toInt = 0) : ((0 : Int32)).toInt = 0); omega)) (fun v14 sv15 p16 => ?_)
  obtain ⟨r17, rfl, FI18, FL19, FR20, rfl, hI21, f22, f23, f24, hF25, hR26⟩ := p16
  have rg_r17 := i_rng r17
  show hw sk base _ _ _ _ _ [.int (r17)] _ _
  refine xw_istore (L2 := [(5, .int (r17)), (0, .ref (base + 48)), (1, .ref (base + a1)), (2, .int (a2)), (3, .int (a3)), (4, .int (a4))]) (aX9_start 10 rfl) (by decide) rfl ?_
  refine xw_iload (aX9_start 11 rfl) rfl ?_
  refine hw_ifne (tgt := 35) (aX9_start 12 rfl) (by decide) rfl (fun cd29 => ?_) (fun cd29 => ?_)
  · refine xw_iload (aX9_start 21 rfl) rfl ?_
    refine xw_iret (aX9_start 22 rfl) rfl rfl ?_
    exact ⟨r17, rfl, FI18, FL19, FR20, rfl, hI21, (gf_tr ex_rf (gf_tr ex_rf gf_rf f8 rfl rfl rfl) f22 rfl rfl rfl), (gf_tr ex_rf (gf_tr ex_rf gf_rf f9 rfl rfl rfl) f23 rfl rfl rfl), (gf_tr ex_rf gf_rf f24 rfl rfl rfl), hF25, hR26⟩
  · refine hw_aloadn (aX9_start 13 rfl) rfl ?_
    refine hw_callV (Bs := []) (rest := []) (aX9_start 14 rfl) wc_RX9_45 (by decide) rfl wi_yX9_settle wv_yX9_settle (c48 hS) (s48 hS) rfl rfl rfl (Nat.le_of_ble_eq_true rfl) (Nat.le_of_ble_eq_true rfl) (k_X9_settle (d := d + 529) hS hF25 hI21 hR26 (48) (c48 hS) (s48 hS) (Or.inl (by decide)) ) (fun v30 sv31 p32 => ?_)
    obtain ⟨r33, rfl, FI34, FL35, FR36, rfl, hI37, f38, f39, f40, hF41, hR42⟩ := p32
    have rg_r33 := i_rng r33
    show hw sk base _ _ _ _ _ [.int (r33)] _ _
    refine xw_istore (L2 := [(5, .int (r33)), (0, .ref (base + 48)), (1, .ref (base + a1)), (2, .int (a2)), (3, .int (a3)), (4, .int (a4))]) (aX9_start 15 rfl) (by decide) rfl ?_
    refine hw_aloadn (aX9_start 16 rfl) rfl ?_
    refine xw_iloadn (aX9_start 17 rfl) rfl ?_
    refine xw_iloadn (aX9_start 18 rfl) rfl ?_
    refine xw_isub (aX9_start 19 rfl) ?_
    have := i_rng ((a3) - (a2))
    refine hv_puti (aX9_start 20 rfl) wf_RX9_49 (c48 hS) (s48 hS) (by decide) rfl rfl (fun FI45 u46 => ?_)
    have hI47 : g_I FI45 := gU_F hI37 u46 rfl
    refine xw_iload (aX9_start 21 rfl) rfl ?_
    refine xw_iret (aX9_start 22 rfl) rfl rfl ?_
    exact ⟨r33, rfl, FI45, FL35, FR36, rfl, hI47, (gf_f (gf_tr ex_rf (gf_tr ex_rf (gf_tr ex_rf gf_rf f8 rfl rfl rfl) f22 rfl rfl rfl) f38 rfl rfl rfl) u46 (by decide)), (gf_tr ex_rf (gf_tr ex_rf (gf_tr ex_rf gf_rf f9 rfl rfl rfl) f23 rfl rfl rfl) f39 rfl rfl rfl), (gf_tr ex_rf (gf_tr ex_rf gf_rf f24 rfl rfl rfl) f40 rfl rfl rfl), hF41, hR42⟩
