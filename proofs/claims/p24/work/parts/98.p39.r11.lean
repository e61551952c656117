section
def nX12_adds : Nat := 0xac030400a70407009a948b02142f1b6c00b42a100099945d02142f1b6c00b42a2100a0082e1b6900b42a
theorem bX12_adds : cX12_adds.data.toList.map UInt8.toNat = x_un nX12_adds 42 := by decide +kernel
def iX12_adds : List (Nat × Jvm.ClassFile.Instr × Nat) := [(0, .aload_n 0, 1), (1, .getfield 105, 3), (4, .iload_n 1, 1), (5, .iaload, 1), (6, .iconst 5, 1), (7, .if_icmp .ne 33, 3), (10, .aload_n 0, 1), (11, .getfield 108, 3), (14, .iload_n 1, 1), (15, .laload, 1), (16, .ldc2_w 605, 3), (19, .lcmp, 1), (20, .ifCond .eq 16, 3), (23, .aload_n 0, 1), (24, .getfield 108, 3), (27, .iload_n 1, 1), (28, .laload, 1), (29, .ldc2_w 651, 3), (32, .lcmp, 1), (33, .ifCond .ne 7, 3), (36, .iconst 1, 1), (37, .goto 4, 3), (40, .iconst 0, 1), (41, .ireturn, 1)]
theorem dX12_adds : x_il nX12_adds 42 iX12_adds = true := by decide +kernel
theorem aX12_adds (k : Nat) {pc : Nat} {i : Jvm.ClassFile.Instr} {len : Nat} (hk : iX12_adds[k]? = some (pc, i, len)) : x_at xMM 250 pc i len yX12_adds 2 (some .boolean) := ⟨cX12_adds, rfl, x_il_ok bX12_adds dX12_adds k hk⟩
set_option maxHeartbeats 4000000 in
set_option maxRecDepth 100000 in
theorem n_adds {zk : xK} {base d n sl : Nat} {SH : Nat → Nat × Nat} {FI : Nat → Nat → Int32} {FL : Nat → Nat → Int64} {FR : Nat → Nat → Option Nat} (hS : h_S n SH) (hF : h_FR FR) (hI : g_I FI) (a1 : Int32) (g0 : (a1).toInt ≤ (FI 121 67).toInt - 1) (g1 : 0 ≤ (a1).toInt ∧ (a1).toInt ≤ 1000) (rel_tend : rl_e (FI 149) (FI 121 67)) : hw zk base d none 250 0 [(0, .ref (base + 121)), (1, .int (a1))] [] (n, sl, SH, FI, FL, FR) (h_I (fun r s => s = (n, sl, SH, FI, FL, FR) ∧ (r.toInt = 1 → (a1).toInt < (FI 121 67).toInt - 1) ∧ (0 ≤ r.toInt ∧ r.toInt ≤ 1) ∧ ((r.toInt = 1 ↔ (kf (FI 149) (a1).toInt.toNat = 5 ∧ (wf (FL 150) (a1).toInt.toNat = 43 ∨ wf (FL 150) (a1).toInt.toNat = 45)))))) := by
  have rg_a1 := i_rng a1
  obtain ⟨x1, h2⟩ : ∃ y, FI 121 67 = y := ⟨_, rfl⟩
  have h2l := congrArg Int32.toInt h2
  have b3 := gI_121_67 hI; rw [h2] at b3
  refine hw_aloadn (aX12_adds 0 rfl) rfl ?_
  refine hw_get (v := .ref (base + 149)) (aX12_adds 1 rfl) wf_RX12_105 (c121 hS) (s121 hS) (by decide) (congrArg (fun r => va_rf (h_rf base r)) (r121_62 hF)) ?_
  refine xw_iloadn (aX12_adds 2 rfl) rfl ?_
  obtain ⟨x4, h5⟩ : ∃ y, FI 149 (a1).toNatClampNeg = y := ⟨_, rfl⟩
  have h5l := congrArg Int32.toInt h5
  have := i_rng x4
  refine hw_iald (v := x4) (aX12_adds 3 rfl) (c149 hS) (s149 hS) (h_in rfl (by omega) (by omega)) (show FI 149 (a1).toNatClampNeg = x4 from h5) ?_
  refine hw_ic (v := (5 : Int32)) (aX12_adds 4 rfl) (by decide) ?_
  refine hw_icne (tgt := 40) (aX12_adds 5 rfl) (by decide) rfl (by decide : (5 : Int32).toInt = 5) (fun cd6 => ?_) (fun cd6 => ?_)
  · refine hw_ic (v := (0 : Int32)) (aX12_adds 22 rfl) (by decide) ?_
    refine xw_iret (aX12_adds 23 rfl) rfl (by decide) ?_
    have e7 : ((0 : Int32)).toInt = 0 := (by decide : (0 : Int32).toInt = 0)
    exact ⟨(0 : Int32), rfl, rfl, (by have : ((0 : Int32)).toInt = 0 := (by decide); omega), (by have : ((0 : Int32)).toInt = 0 := (by decide); omega), (by have e : (a1).toInt.toNat = (a1).toNatClampNeg := (i_cl rfl).symm; unfold kf wf; rw [e]; have hz : (((0 : Int32))).toInt = 0 := (by decide : (0 : Int32).toInt = 0); have := congrArg Int32.toInt (h5); omega)⟩
  · have hne := rl_e_ne rel_tend (t := a1) (by omega)
    refine hw_aloadn (aX12_adds 6 rfl) rfl ?_
    refine hw_get (v := .ref (base + 150)) (aX12_adds 7 rfl) wf_RX12_108 (c121 hS) (s121 hS) (by decide) (congrArg (fun r => va_rf (h_rf base r)) (r121_63 hF)) ?_
    refine xw_iloadn (aX12_adds 8 rfl) rfl ?_
    obtain ⟨x8, h9⟩ : ∃ y, FL 150 (a1).toNatClampNeg = y := ⟨_, rfl⟩
    have h9l := congrArg Int64.toInt h9
    have := l_rng x8
    refine hw_lald (v := x8) (aX12_adds 9 rfl) (c150 hS) (s150 hS) (h_in rfl (by omega) (by omega)) (show FL 150 (a1).toNatClampNeg = x8 from h9) ?_
    refine xw_ldc2 (aX12_adds 10 rfl) wk_RX12_605 ?_
    refine hw_lceq (tgt := 36) (aX12_adds 11 rfl) (aX12_adds 12 rfl) (by decide) rfl (by decide : (43 : Int64).toInt = 43) (fun cd10 => ?_) (fun cd10 => ?_)
    · refine hw_ic (v := (1 : Int32)) (aX12_adds 20 rfl) (by decide) ?_
      refine xw_goto (tgt := 41) (aX12_adds 21 rfl) (by decide) ?_
      refine xw_iret (aX12_adds 23 rfl) rfl (by decide) ?_
      have e11 : ((1 : Int32)).toInt = 1 := (by decide : (1 : Int32).toInt = 1)
      exact ⟨(1 : Int32), rfl, rfl, (by have : ((1 : Int32)).toInt = 1 := (by decide); omega), (by have : ((1 : Int32)).toInt = 1 := (by decide); omega), (by have e : (a1).toInt.toNat = (a1).toNatClampNeg := (i_cl rfl).symm; unfold kf wf; rw [e]; have hz : (((1 : Int32))).toInt = 1 := (by decide : (1 : Int32).toInt = 1); have := congrArg Int32.toInt (h5); have := congrArg Int64.toInt (h9); omega)⟩
    · refine hw_aloadn (aX12_adds 13 rfl) rfl ?_
      refine hw_get (v := .ref (base + 150)) (aX12_adds 14 rfl) wf_RX12_108 (c121 hS) (s121 hS) (by decide) (congrArg (fun r => va_rf (h_rf base r)) (r121_63 hF)) ?_
      refine xw_iloadn (aX12_adds 15 rfl) rfl ?_
      refine hw_lald (v := x8) (aX12_adds 16 rfl) (c150 hS) (s150 hS) (h_in rfl (by omega) (by omega)) (show FL 150 (a1).toNatClampNeg = x8 from h9) ?_
      refine xw_ldc2 (aX12_adds 17 rfl) wk_RX12_651 ?_
      refine hw_lcne (tgt := 40) (aX12_adds 18 rfl) (aX12_adds 19 rfl) (by decide) rfl (by decide : (45 : Int64).toInt = 45) (fun cd12 => ?_) (fun cd12 => ?_)
      · refine hw_ic (v := (0 : Int32)) (aX12_adds 22 rfl) (by decide) ?_
        refine xw_iret (aX12_adds 23 rfl) rfl (by decide) ?_
        have e13 : ((0 : Int32)).toInt = 0 := (by decide : (0 : Int32).toInt = 0)
        exact ⟨(0 : Int32), rfl, rfl, (by have : ((0 : Int32)).toInt = 0 := (by decide); omega), (by have : ((0 : Int32)).toInt = 0 := (by decide); omega), (by have e : (a1).toInt.toNat = (a1).toNatClampNeg := (i_cl rfl).symm; unfold kf wf; rw [e]; have hz : (((0 : Int32))).toInt = 0 := (by decide : (0 : Int32).toInt = 0); have := congrArg Int32.toInt (h5); have := congrArg Int64.toInt (h9); omega)⟩
      · refine hw_ic (v := (1 : Int32)) (aX12_adds 20 rfl) (by decide) ?_
        refine xw_goto (tgt := 41) (aX12_adds 21 rfl) (by decide) ?_
        refine xw_iret (aX12_adds 23 rfl) rfl (by decide) ?_
        have e14 : ((1 : Int32)).toInt = 1 := (by decide : (1 : Int32).toInt = 1)
        exact ⟨(1 : Int32), rfl, rfl, (by have : ((1 : Int32)).toInt = 1 := (by decide); omega), (by have : ((1 : Int32)).toInt = 1 := (by decide); omega), (by have e : (a1).toInt.toNat = (a1).toNatClampNeg := (i_cl rfl).symm; unfold kf wf; rw [e]; have hz : (((1 : Int32))).toInt = 1 := (by decide : (1 : Int32).toInt = 1); have := congrArg Int32.toInt (h5); have := congrArg Int64.toInt (h9); omega)⟩
def nX12_isAlone : Nat := 0xac030400a7040700a0025f02b62f60041b6c00b42a2e60041b6900b42a2a1f00a0062e1b6900b42a
theorem bX12_isAlone : cX12_isAlone.data.toList.map UInt8.toNat = x_un nX12_isAlone 40 := by decide +kernel
def iX12_isAlone : List (Nat × Jvm.ClassFile.Instr × Nat) := [(0, .aload_n 0, 1), (1, .getfield 105, 3), (4, .iload_n 1, 1), (5, .iaload, 1), (6, .iconst 3, 1), (7, .if_icmp .ne 31, 3), (10, .aload_n 0, 1), (11, .aload_n 0, 1), (12, .getfield 105, 3), (15, .iload_n 1, 1), (16, .iconst 1, 1), (17, .iadd, 1), (18, .iaload, 1), (19, .aload_n 0, 1), (20, .getfield 108, 3), (23, .iload_n 1, 1), (24, .iconst 1, 1), (25, .iadd, 1), (26, .laload, 1), (27, .invokevirtual 607, 3), (30, .iconst (-1), 1), (31, .if_icmp .ne 7, 3), (34, .iconst 1, 1), (35, .goto 4, 3), (38, .iconst 0, 1), (39, .ireturn, 1)]
theorem dX12_isAlone : x_il nX12_isAlone 40 iX12_isAlone = true := by decide +kernel
theorem aX12_isAlone (k : Nat) {pc : Nat} {i : Jvm.ClassFile.Instr} {len : Nat} (hk : iX12_isAlone[k]? = some (pc, i, len)) : x_at xMM 249 pc i len yX12_isAlone 2 (some .boolean) := ⟨cX12_isAlone, rfl, x_il_ok bX12_isAlone dX12_isAlone k hk⟩
set_option maxHeartbeats 4000000 in
set_option maxRecDepth 100000 in
theorem n_isAlone {zk : xK} {base d n sl : Nat} {SH : Nat → Nat × Nat} {FI : Nat → Nat → Int32} {FL : Nat → Nat → Int64} {FR : Nat → Nat → Option Nat} (hS : h_S n SH) (hF : h_FR FR) (hI : g_I FI) (a1 : Int32) (g0 : (a1).toInt ≤ (FI 121 67).toInt - 1) (g1 : 0 ≤ (a1).toInt ∧ (a1).toInt ≤ 1000) (rel_tend : rl_e (FI 149) (FI 121 67)) : hw zk base (d + 1) none 249 0 [(0, .ref (base + 121)), (1, .int (a1))] [] (n, sl, SH, FI, FL, FR) (h_I (fun r s => s = (n, sl, SH, FI, FL, FR) ∧ (r.toInt = 1 → (a1).toInt < (FI 121 67).toInt - 1) ∧ (0 ≤ r.toInt ∧ r.toInt ≤ 1) ∧ ((r.toInt = 1 ↔ (kf (FI 149) (a1).toInt.toNat = 3 ∧ au_bn (kf (FI 149) ((a1).toInt.toNat + 1)) (wf (FL 150) ((a1).toInt.toNat + 1)) ≠ 7))))) := by
  have rg_a1 := i_rng a1
  obtain ⟨x1, h2⟩ : ∃ y, FI 121 67 = y := ⟨_, rfl⟩
  have h2l := congrArg Int32.toInt h2
  have b3 := gI_121_67 hI; rw [h2] at b3
  refine hw_aloadn (aX12_isAlone 0 rfl) rfl ?_
  refine hw_get (v := .ref (base + 149)) (aX12_isAlone 1 rfl) wf_RX12_105 (c121 hS) (s121 hS) (by decide) (congrArg (fun r => va_rf (h_rf base r)) (r121_62 hF)) ?_
  refine xw_iloadn (aX12_isAlone 2 rfl) rfl ?_
  obtain ⟨x4, h5⟩ : ∃ y, FI 149 (a1).toNatClampNeg = y := ⟨_, rfl⟩
  have h5l := congrArg Int32.toInt h5
  have := i_rng x4
  refine hw_iald (v := x4) (aX12_isAlone 3 rfl) (c149 hS) (s149 hS) (h_in rfl (by omega) (by omega)) (show FI 149 (a1).toNatClampNeg = x4 from h5) ?_
  refine hw_ic (v := (3 : Int32)) (aX12_isAlone 4 rfl) (by decide) ?_
  refine hw_icne (tgt := 38) (aX12_isAlone 5 rfl) (by decide) rfl (by decide : (3 : Int32).toInt = 3) (fun cd6 => ?_) (fun cd6 => ?_)
  · refine hw_ic (v := (0 : Int32)) (aX12_isAlone 24 rfl) (by decide) ?_
    refine xw_iret (aX12_isAlone 25 rfl) rfl (by decide) ?_
    have e7 : ((0 : Int32)).toInt = 0 := (by decide : (0 : Int32).toInt = 0)
    exact ⟨(0 : Int32), rfl, rfl, (by have : ((0 : Int32)).toInt = 0 := (by decide); omega), (by have : ((0 : Int32)).toInt = 0 := (by decide); omega), (by have ea : kf (FI 149) (a1).toInt.toNat = (x4).toInt := (by { have e : (a1).toInt.toNat = (a1).toNatClampNeg := by { rw [i_cl (x := a1) rfl]; try omega }; show (FI 149 ((a1).toInt.toNat)).toInt = (x4).toInt; rw [e, show FI 149 (a1).toNatClampNeg = x4 from h5]; try omega }); rw [ea]; have hz : (((0 : Int32))).toInt = 0 := (by decide : (0 : Int32).toInt = 0); exact ⟨fun h => absurd h (by omega), fun h => absurd h.1 (by omega)⟩)⟩
  · have hne := rl_e_ne rel_tend (t := a1) (by omega)
    refine hw_aloadn (aX12_isAlone 6 rfl) rfl ?_
    refine hw_aloadn (aX12_isAlone 7 rfl) rfl ?_
    refine hw_get (v := .ref (base + 149)) (aX12_isAlone 8 rfl) wf_RX12_105 (c121 hS) (s121 hS) (by decide) (congrArg (fun r => va_rf (h_rf base r)) (r121_62 hF)) ?_
    refine xw_iloadn (aX12_isAlone 9 rfl) rfl ?_
    refine hw_ic (v := (1 : Int32)) (aX12_isAlone 10 rfl) (by decide) ?_
    refine xw_iadd (aX12_isAlone 11 rfl) ?_
    refine hw_tie (A := ((a1).toInt) + (1)) (i_add rfl (by decide : (1 : Int32).toInt = 1) (by omega) (by omega)) (fun x8 e9 => ?_)
    obtain ⟨x10, h11⟩ : ∃ y, FI 149 (x8).toNatClampNeg = y := ⟨_, rfl⟩
    have h11l := congrArg Int32.toInt h11
    have := i_rng x10
    refine hw_iald (v := x10) (aX12_isAlone 12 rfl) (c149 hS) (s149 hS) (h_in e9 (by omega) (by omega)) (show FI 149 (x8).toNatClampNeg = x10 from h11) ?_
    refine hw_aloadn (aX12_isAlone 13 rfl) rfl ?_
    refine hw_get (v := .ref (base + 150)) (aX12_isAlone 14 rfl) wf_RX12_108 (c121 hS) (s121 hS) (by decide) (congrArg (fun r => va_rf (h_rf base r)) (r121_63 hF)) ?_
    refine xw_iloadn (aX12_isAlone 15 rfl) rfl ?_
    refine hw_ic (v := (1 : Int32)) (aX12_isAlone 16 rfl) (by decide) ?_
    refine xw_iadd (aX12_isAlone 17 rfl) ?_
    refine hw_tie (A := ((a1).toInt) + (1)) (i_add rfl (by decide : (1 : Int32).toInt = 1) (by omega) (by omega)) (fun x12 e13 => ?_)
    obtain ⟨x14, h15⟩ : ∃ y, FL 150 (x12).toNatClampNeg = y := ⟨_, rfl⟩
    have h15l := congrArg Int64.toInt h15
    have := l_rng x14
    refine hw_lald (v := x14) (aX12_isAlone 18 rfl) (c150 hS) (s150 hS) (h_in e13 (by omega) (by omega)) (show FL 150 (x12).toNatClampNeg = x14 from h15) ?_
    refine hw_callV (Bs := [.int (x10), .long (x14)]) (rest := []) (aX12_isAlone 19 rfl) wc_RX12_607 (by decide) rfl wi_yX12_multiplies wv_yX12_multiplies (c121 hS) (s121 hS) rfl rfl rfl (Nat.le_of_ble_eq_true rfl) (Nat.le_of_ble_eq_true rfl) (n_multiplies (d := d) hS hF hI (x10) (x14) ) (fun v16 sv17 p18 => ?_)
    obtain ⟨r19, rfl, rfl, t21, t22, t23⟩ := p18
    have rg_r19 := i_rng r19
    show hw zk base _ _ _ _ _ [.int (r19)] _ _
    refine hw_ic (v := ((-1) : Int32)) (aX12_isAlone 20 rfl) (by decide) ?_
    refine hw_icne (tgt := 38) (aX12_isAlone 21 rfl) (by decide) rfl (by decide : ((-1) : Int32).toInt = (-1)) (fun cd24 => ?_) (fun cd24 => ?_)
    · refine hw_ic (v := (0 : Int32)) (aX12_isAlone 24 rfl) (by decide) ?_
      refine xw_iret (aX12_isAlone 25 rfl) rfl (by decide) ?_
      have e25 : ((0 : Int32)).toInt = 0 := (by decide : (0 : Int32).toInt = 0)
      exact ⟨(0 : Int32), rfl, rfl, (by have : ((0 : Int32)).toInt = 0 := (by decide); omega), (by have : ((0 : Int32)).toInt = 0 := (by decide); omega), (by have ea : kf (FI 149) (a1).toInt.toNat = (x4).toInt := (by { have e : (a1).toInt.toNat = (a1).toNatClampNeg := by { rw [i_cl (x := a1) rfl]; try omega }; show (FI 149 ((a1).toInt.toNat)).toInt = (x4).toInt; rw [e, show FI 149 (a1).toNatClampNeg = x4 from h5]; try omega }); rw [ea]; have hz : (((0 : Int32))).toInt = 0 := (by decide : (0 : Int32).toInt = 0); have ek : kf (FI 149) ((a1).toInt.toNat + 1) = (x10).toInt := (by { have e : (a1).toInt.toNat + 1 = (x8).toNatClampNeg := by { rw [i_cl (x := x8) rfl]; try omega }; show (FI 149 ((a1).toInt.toNat + 1)).toInt = (x10).toInt; rw [e, show FI 149 (x8).toNatClampNeg = x10 from h11]; try omega }); have ew : wf (FL 150) ((a1).toInt.toNat + 1) = (x14).toInt := (by { have e : (a1).toInt.toNat + 1 = (x12).toNatClampNeg := by { rw [i_cl (x := x12) rfl]; try omega }; show (FL 150 ((a1).toInt.toNat + 1)).toInt = (x14).toInt; rw [e, show FL 150 (x12).toNatClampNeg = x14 from h15]; try omega }); rw [ek, ew]; exact ⟨fun h => absurd h (by omega), fun h => absurd (au_bn_7.mpr (hid_e t22 (by omega))) h.2⟩)⟩
    · refine hw_ic (v := (1 : Int32)) (aX12_isAlone 22 rfl) (by decide) ?_
      refine xw_goto (tgt := 39) (aX12_isAlone 23 rfl) (by decide) ?_
      refine xw_iret (aX12_isAlone 25 rfl) rfl (by decide) ?_
      have e26 : ((1 : Int32)).toInt = 1 := (by decide : (1 : Int32).toInt = 1)
      exact ⟨(1 : Int32), rfl, rfl, (by have : ((1 : Int32)).toInt = 1 := (by decide); omega), (by have : ((1 : Int32)).toInt = 1 := (by decide); omega), (by have ea : kf (FI 149) (a1).toInt.toNat = (x4).toInt := (by { have e : (a1).toInt.toNat = (a1).toNatClampNeg := by { rw [i_cl (x := a1) rfl]; try omega }; show (FI 149 ((a1).toInt.toNat)).toInt = (x4).toInt; rw [e, show FI 149 (a1).toNatClampNeg = x4 from h5]; try omega }); rw [ea]; have hz : (((1 : Int32))).toInt = 1 := (by decide : (1 : Int32).toInt = 1); have ek : kf (FI 149) ((a1).toInt.toNat + 1) = (x10).toInt := (by { have e : (a1).toInt.toNat + 1 = (x8).toNatClampNeg := by { rw [i_cl (x := x8) rfl]; try omega }; show (FI 149 ((a1).toInt.toNat + 1)).toInt = (x10).toInt; rw [e, show FI 149 (x8).toNatClampNeg = x10 from h11]; try omega }); have ew : wf (FL 150) ((a1).toInt.toNat + 1) = (x14).toInt := (by { have e : (a1).toInt.toNat + 1 = (x12).toNatClampNeg := by { rw [i_cl (x := x12) rfl]; try omega }; show (FL 150 ((a1).toInt.toNat + 1)).toInt = (x14).toInt; rw [e, show FL 150 (x12).toNatClampNeg = x14 from h15]; try omega }); rw [ek, ew]; exact ⟨fun _ => ⟨by omega, fun h => absurd (hid_e t23 (au_bn_7.mp h)) (by omega)⟩, fun _ => hz⟩)⟩
def nX12_binary : Nat := 0xac04de01b56004de01b42a2a4402b61c1b2a3602b61c2a
theorem bX12_binary : cX12_binary.data.toList.map UInt8.toNat = x_un nX12_binary 23 := by decide +kernel
def iX12_binary : List (Nat × Jvm.ClassFile.Instr × Nat) := [(0, .aload_n 0, 1), (1, .iload_n 2, 1), (2, .invokevirtual 566, 3), (5, .aload_n 0, 1), (6, .iload_n 1, 1), (7, .iload_n 2, 1), (8, .invokevirtual 580, 3), (11, .aload_n 0, 1), (12, .aload_n 0, 1), (13, .getfield 478, 3), (16, .iconst 1, 1), (17, .iadd, 1), (18, .putfield 478, 3), (21, .iconst 1, 1), (22, .ireturn, 1)]
theorem dX12_binary : x_il nX12_binary 23 iX12_binary = true := by decide +kernel
theorem aX12_binary (k : Nat) {pc : Nat} {i : Jvm.ClassFile.Instr} {len : Nat} (hk : iX12_binary[k]? = some (pc, i, len)) : x_at xMM 244 pc i len yX12_binary 3 (some .boolean) := ⟨cX12_binary, rfl, x_il_ok bX12_binary dX12_binary k hk⟩
set_option maxHeartbeats 4000000 in
set_option maxRecDepth 100000 in
theorem n_binary {zk : xK} {base d n sl : Nat} {SH : Nat → Nat × Nat} {FI : Nat → Nat → Int32} {FL : Nat → Nat → Int64} {FR : Nat → Nat → Option Nat} (hS : h_S n SH) (hF : h_FR FR) (hI : g_I FI) (a1 : Int32) (a2 : Int32) (g0 : (FI 121 73).toInt + 4 * (FI 121 90).toInt ≤ 28000) (g1 : (FI 121 90).toInt ≤ 250) (g2 : (FI 121 68).toInt < (FI 121 67).toInt - 1) (g3 : 1 ≤ (a2).toInt ∧ (a2).toInt ≤ 7) (rel_pm : rl_pm (FI 121 90) (FI 121 73) (FI 166) (FI 167) (FI 168)) : hw zk base (d + 2) none 244 0 [(0, .ref (base + 121)), (1, .int (a1)), (2, .int (a2))] [] (n, sl, SH, FI, FL, FR) (h_I (fun r s => ∃ FI', s = (n, sl, SH, FI', FL, FR) ∧ g_I FI' ∧ g_fr n SH [(121, 68), (121, 73), (121, 90)] [154, 165, 166] [] FI FI' ∧ ((FI' 121 90).toInt ≤ (FI 121 90).toInt + 1) ∧ ((FI' 121 73).toInt + 4 * (FI' 121 90).toInt ≤ (FI 121 73).toInt + 4 * (FI 121 90).toInt + 4) ∧ ((FI 121 73).toInt ≤ (FI' 121 73).toInt) ∧ ((FI' 121 68).toInt = (FI 121 68).toInt + 1) ∧ (r.toInt = 1) ∧ (0 ≤ r.toInt ∧ r.toInt ≤ 1) ∧ (sk (FI' 166) (FI' 121 90).toInt.toNat = (a2).toInt :: au_red (a2).toInt (sk (FI 166) (FI 121 90).toInt.toNat)) ∧ (rl_pm (FI' 121 90) (FI' 121 73) (FI' 166) (FI' 167) (FI' 168)))) := by
  have rg_a1 := i_rng a1
  have rg_a2 := i_rng a2
  obtain ⟨x1, h2⟩ : ∃ y, FI 121 73 = y := ⟨_, rfl⟩
  have h2l := congrArg Int32.toInt h2
  have b3 := gI_121_73 hI; rw [h2] at b3
  obtain ⟨x4, h5⟩ : ∃ y, FI 121 90 = y := ⟨_, rfl⟩
  have h5l := congrArg Int32.toInt h5
  have b6 := gI_121_90 hI; rw [h5] at b6
  obtain ⟨x7, h8⟩ : ∃ y, FI 121 68 = y := ⟨_, rfl⟩
  have h8l := congrArg Int32.toInt h8
  have b9 := gI_121_68 hI; rw [h8] at b9
  obtain ⟨x10, h11⟩ : ∃ y, FI 121 67 = y := ⟨_, rfl⟩
  have h11l := congrArg Int32.toInt h11
  have b12 := gI_121_67 hI; rw [h11] at b12
  refine hw_aloadn (aX12_binary 0 rfl) rfl ?_
  refine xw_iloadn (aX12_binary 1 rfl) rfl ?_
  refine hw_callV (Bs := [.int (a2)]) (rest := []) (aX12_binary 2 rfl) wc_RX12_566 (by decide) rfl wi_yX12_reduced wv_yX12_reduced (c121 hS) (s121 hS) rfl rfl rfl (Nat.le_of_ble_eq_true rfl) (Nat.le_of_ble_eq_true rfl) (n_reduced (d := d) hS hF hI (a2) (by have := congrArg Int32.toInt (show FI 121 73 = x1 from h2); have := congrArg Int32.toInt (show FI 121 90 = x4 from h5); omega) (by omega) (show rl_pm (FI 121 90) (FI 121 73) (FI 166) (FI 167) (FI 168) from rel_pm)) (fun v13 sv14 p15 => ?_)
  have := congrArg Int32.toInt (show FI 121 90 = x4 from h5)
  have := congrArg Int32.toInt (show FI 121 73 = x1 from h2)
  have := congrArg Int32.toInt (show FI 121 90 = x4 from h5)
  have := congrArg Int32.toInt (show FI 121 73 = x1 from h2)
  obtain ⟨rfl, FI17, rfl, hI18, f19, t20, t21, t22, u23, rl24⟩ := p15
  obtain ⟨x25, h26⟩ : ∃ y, FI17 121 90 = y := ⟨_, rfl⟩
  have h26l := congrArg Int32.toInt h26
  have b27 := gI_121_90 hI18; rw [h26] at b27
  obtain ⟨x28, h29⟩ : ∃ y, FI17 121 73 = y := ⟨_, rfl⟩
  have h29l := congrArg Int32.toInt h29
  have b30 := gI_121_73 hI18; rw [h29] at b30
  show hw zk base _ _ _ _ _ [] _ _
  refine hw_aloadn (aX12_binary 3 rfl) rfl ?_
  refine xw_iloadn (aX12_binary 4 rfl) rfl ?_
  refine xw_iloadn (aX12_binary 5 rfl) rfl ?_
  refine hw_callV (Bs := [.int (a1), .int (a2)]) (rest := []) (aX12_binary 6 rfl) wc_RX12_580 (by decide) rfl wi_yX12_later wv_yX12_later (c121 hS) (s121 hS) rfl rfl rfl (Nat.le_of_ble_eq_true rfl) (Nat.le_of_ble_eq_true rfl) (n_later (d := d + 1) hS hF hI18 (a1) (a2) (by have := congrArg Int32.toInt (show FI17 121 90 = x25 from h26); omega) (by omega) (show rl_pm (FI17 121 90) (FI17 121 73) (FI17 166) (FI17 167) (FI17 168) from rl24)) (fun v31 sv32 p33 => ?_)
  have := congrArg Int32.toInt (show FI17 121 90 = x25 from h26)
  obtain ⟨rfl, FI35, rfl, hI36, f37, t38, u39, u40, rl41⟩ := p33
  obtain ⟨x42, h43⟩ : ∃ y, FI35 121 90 = y := ⟨_, rfl⟩
  have h43l := congrArg Int32.toInt h43
  have b44 := gI_121_90 hI36; rw [h43] at b44
  show hw zk base _ _ _ _ _ [] _ _
  refine hw_aloadn (aX12_binary 7 rfl) rfl ?_
  refine hw_aloadn (aX12_binary 8 rfl) rfl ?_
  refine hw_get (v := .int (x7)) (aX12_binary 9 rfl) wf_RX12_478 (c121 hS) (s121 hS) (by decide) (congrArg Value.int (show FI35 121 68 = x7 from (gf_at f37 (c121 hS) (s121 hS) rfl ((gf_at f19 (c121 hS) (s121 hS) rfl (h8)))))) ?_
  refine hw_ic (v := (1 : Int32)) (aX12_binary 10 rfl) (by decide) ?_
  refine xw_iadd (aX12_binary 11 rfl) ?_
  refine hw_tie (A := ((x7).toInt) + (1)) (i_add rfl (by decide : (1 : Int32).toInt = 1) (by omega) (by omega)) (fun x45 e46 => ?_)
  refine hv_puti (aX12_binary 12 rfl) wf_RX12_478 (c121 hS) (s121 hS) (by decide) rfl rfl (fun FI47 u48 => ?_)
  have rl49 : rl_pm (FI47 121 90) (FI47 121 73) (FI47 166) (FI47 167) (FI47 168) := by rw [show FI47 166 = FI35 166 from up_row u48 (by decide) rfl, show FI47 167 = FI35 167 from up_row u48 (by decide) rfl, show FI47 168 = FI35 168 from up_row u48 (by decide) rfl, show FI47 121 90 = FI35 121 90 from up_k u48 (by decide) rfl, show FI47 121 73 = FI35 121 73 from up_k u48 (by decide) rfl]; exact rl41
  have hI50 : g_I FI47 := gU_121_68 hI36 u48 (by have := (e46 : (x45).toInt = ((x7).toInt) + (1)); omega) (by have := (e46 : (x45).toInt = ((x7).toInt) + (1)); omega)
  refine hw_ic (v := (1 : Int32)) (aX12_binary 13 rfl) (by decide) ?_
  refine xw_iret (aX12_binary 14 rfl) rfl (by decide) ?_
  have e51 : ((1 : Int32)).toInt = 1 := (by decide : (1 : Int32).toInt = 1)
  exact ⟨(1 : Int32), rfl, FI47, rfl, hI50, (gf_f (gf_tr ex_rf (gf_tr ex_rf gf_rf f19 rfl rfl rfl) f37 rfl rfl rfl) u48 (by decide)), (by have : ((1 : Int32)).toInt = 1 := (by decide); have := congrArg Int32.toInt (show FI47 121 90 = x42 from (up_k u48 (by decide) (h43))); omega), (by have : ((1 : Int32)).toInt = 1 := (by decide); have := congrArg Int32.toInt (show FI47 121 73 = x28 from (up_k u48 (by decide) ((gf_at f37 (c121 hS) (s121 hS) rfl (h29))))); have := congrArg Int32.toInt (show FI47 121 90 = x42 from (up_k u48 (by decide) (h43))); omega), (by have : ((1 : Int32)).toInt = 1 := (by decide); have := congrArg Int32.toInt (show FI47 121 73 = x28 from (up_k u48 (by decide) ((gf_at f37 (c121 hS) (s121 hS) rfl (h29))))); omega), (by have : ((1 : Int32)).toInt = 1 := (by decide); have := congrArg Int32.toInt (show FI47 121 68 = x45 from up_eq u48); have := (e46 : (x45).toInt = ((x7).toInt) + (1)); omega), (by have : ((1 : Int32)).toInt = 1 := (by decide); omega), (by have : ((1 : Int32)).toInt = 1 := (by decide); omega), (by rw [show FI47 166 = FI35 166 from (up_row u48 (by decide) (rfl)), show FI47 121 90 = FI35 121 90 from ((up_k u48 (by decide) (h43))).trans (h43).symm, u40, show FI17 166 = FI 166 from (gf_row f19 (c166 hS) (s166 hS) rfl (rfl)), u23]), (show rl_pm (FI47 121 90) (FI47 121 73) (FI47 166) (FI47 167) (FI47 168) from rl49)⟩
def nX12_combined : Nat := 0xad752f60041b6c00b42a0c00a72f60041b6c00b42a0e009a945d02142f1b6c00b42ade01b560051b2aad0905009a5a02b660041b2a0d00995702b61b2a1500991d3e030400a7040700a206101c3d2f02b62a
theorem bX12_combined : cX12_combined.data.toList.map UInt8.toNat = x_un nX12_combined 82 := by decide +kernel
def iX12_combined : List (Nat × Jvm.ClassFile.Instr × Nat) := [(0, .aload_n 0, 1), (1, .invokevirtual 559, 3), (4, .istore_n 2, 1), (5, .iload_n 2, 1), (6, .bipush 6, 2), (8, .if_icmp .ge 7, 3), (11, .iconst 1, 1), (12, .goto 4, 3), (15, .iconst 0, 1), (16, .istore_n 3, 1), (17, .iload_n 3, 1), (18, .ifCond .eq 21, 3), (21, .aload_n 0, 1), (22, .iload_n 1, 1), (23, .invokevirtual 599, 3), (26, .ifCond .eq 13, 3), (29, .aload_n 0, 1), (30, .iload_n 1, 1), (31, .iconst 1, 1), (32, .iadd, 1), (33, .invokevirtual 602, 3), (36, .ifCond .ne 5, 3), (39, .lconst 0, 1), (40, .lreturn, 1), (41, .aload_n 0, 1), (42, .iload_n 1, 1), (43, .iconst 2, 1), (44, .iadd, 1), (45, .putfield 478, 3), (48, .aload_n 0, 1), (49, .getfield 108, 3), (52, .iload_n 1, 1), (53, .laload, 1), (54, .ldc2_w 605, 3), (57, .lcmp, 1), (58, .ifCond .ne 14, 3), (61, .aload_n 0, 1), (62, .getfield 108, 3), (65, .iload_n 1, 1), (66, .iconst 1, 1), (67, .iadd, 1), (68, .laload, 1), (69, .goto 12, 3), (72, .aload_n 0, 1), (73, .getfield 108, 3), (76, .iload_n 1, 1), (77, .iconst 1, 1), (78, .iadd, 1), (79, .laload, 1), (80, .lneg, 1), (81, .lreturn, 1)]
theorem dX12_combined : x_il nX12_combined 82 iX12_combined = true := by decide +kernel
theorem aX12_combined (k : Nat) {pc : Nat} {i : Jvm.ClassFile.Instr} {len : Nat} (hk : iX12_combined[k]? = some (pc, i, len)) : x_at xMM 241 pc i len yX12_combined 4 (some .long) := ⟨cX12_combined, rfl, x_il_ok bX12_combined dX12_combined k hk⟩
set_option maxHeartbeats 4000000 in
set_option maxRecDepth 100000 in
theorem n_combined {zk : xK} {base d n sl : Nat} {SH : Nat → Nat × Nat} {FI : Nat → Nat → Int32} {FL : Nat → Nat → Int64} {FR : Nat → Nat → Option Nat} (hS : h_S n SH) (hF : h_FR FR) (hI : g_I FI) (a1 : Int32) (g0 : (a1).toInt ≤ (FI 121 67).toInt - 1) (g1 : (FI 121 68).toInt = (a1).toInt) (g2 : 0 ≤ (a1).toInt ∧ (a1).toInt ≤ 1000) (rel_tend : rl_e (FI 149) (FI 121 67)) : hw zk base (d + 2) none 241 0 [(0, .ref (base + 121)), (1, .int (a1))] [] (n, sl, SH, FI, FL, FR) (h_J (fun r s => ∃ FI', s = (n, sl, SH, FI', FL, FR) ∧ g_I FI' ∧ g_fr n SH [(121, 68)] [] [] FI FI' ∧ ((FI' 121 68).toInt ≤ (FI' 121 67).toInt - 1) ∧ ((FI 121 68).toInt ≤ (FI' 121 68).toInt ∧ (FI' 121 68).toInt ≤ (FI 121 68).toInt + 2) ∧ (((FI' 121 68).toInt = (FI 121 68).toInt ∧ r.toInt = 0) ∨ (FI' 121 68).toInt = (FI 121 68).toInt + 2) ∧ (co_cmb (kf (FI 149)) (wf (FL 150)) (sk (FI 166) (FI 121 90).toInt.toNat) (a1).toInt.toNat (FI' 121 68).toInt.toNat))) := by
  have rg_a1 := i_rng a1
  obtain ⟨x1, h2⟩ : ∃ y, FI 121 67 = y := ⟨_, rfl⟩
  have h2l := congrArg Int32.toInt h2
  have b3 := gI_121_67 hI; rw [h2] at b3
  obtain ⟨x4, h5⟩ : ∃ y, FI 121 68 = y := ⟨_, rfl⟩
  have h5l := congrArg Int32.toInt h5
  have b6 := gI_121_68 hI; rw [h5] at b6
  obtain ⟨x7, h8⟩ : ∃ y, FI 121 90 = y := ⟨_, rfl⟩
  have h8l := congrArg Int32.toInt h8
  have b9 := gI_121_90 hI; rw [h8] at b9
  refine hw_aloadn (aX12_combined 0 rfl) rfl ?_
  refine hw_callV (Bs := []) (rest := []) (aX12_combined 1 rfl) wc_RX12_559 (by decide) rfl wi_yX12_tops wv_yX12_tops (c121 hS) (s121 hS) rfl rfl rfl (Nat.le_of_ble_eq_true rfl) (Nat.le_of_ble_eq_true rfl) (n_tops (d := d + 1) hS hF hI ) (fun v10 sv11 p12 => ?_)
  have := congrArg Int32.toInt (show FI 121 90 = x7 from h8)
  obtain ⟨r13, rfl, rfl, t15, u16, u17⟩ := p12
  have rg_r13 := i_rng r13
  show hw zk base _ _ _ _ _ [.int (r13)] _ _
  refine xw_istoren (L2 := [(2, .int (r13)), (0, .ref (base + 121)), (1, .int (a1))]) (aX12_combined 2 rfl) (by decide) rfl ?_
  refine xw_iloadn (aX12_combined 3 rfl) rfl ?_
  refine hw_bp (v := (6 : Int32)) (aX12_combined 4 rfl) (by decide) ?_
  refine hw_icge (tgt := 15) (aX12_combined 5 rfl) (by decide) rfl (by decide : (6 : Int32).toInt = 6) (fun cd18 => ?_) (fun cd18 => ?_)
  · refine hw_ic (v := (0 : Int32)) (aX12_combined 8 rfl) (by decide) ?_
    refine xw_istoren (L2 := [(3, .int ((0 : Int32))), (2, .int (r13)), (0, .ref (base + 121)), (1, .int (a1))]) (aX12_combined 9 rfl) (by decide) rfl ?_
    refine xw_iloadn (aX12_combined 10 rfl) rfl ?_
    refine hw_ifeq (tgt := 39) (aX12_combined 11 rfl) (by decide) (by decide : (0 : Int32).toInt = 0) (fun cd19 => ?_) (fun cd19 => ?_)
    · refine hw_lc (v := (0 : Int64)) (aX12_combined 22 rfl) (by decide) ?_
      refine xw_lret (aX12_combined 23 rfl) rfl ?_
      have e20 : ((0 : Int64)).toInt = 0 := (by decide : (0 : Int64).toInt = 0)
      exact ⟨(0 : Int64), rfl, FI, rfl, hI, gf_rf, (by have : ((0 : Int64)).toInt = 0 := (by decide); have := congrArg Int32.toInt (show FI 121 67 = x1 from h2); have := congrArg Int32.toInt (show FI 121 68 = x4 from h5); omega), (by have : ((0 : Int64)).toInt = 0 := (by decide); have := congrArg Int32.toInt (show FI 121 68 = x4 from h5); omega), (by have : ((0 : Int64)).toInt = 0 := (by decide); have := congrArg Int32.toInt (show FI 121 68 = x4 from h5); omega), (by exact Or.inl (by omega))⟩
    · omega
  · refine hw_ic (v := (1 : Int32)) (aX12_combined 6 rfl) (by decide) ?_
    refine xw_goto (tgt := 16) (aX12_combined 7 rfl) (by decide) ?_
    refine xw_istoren (L2 := [(3, .int ((1 : Int32))), (2, .int (r13)), (0, .ref (base + 121)), (1, .int (a1))]) (aX12_combined 9 rfl) (by decide) rfl ?_
    refine xw_iloadn (aX12_combined 10 rfl) rfl ?_
    refine hw_ifeq (tgt := 39) (aX12_combined 11 rfl) (by decide) (by decide : (1 : Int32).toInt = 1) (fun cd21 => ?_) (fun cd21 => ?_)
    · omega
    · refine hw_aloadn (aX12_combined 12 rfl) rfl ?_
      refine xw_iloadn (aX12_combined 13 rfl) rfl ?_
      refine hw_callV (Bs := [.int (a1)]) (rest := []) (aX12_combined 14 rfl) wc_RX12_599 (by decide) rfl wi_yX12_adds wv_yX12_adds (c121 hS) (s121 hS) rfl rfl rfl (Nat.le_of_ble_eq_true rfl) (Nat.le_of_ble_eq_true rfl) (n_adds (d := d + 1) hS hF hI (a1) (by have := congrArg Int32.toInt (show FI 121 67 = x1 from h2); omega) (by omega) (show rl_e (FI 149) (FI 121 67) from rel_tend)) (fun v22 sv23 p24 => ?_)
      have := congrArg Int32.toInt (show FI 121 67 = x1 from h2)
      obtain ⟨r25, rfl, rfl, t27, t28, u29⟩ := p24
      show hw zk base _ _ _ _ _ [.int (r25)] _ _
      refine hw_ifeq (tgt := 39) (aX12_combined 15 rfl) (by decide) rfl (fun cd30 => ?_) (fun cd30 => ?_)
      · clear t27
        refine hw_lc (v := (0 : Int64)) (aX12_combined 22 rfl) (by decide) ?_
        refine xw_lret (aX12_combined 23 rfl) rfl ?_
        have e31 : ((0 : Int64)).toInt = 0 := (by decide : (0 : Int64).toInt = 0)
        exact ⟨(0 : Int64), rfl, FI, rfl, hI, gf_rf, (by have : ((0 : Int64)).toInt = 0 := (by decide); have := congrArg Int32.toInt (show FI 121 67 = x1 from h2); have := congrArg Int32.toInt (show FI 121 68 = x4 from h5); omega), (by have : ((0 : Int64)).toInt = 0 := (by decide); have := congrArg Int32.toInt (show FI 121 68 = x4 from h5); omega), (by have : ((0 : Int64)).toInt = 0 := (by decide); have := congrArg Int32.toInt (show FI 121 68 = x4 from h5); omega), (by exact Or.inl (by omega))⟩
      · replace t27 := t27 (by omega)
        refine hw_aloadn (aX12_combined 16 rfl) rfl ?_
        refine xw_iloadn (aX12_combined 17 rfl) rfl ?_
        refine hw_ic (v := (1 : Int32)) (aX12_combined 18 rfl) (by decide) ?_
        refine xw_iadd (aX12_combined 19 rfl) ?_
        refine hw_tie (A := ((a1).toInt) + (1)) (i_add rfl (by decide : (1 : Int32).toInt = 1) (by omega) (by omega)) (fun x32 e33 => ?_)
        refine hw_callV (Bs := [.int (x32)]) (rest := []) (aX12_combined 20 rfl) wc_RX12_602 (by decide) rfl wi_yX12_isAlone wv_yX12_isAlone (c121 hS) (s121 hS) rfl rfl rfl (Nat.le_of_ble_eq_true rfl) (Nat.le_of_ble_eq_true rfl) (n_isAlone (d := d) hS hF hI (x32) (by have := (e33 : (x32).toInt = ((a1).toInt) + (1)); have := congrArg Int32.toInt (show FI 121 67 = x1 from h2); omega) (by have := (e33 : (x32).toInt = ((a1).toInt) + (1)); have := (e33 : (x32).toInt = ((a1).toInt) + (1)); omega) (show rl_e (FI 149) (FI 121 67) from rel_tend)) (fun v34 sv35 p36 => ?_)
        have := (e33 : (x32).toInt = ((a1).toInt) + (1))
        have := congrArg Int32.toInt (show FI 121 67 = x1 from h2)
        obtain ⟨r37, rfl, rfl, t39, t40, u41⟩ := p36
        show hw zk base _ _ _ _ _ [.int (r37)] _ _
        refine hw_ifne (tgt := 41) (aX12_combined 21 rfl) (by decide) rfl (fun cd42 => ?_) (fun cd42 => ?_)
        · replace t39 := t39 (by omega)
          refine hw_aloadn (aX12_combined 24 rfl) rfl ?_
          refine xw_iloadn (aX12_combined 25 rfl) rfl ?_
          refine hw_ic (v := (2 : Int32)) (aX12_combined 26 rfl) (by decide) ?_
          refine xw_iadd (aX12_combined 27 rfl) ?_
          refine hw_tie (A := ((a1).toInt) + (2)) (i_add rfl (by decide : (2 : Int32).toInt = 2) (by omega) (by omega)) (fun x43 e44 => ?_)
          refine hv_puti (aX12_combined 28 rfl) wf_RX12_478 (c121 hS) (s121 hS) (by decide) rfl rfl (fun FI45 u46 => ?_)
          have rl47 : rl_e (FI45 149) (FI45 121 67) := by rw [show FI45 149 = FI 149 from up_row u46 (by decide) rfl, show FI45 121 67 = FI 121 67 from up_k u46 (by decide) rfl]; exact rel_tend
          have hI48 : g_I FI45 := gU_121_68 hI u46 (by have := (e44 : (x43).toInt = ((a1).toInt) + (2)); omega) (by have := (e44 : (x43).toInt = ((a1).toInt) + (2)); omega)
          refine hw_aloadn (aX12_combined 29 rfl) rfl ?_
          refine hw_get (v := .ref (base + 150)) (aX12_combined 30 rfl) wf_RX12_108 (c121 hS) (s121 hS) (by decide) (congrArg (fun r => va_rf (h_rf base r)) (r121_63 hF)) ?_
          refine xw_iloadn (aX12_combined 31 rfl) rfl ?_
          obtain ⟨x49, h50⟩ : ∃ y, FL 150 (a1).toNatClampNeg = y := ⟨_, rfl⟩
          have h50l := congrArg Int64.toInt h50
          have := l_rng x49
          refine hw_lald (v := x49) (aX12_combined 32 rfl) (c150 hS) (s150 hS) (h_in rfl (by omega) (by omega)) (show FL 150 (a1).toNatClampNeg = x49 from h50) ?_
          refine xw_ldc2 (aX12_combined 33 rfl) wk_RX12_605 ?_
          refine hw_lcne (tgt := 72) (aX12_combined 34 rfl) (aX12_combined 35 rfl) (by decide) rfl (by decide : (43 : Int64).toInt = 43) (fun cd51 => ?_) (fun cd51 => ?_)
          · refine hw_aloadn (aX12_combined 43 rfl) rfl ?_
            refine hw_get (v := .ref (base + 150)) (aX12_combined 44 rfl) wf_RX12_108 (c121 hS) (s121 hS) (by decide) (congrArg (fun r => va_rf (h_rf base r)) (r121_63 hF)) ?_
            refine xw_iloadn (aX12_combined 45 rfl) rfl ?_
            refine hw_ic (v := (1 : Int32)) (aX12_combined 46 rfl) (by decide) ?_
            refine xw_iadd (aX12_combined 47 rfl) ?_
            refine hw_tie (A := ((a1).toInt) + (1)) (i_add rfl (by decide : (1 : Int32).toInt = 1) (by omega) (by omega)) (fun x52 e53 => ?_)
            obtain ⟨x54, h55⟩ : ∃ y, FL 150 (x52).toNatClampNeg = y := ⟨_, rfl⟩
            have h55l := congrArg Int64.toInt h55
            have := l_rng x54
            refine hw_lald (v := x54) (aX12_combined 48 rfl) (c150 hS) (s150 hS) (h_in e53 (by omega) (by omega)) (show FL 150 (x52).toNatClampNeg = x54 from h55) ?_
            refine xw_lneg (aX12_combined 49 rfl) ?_
            refine hw_tl (fun x56 => ?_)
            have b57 := l_rng x56
            refine xw_lret (aX12_combined 50 rfl) rfl ?_
            exact ⟨x56, rfl, FI45, rfl, hI48, (gf_f gf_rf u46 (by decide)), (by have := congrArg Int32.toInt (show FI45 121 67 = x1 from (up_k u46 (by decide) (h2))); have := congrArg Int32.toInt (show FI45 121 68 = x43 from up_eq u46); have := (e44 : (x43).toInt = ((a1).toInt) + (2)); omega), (by have := congrArg Int32.toInt (show FI45 121 68 = x43 from up_eq u46); have := (e44 : (x43).toInt = ((a1).toInt) + (2)); omega), (by have := congrArg Int32.toInt (show FI45 121 68 = x43 from up_eq u46); have := (e44 : (x43).toInt = ((a1).toInt) + (2)); omega), (by have := congrArg Int32.toInt (show FI45 121 68 = x43 from up_eq u46); have := (e44 : (x43).toInt = ((a1).toInt) + (2)); have hb := u29.mp (by omega); have hc := u41.mp (by omega); rw [show (x32).toInt.toNat = (a1).toInt.toNat + 1 by omega] at hc; exact Or.inr ⟨by omega, ⟨hb.1, hb.2, hc.1, hc.2⟩, fun y q e => by { rcases Int.lt_or_le 0 (FI 121 90).toInt with h0 | h0; { have hh := u16 (by omega); rw [e] at hh; cases hh; omega }; { rw [show (FI 121 90).toInt.toNat = 0 by omega] at e; cases e } }⟩)⟩
          · refine hw_aloadn (aX12_combined 36 rfl) rfl ?_
            refine hw_get (v := .ref (base + 150)) (aX12_combined 37 rfl) wf_RX12_108 (c121 hS) (s121 hS) (by decide) (congrArg (fun r => va_rf (h_rf base r)) (r121_63 hF)) ?_
            refine xw_iloadn (aX12_combined 38 rfl) rfl ?_
            refine hw_ic (v := (1 : Int32)) (aX12_combined 39 rfl) (by decide) ?_
            refine xw_iadd (aX12_combined 40 rfl) ?_
            refine hw_tie (A := ((a1).toInt) + (1)) (i_add rfl (by decide : (1 : Int32).toInt = 1) (by omega) (by omega)) (fun x58 e59 => ?_)
            obtain ⟨x60, h61⟩ : ∃ y, FL 150 (x58).toNatClampNeg = y := ⟨_, rfl⟩
            have h61l := congrArg Int64.toInt h61
            have := l_rng x60
            refine hw_lald (v := x60) (aX12_combined 41 rfl) (c150 hS) (s150 hS) (h_in e59 (by omega) (by omega)) (show FL 150 (x58).toNatClampNeg = x60 from h61) ?_
            refine xw_goto (tgt := 81) (aX12_combined 42 rfl) (by decide) ?_
            refine xw_lret (aX12_combined 50 rfl) rfl ?_
            exact ⟨x60, rfl, FI45, rfl, hI48, (gf_f gf_rf u46 (by decide)), (by have := congrArg Int32.toInt (show FI45 121 67 = x1 from (up_k u46 (by decide) (h2))); have := congrArg Int32.toInt (show FI45 121 68 = x43 from up_eq u46); have := (e44 : (x43).toInt = ((a1).toInt) + (2)); omega), (by have := congrArg Int32.toInt (show FI45 121 68 = x43 from up_eq u46); have := (e44 : (x43).toInt = ((a1).toInt) + (2)); omega), (by have := congrArg Int32.toInt (show FI45 121 68 = x43 from up_eq u46); have := (e44 : (x43).toInt = ((a1).toInt) + (2)); omega), (by have := congrArg Int32.toInt (show FI45 121 68 = x43 from up_eq u46); have := (e44 : (x43).toInt = ((a1).toInt) + (2)); have hb := u29.mp (by omega); have hc := u41.mp (by omega); rw [show (x32).toInt.toNat = (a1).toInt.toNat + 1 by omega] at hc; exact Or.inr ⟨by omega, ⟨hb.1, hb.2, hc.1, hc.2⟩, fun y q e => by { rcases Int.lt_or_le 0 (FI 121 90).toInt with h0 | h0; { have hh := u16 (by omega); rw [e] at hh; cases hh; omega }; { rw [show (FI 121 90).toInt.toNat = 0 by omega] at e; cases e } }⟩)⟩
        · clear t39
          refine hw_lc (v := (0 : Int64)) (aX12_combined 22 rfl) (by decide) ?_
          refine xw_lret (aX12_combined 23 rfl) rfl ?_
          have e62 : ((0 : Int64)).toInt = 0 := (by decide : (0 : Int64).toInt = 0)
          exact ⟨(0 : Int64), rfl, FI, rfl, hI, gf_rf, (by have : ((0 : Int64)).toInt = 0 := (by decide); have := congrArg Int32.toInt (show FI 121 67 = x1 from h2); have := congrArg Int32.toInt (show FI 121 68 = x4 from h5); omega), (by have : ((0 : Int64)).toInt = 0 := (by decide); have := congrArg Int32.toInt (show FI 121 68 = x4 from h5); omega), (by have : ((0 : Int64)).toInt = 0 := (by decide); have := congrArg Int32.toInt (show FI 121 68 = x4 from h5); omega), (by exact Or.inl (by omega))⟩
end
section
def nX12_registered : Nat := 0xb15102b64d02b6de01b42a2a2ade01b56004de01b42a2af001b660882fde01b42a6c00b42a70102ab1040099db01b42ae701b6052a08009e943601142fde01b42a6c00b42a1800a7e701b6042a0b009f062ede01b42a6900b42ade01b56004de01b42a2a
theorem bX12_registered : cX12_registered.data.toList.map UInt8.toNat = x_un nX12_registered 100 := by decide +kernel
def iX12_registered : List (Nat × Jvm.ClassFile.Instr × Nat) := [(0, .aload_n 0, 1), (1, .aload_n 0, 1), (2, .getfield 478, 3), (5, .iconst 1, 1), (6, .iadd, 1), (7, .putfield 478, 3), (10, .aload_n 0, 1), (11, .getfield 105, 3), (14, .aload_n 0, 1), (15, .getfield 478, 3), (18, .iaload, 1), (19, .iconst 3, 1), (20, .if_icmp .eq 11, 3), (23, .aload_n 0, 1), (24, .iconst 1, 1), (25, .invokevirtual 487, 3), (28, .goto 24, 3), (31, .aload_n 0, 1), (32, .getfield 108, 3), (35, .aload_n 0, 1), (36, .getfield 478, 3), (39, .laload, 1), (40, .ldc2_w 310, 3), (43, .lcmp, 1), (44, .ifCond .le 8, 3), (47, .aload_n 0, 1), (48, .iconst 2, 1), (49, .invokevirtual 487, 3), (52, .aload_n 0, 1), (53, .getfield 475, 3), (56, .ifCond .eq 4, 3), (59, .return_, 1), (60, .aload_n 0, 1), (61, .bipush 112, 2), (63, .aload_n 0, 1), (64, .getfield 108, 3), (67, .aload_n 0, 1), (68, .getfield 478, 3), (71, .laload, 1), (72, .l2i, 1), (73, .iadd, 1), (74, .invokevirtual 496, 3), (77, .aload_n 0, 1), (78, .aload_n 0, 1), (79, .getfield 478, 3), (82, .iconst 1, 1), (83, .iadd, 1), (84, .putfield 478, 3), (87, .aload_n 0, 1), (88, .aload_n 0, 1), (89, .aload_n 0, 1), (90, .getfield 478, 3), (93, .invokevirtual 589, 3), (96, .invokevirtual 593, 3), (99, .return_, 1)]
theorem dX12_registered : x_il nX12_registered 100 iX12_registered = true := by decide +kernel
theorem aX12_registered (k : Nat) {pc : Nat} {i : Jvm.ClassFile.Instr} {len : Nat} (hk : iX12_registered[k]? = some (pc, i, len)) : x_at xMM 240 pc i len yX12_registered 1 none := ⟨cX12_registered, rfl, x_il_ok bX12_registered dX12_registered k hk⟩
set_option maxHeartbeats 4000000 in
set_option maxRecDepth 100000 in
theorem n_registered {zk : xK} {base d n sl : Nat} {SH : Nat → Nat × Nat} {FI : Nat → Nat → Int32} {FL : Nat → Nat → Int64} {FR : Nat → Nat → Option Nat} (hS : h_S n SH) (hF : h_FR FR) (hI : g_I FI) (g0 : (FI 121 68).toInt < (FI 121 67).toInt - 1) (g1 : (FI 121 69).toInt = 0) (g2 : (FI 121 73).toInt ≤ 28900) (rel_tend : rl_e (FI 149) (FI 121 67)) (rel_tok : rl_t (FI 149) (FL 150)) (rel_pm : rl_pm (FI 121 90) (FI 121 73) (FI 166) (FI 167) (FI 168)) : hw zk base (d + 3) none 240 0 [(0, .ref (base + 121))] [] (n, sl, SH, FI, FL, FR) (h_V (fun s => ∃ FI', s = (n, sl, SH, FI', FL, FR) ∧ g_I FI' ∧ g_fr n SH [(121, 68), (121, 69), (121, 70), (121, 73)] [154] [] FI FI' ∧ ((FI' 121 68).toInt ≤ (FI' 121 67).toInt - 1) ∧ ((FI 121 68).toInt < (FI' 121 68).toInt ∧ (FI' 121 68).toInt ≤ (FI 121 68).toInt + 4) ∧ ((FI' 121 73).toInt ≤ (FI 121 73).toInt + 11) ∧ ((FI 121 73).toInt ≤ (FI' 121 73).toInt) ∧ ((FI' 121 69).toInt = 0 → (FI 121 68).toInt + 2 ≤ (FI' 121 68).toInt) ∧ ((FI' 121 69).toInt = 0 → (FI' 121 73).toInt ≤ (FI 121 73).toInt + 4 * ((FI' 121 68).toInt - (FI 121 68).toInt)) ∧ ((FI' 121 69).toInt = 0 → kf (FI 149) ((FI 121 68).toInt.toNat + 1) = 3 ∧ wf (FL 150) ((FI 121 68).toInt.toNat + 1) ≤ 31 ∧ co_cmb (kf (FI 149)) (wf (FL 150)) (sk (FI 166) (FI 121 90).toInt.toNat) ((FI 121 68).toInt.toNat + 2) (FI' 121 68).toInt.toNat) ∧ (rl_pm (FI' 121 90) (FI' 121 73) (FI' 166) (FI' 167) (FI' 168)))) := by
  obtain ⟨x1, h2⟩ : ∃ y, FI 121 68 = y := ⟨_, rfl⟩
  have h2l := congrArg Int32.toInt h2
  have b3 := gI_121_68 hI; rw [h2] at b3
  obtain ⟨x4, h5⟩ : ∃ y, FI 121 67 = y := ⟨_, rfl⟩
  have h5l := congrArg Int32.toInt h5
  have b6 := gI_121_67 hI; rw [h5] at b6
  obtain ⟨x7, h8⟩ : ∃ y, FI 121 69 = y := ⟨_, rfl⟩
  have h8l := congrArg Int32.toInt h8
  have := i_rng x7
  obtain ⟨x9, h10⟩ : ∃ y, FI 121 73 = y := ⟨_, rfl⟩
  have h10l := congrArg Int32.toInt h10
  have b11 := gI_121_73 hI; rw [h10] at b11
  obtain ⟨x12, h13⟩ : ∃ y, FI 121 90 = y := ⟨_, rfl⟩
  have h13l := congrArg Int32.toInt h13
  have b14 := gI_121_90 hI; rw [h13] at b14
  obtain ⟨x15, h16⟩ : ∃ y, FI 121 71 = y := ⟨_, rfl⟩
  have h16l := congrArg Int32.toInt h16
  have := i_rng x15
  refine hw_aloadn (aX12_registered 0 rfl) rfl ?_
  refine hw_aloadn (aX12_registered 1 rfl) rfl ?_
  refine hw_get (v := .int (x1)) (aX12_registered 2 rfl) wf_RX12_478 (c121 hS) (s121 hS) (by decide) (congrArg Value.int (show FI 121 68 = x1 from h2)) ?_
  refine hw_ic (v := (1 : Int32)) (aX12_registered 3 rfl) (by decide) ?_
  refine xw_iadd (aX12_registered 4 rfl) ?_
  refine hw_tie (A := ((x1).toInt) + (1)) (i_add rfl (by decide : (1 : Int32).toInt = 1) (by omega) (by omega)) (fun x17 e18 => ?_)
  refine hv_puti (aX12_registered 5 rfl) wf_RX12_478 (c121 hS) (s121 hS) (by decide) rfl rfl (fun FI19 u20 => ?_)
  have rl21 : rl_e (FI19 149) (FI19 121 67) := by rw [show FI19 149 = FI 149 from up_row u20 (by decide) rfl, show FI19 121 67 = FI 121 67 from up_k u20 (by decide) rfl]; exact rel_tend
  have rl22 : rl_t (FI19 149) (FL 150) := by rw [show FI19 149 = FI 149 from up_row u20 (by decide) rfl]; exact rel_tok
  have rl23 : rl_pm (FI19 121 90) (FI19 121 73) (FI19 166) (FI19 167) (FI19 168) := by rw [show FI19 166 = FI 166 from up_row u20 (by decide) rfl, show FI19 167 = FI 167 from up_row u20 (by decide) rfl, show FI19 168 = FI 168 from up_row u20 (by decide) rfl, show FI19 121 90 = FI 121 90 from up_k u20 (by decide) rfl, show FI19 121 73 = FI 121 73 from up_k u20 (by decide) rfl]; exact rel_pm
  have hI24 : g_I FI19 := gU_121_68 hI u20 (by have := (e18 : (x17).toInt = ((x1).toInt) + (1)); omega) (by have := (e18 : (x17).toInt = ((x1).toInt) + (1)); omega)
  refine hw_aloadn (aX12_registered 6 rfl) rfl ?_
  refine hw_get (v := .ref (base + 149)) (aX12_registered 7 rfl) wf_RX12_105 (c121 hS) (s121 hS) (by decide) (congrArg (fun r => va_rf (h_rf base r)) (r121_62 hF)) ?_
  refine hw_aloadn (aX12_registered 8 rfl) rfl ?_
  refine hw_get (v := .int (x17)) (aX12_registered 9 rfl) wf_RX12_478 (c121 hS) (s121 hS) (by decide) (congrArg Value.int (show FI19 121 68 = x17 from up_eq u20)) ?_
  obtain ⟨x25, h26⟩ : ∃ y, FI19 149 (x17).toNatClampNeg = y := ⟨_, rfl⟩
  have h26l := congrArg Int32.toInt h26
  have := i_rng x25
  refine hw_iald (v := x25) (aX12_registered 10 rfl) (c149 hS) (s149 hS) (h_in e18 (by omega) (by omega)) (show FI19 149 (x17).toNatClampNeg = x25 from h26) ?_
  refine hw_ic (v := (3 : Int32)) (aX12_registered 11 rfl) (by decide) ?_
  refine hw_iceq (tgt := 31) (aX12_registered 12 rfl) (by decide) rfl (by decide : (3 : Int32).toInt = 3) (fun cd27 => ?_) (fun cd27 => ?_)
  · have := congrArg Int32.toInt (show FI19 121 67 = x4 from (up_k u20 (by decide) (h5)))
    have hne27 := rl_e_ne rl21 (t := x17) (by omega)
    refine hw_aloadn (aX12_registered 17 rfl) rfl ?_
    refine hw_get (v := .ref (base + 150)) (aX12_registered 18 rfl) wf_RX12_108 (c121 hS) (s121 hS) (by decide) (congrArg (fun r => va_rf (h_rf base r)) (r121_63 hF)) ?_
    refine hw_aloadn (aX12_registered 19 rfl) rfl ?_
    refine hw_get (v := .int (x17)) (aX12_registered 20 rfl) wf_RX12_478 (c121 hS) (s121 hS) (by decide) (congrArg Value.int (show FI19 121 68 = x17 from up_eq u20)) ?_
    obtain ⟨x28, h29⟩ : ∃ y, FL 150 (x17).toNatClampNeg = y := ⟨_, rfl⟩
    have h29l := congrArg Int64.toInt h29
    have := l_rng x28
    refine hw_lald (v := x28) (aX12_registered 21 rfl) (c150 hS) (s150 hS) (h_in e18 (by omega) (by omega)) (show FL 150 (x17).toNatClampNeg = x28 from h29) ?_
    refine xw_ldc2 (aX12_registered 22 rfl) wk_RX12_310 ?_
    refine hw_lcle (tgt := 52) (aX12_registered 23 rfl) (aX12_registered 24 rfl) (by decide) rfl (by decide : (31 : Int64).toInt = 31) (fun cd30 => ?_) (fun cd30 => ?_)
    · refine hw_aloadn (aX12_registered 28 rfl) rfl ?_
      refine hw_get (v := .int (x7)) (aX12_registered 29 rfl) wf_RX12_475 (c121 hS) (s121 hS) (by decide) (congrArg Value.int (show FI19 121 69 = x7 from (up_k u20 (by decide) (h8)))) ?_
      refine hw_ifeq (tgt := 60) (aX12_registered 30 rfl) (by decide) rfl (fun cd31 => ?_) (fun cd31 => ?_)
      · have kq32 : kf (FI 149) ((FI 121 68).toInt.toNat + 1) = 3 := (by { have e : (FI 121 68).toInt.toNat + 1 = (x17).toNatClampNeg := by { rw [i_cl (x := x17) rfl]; try omega }; show (FI 149 ((FI 121 68).toInt.toNat + 1)).toInt = 3; rw [e, ← (show FI19 149 = FI 149 from (up_row u20 (by decide) (rfl))), show FI19 149 (x17).toNatClampNeg = x25 from h26]; try omega })
        have kq33 : wf (FL 150) ((FI 121 68).toInt.toNat + 1) ≤ 31 := (by { have e : (FI 121 68).toInt.toNat + 1 = (x17).toNatClampNeg := by { rw [i_cl (x := x17) rfl]; try omega }; show (FL 150 ((FI 121 68).toInt.toNat + 1)).toInt ≤ 31; rw [e, show FL 150 (x17).toNatClampNeg = x28 from h29]; try omega })
        refine hw_aloadn (aX12_registered 32 rfl) rfl ?_
        refine hw_bp (v := (112 : Int32)) (aX12_registered 33 rfl) (by decide) ?_
        refine hw_aloadn (aX12_registered 34 rfl) rfl ?_
        refine hw_get (v := .ref (base + 150)) (aX12_registered 35 rfl) wf_RX12_108 (c121 hS) (s121 hS) (by decide) (congrArg (fun r => va_rf (h_rf base r)) (r121_63 hF)) ?_
        refine hw_aloadn (aX12_registered 36 rfl) rfl ?_
        refine hw_get (v := .int (x17)) (aX12_registered 37 rfl) wf_RX12_478 (c121 hS) (s121 hS) (by decide) (congrArg Value.int (show FI19 121 68 = x17 from up_eq u20)) ?_
        refine hw_lald (v := x28) (aX12_registered 38 rfl) (c150 hS) (s150 hS) (h_in e18 (by omega) (by omega)) (show FL 150 (x17).toNatClampNeg = x28 from h29) ?_
        refine xw_l2i (aX12_registered 39 rfl) ?_
        refine hw_ti (fun x34 => ?_)
        have b35 := i_rng x34
        refine xw_iadd (aX12_registered 40 rfl) ?_
        refine hw_ti (fun x36 => ?_)
        have b37 := i_rng x36
        refine hw_callV (Bs := [.int (x36)]) (rest := []) (aX12_registered 41 rfl) wc_RX12_496 (by decide) rfl wi_yX12_emit wv_yX12_emit (c121 hS) (s121 hS) rfl rfl rfl (Nat.le_of_ble_eq_true rfl) (Nat.le_of_ble_eq_true rfl) (n_emit (d := d + 2) hS hF hI24 (x36) (by have := congrArg Int32.toInt (show FI19 121 73 = x9 from (up_k u20 (by decide) (h10))); omega) (show rl_pm (FI19 121 90) (FI19 121 73) (FI19 166) (FI19 167) (FI19 168) from rl23)) (fun v38 sv39 p40 => ?_)
        have := congrArg Int32.toInt (show FI19 121 73 = x9 from (up_k u20 (by decide) (h10)))
        obtain ⟨rfl, FI42, rfl, hI43, f44, t45, rl46⟩ := p40
        have rl47 : rl_e (FI42 149) (FI42 121 67) := by rw [show FI42 149 = FI19 149 from gf_row f44 (c149 hS) (s149 hS) rfl rfl, show FI42 121 67 = FI19 121 67 from gf_at f44 (c121 hS) (s121 hS) rfl rfl]; exact rl21
        have rl48 : rl_t (FI42 149) (FL 150) := by rw [show FI42 149 = FI19 149 from gf_row f44 (c149 hS) (s149 hS) rfl rfl]; exact rl22
        obtain ⟨x49, h50⟩ : ∃ y, FI42 121 73 = y := ⟨_, rfl⟩
        have h50l := congrArg Int32.toInt h50
        have b51 := gI_121_73 hI43; rw [h50] at b51
        show hw zk base _ _ _ _ _ [] _ _
        refine hw_aloadn (aX12_registered 42 rfl) rfl ?_
        refine hw_aloadn (aX12_registered 43 rfl) rfl ?_
        refine hw_get (v := .int (x17)) (aX12_registered 44 rfl) wf_RX12_478 (c121 hS) (s121 hS) (by decide) (congrArg Value.int (show FI42 121 68 = x17 from (gf_at f44 (c121 hS) (s121 hS) rfl (up_eq u20)))) ?_
        refine hw_ic (v := (1 : Int32)) (aX12_registered 45 rfl) (by decide) ?_
        refine xw_iadd (aX12_registered 46 rfl) ?_
        refine hw_tie (A := (((x1).toInt) + (1)) + (1)) (i_add e18 (by decide : (1 : Int32).toInt = 1) (by omega) (by omega)) (fun x52 e53 => ?_)
        refine hv_puti (aX12_registered 47 rfl) wf_RX12_478 (c121 hS) (s121 hS) (by decide) rfl rfl (fun FI54 u55 => ?_)
        have rl56 : rl_e (FI54 149) (FI54 121 67) := by rw [show FI54 149 = FI42 149 from up_row u55 (by decide) rfl, show FI54 121 67 = FI42 121 67 from up_k u55 (by decide) rfl]; exact rl47
        have rl57 : rl_t (FI54 149) (FL 150) := by rw [show FI54 149 = FI42 149 from up_row u55 (by decide) rfl]; exact rl48
        have rl58 : rl_pm (FI54 121 90) (FI54 121 73) (FI54 166) (FI54 167) (FI54 168) := by rw [show FI54 166 = FI42 166 from up_row u55 (by decide) rfl, show FI54 167 = FI42 167 from up_row u55 (by decide) rfl, show FI54 168 = FI42 168 from up_row u55 (by decide) rfl, show FI54 121 90 = FI42 121 90 from up_k u55 (by decide) rfl, show FI54 121 73 = FI42 121 73 from up_k u55 (by decide) rfl]; exact rl46
        have hI59 : g_I FI54 := gU_121_68 hI43 u55 (by have := (e53 : (x52).toInt = (((x1).toInt) + (1)) + (1)); omega) (by have := (e53 : (x52).toInt = (((x1).toInt) + (1)) + (1)); omega)
        refine hw_aloadn (aX12_registered 48 rfl) rfl ?_
        refine hw_aloadn (aX12_registered 49 rfl) rfl ?_
        refine hw_aloadn (aX12_registered 50 rfl) rfl ?_
        refine hw_get (v := .int (x52)) (aX12_registered 51 rfl) wf_RX12_478 (c121 hS) (s121 hS) (by decide) (congrArg Value.int (show FI54 121 68 = x52 from up_eq u55)) ?_
        refine hw_callV (Bs := [.int (x52)]) (rest := [.ref (base + 121)]) (aX12_registered 52 rfl) wc_RX12_589 (by decide) rfl wi_yX12_combined wv_yX12_combined (c121 hS) (s121 hS) rfl rfl rfl (Nat.le_of_ble_eq_true rfl) (Nat.le_of_ble_eq_true rfl) (n_combined (d := d) hS hF hI59 (x52) (by have := (e53 : (x52).toInt = (((x1).toInt) + (1)) + (1)); have := congrArg Int32.toInt (show FI54 121 67 = x4 from (up_k u55 (by decide) ((gf_at f44 (c121 hS) (s121 hS) rfl ((up_k u20 (by decide) (h5))))))); omega) (by have := congrArg Int32.toInt (show FI54 121 68 = x52 from up_eq u55); have := (e53 : (x52).toInt = (((x1).toInt) + (1)) + (1)); have := (e53 : (x52).toInt = (((x1).toInt) + (1)) + (1)); omega) (by have := (e53 : (x52).toInt = (((x1).toInt) + (1)) + (1)); have := (e53 : (x52).toInt = (((x1).toInt) + (1)) + (1)); omega) (show rl_e (FI54 149) (FI54 121 67) from rl56)) (fun v60 sv61 p62 => ?_)
        have := congrArg Int32.toInt (show FI54 121 68 = x52 from up_eq u55)
        have := (e53 : (x52).toInt = (((x1).toInt) + (1)) + (1))
        have := congrArg Int32.toInt (show FI54 121 68 = x52 from up_eq u55)
        have := (e53 : (x52).toInt = (((x1).toInt) + (1)) + (1))
        have := congrArg Int32.toInt (show FI54 121 68 = x52 from up_eq u55)
        have := (e53 : (x52).toInt = (((x1).toInt) + (1)) + (1))
        have := congrArg Int32.toInt (show FI54 121 68 = x52 from up_eq u55)
        have := (e53 : (x52).toInt = (((x1).toInt) + (1)) + (1))
        obtain ⟨r63, rfl, FI64, rfl, hI65, f66, t67, t68, t69, u70⟩ := p62
        have rl71 : rl_e (FI64 149) (FI64 121 67) := by rw [show FI64 149 = FI54 149 from gf_row f66 (c149 hS) (s149 hS) rfl rfl, show FI64 121 67 = FI54 121 67 from gf_at f66 (c121 hS) (s121 hS) rfl rfl]; exact rl56
        have rl72 : rl_t (FI64 149) (FL 150) := by rw [show FI64 149 = FI54 149 from gf_row f66 (c149 hS) (s149 hS) rfl rfl]; exact rl57
        have rl73 : rl_pm (FI64 121 90) (FI64 121 73) (FI64 166) (FI64 167) (FI64 168) := by rw [show FI64 166 = FI54 166 from gf_row f66 (c166 hS) (s166 hS) rfl rfl, show FI64 167 = FI54 167 from gf_row f66 (c167 hS) (s167 hS) rfl rfl, show FI64 168 = FI54 168 from gf_row f66 (c168 hS) (s168 hS) rfl rfl, show FI64 121 90 = FI54 121 90 from gf_at f66 (c121 hS) (s121 hS) rfl rfl, show FI64 121 73 = FI54 121 73 from gf_at f66 (c121 hS) (s121 hS) rfl rfl]; exact rl58
        have rg_r63 := l_rng r63
        obtain ⟨x74, h75⟩ : ∃ y, FI64 121 68 = y := ⟨_, rfl⟩
        have h75l := congrArg Int32.toInt h75
        have b76 := gI_121_68 hI65; rw [h75] at b76
        have := congrArg Int32.toInt (show FI64 121 67 = x4 from (gf_at f66 (c121 hS) (s121 hS) rfl ((up_k u55 (by decide) ((gf_at f44 (c121 hS) (s121 hS) rfl ((up_k u20 (by decide) (h5)))))))))
        show hw zk base _ _ _ _ _ [.long (r63), .ref (base + 121)] _ _
        refine hw_callV (Bs := [.long (r63)]) (rest := []) (aX12_registered 53 rfl) wc_RX12_593 (by decide) rfl wi_yX12_signed wv_yX12_signed (c121 hS) (s121 hS) rfl rfl rfl (Nat.le_of_ble_eq_true rfl) (Nat.le_of_ble_eq_true rfl) (n_signed (d := d + 1) hS hF hI65 (r63) (by have := congrArg Int32.toInt (show FI64 121 73 = x49 from (gf_at f66 (c121 hS) (s121 hS) rfl ((up_k u55 (by decide) (h50))))); omega) (show rl_pm (FI64 121 90) (FI64 121 73) (FI64 166) (FI64 167) (FI64 168) from rl73)) (fun v77 sv78 p79 => ?_)
        have := congrArg Int32.toInt (show FI64 121 73 = x49 from (gf_at f66 (c121 hS) (s121 hS) rfl ((up_k u55 (by decide) (h50)))))
        have := congrArg Int32.toInt (show FI64 121 73 = x49 from (gf_at f66 (c121 hS) (s121 hS) rfl ((up_k u55 (by decide) (h50)))))
        have := congrArg Int32.toInt (show FI64 121 73 = x49 from (gf_at f66 (c121 hS) (s121 hS) rfl ((up_k u55 (by decide) (h50)))))
        obtain ⟨rfl, FI81, rfl, hI82, f83, t84, t85, t86, rl87⟩ := p79
        have rl88 : rl_e (FI81 149) (FI81 121 67) := by rw [show FI81 149 = FI64 149 from gf_row f83 (c149 hS) (s149 hS) rfl rfl, show FI81 121 67 = FI64 121 67 from gf_at f83 (c121 hS) (s121 hS) rfl rfl]; exact rl71
        have rl89 : rl_t (FI81 149) (FL 150) := by rw [show FI81 149 = FI64 149 from gf_row f83 (c149 hS) (s149 hS) rfl rfl]; exact rl72
        obtain ⟨x90, h91⟩ : ∃ y, FI81 121 73 = y := ⟨_, rfl⟩
        have h91l := congrArg Int32.toInt h91
        have b92 := gI_121_73 hI82; rw [h91] at b92
        show hw zk base _ _ _ _ _ [] _ _
        refine xw_vret (aX12_registered 54 rfl) rfl ?_
        exact ⟨rfl, FI81, rfl, hI82, (gf_tr ex_rf (gf_tr ex_rf (gf_f (gf_tr ex_rf (gf_f gf_rf u20 (by decide)) f44 rfl rfl rfl) u55 (by decide)) f66 rfl rfl rfl) f83 rfl rfl rfl), (by have := congrArg Int32.toInt (show FI81 121 67 = x4 from (gf_at f83 (c121 hS) (s121 hS) rfl ((gf_at f66 (c121 hS) (s121 hS) rfl ((up_k u55 (by decide) ((gf_at f44 (c121 hS) (s121 hS) rfl ((up_k u20 (by decide) (h5))))))))))); have := congrArg Int32.toInt (show FI81 121 68 = x74 from (gf_at f83 (c121 hS) (s121 hS) rfl (h75))); omega), (by have := congrArg Int32.toInt (show FI81 121 68 = x74 from (gf_at f83 (c121 hS) (s121 hS) rfl (h75))); omega), (by have := congrArg Int32.toInt (show FI81 121 73 = x90 from h91); omega), (by have := congrArg Int32.toInt (show FI81 121 73 = x90 from h91); omega), (by have := congrArg Int32.toInt (show FI81 121 68 = x74 from (gf_at f83 (c121 hS) (s121 hS) rfl (h75))); have := congrArg Int32.toInt (show FI81 121 69 = x7 from (gf_at f83 (c121 hS) (s121 hS) rfl ((gf_at f66 (c121 hS) (s121 hS) rfl ((up_k u55 (by decide) ((gf_at f44 (c121 hS) (s121 hS) rfl ((up_k u20 (by decide) (h8))))))))))); omega), (by have := congrArg Int32.toInt (show FI81 121 68 = x74 from (gf_at f83 (c121 hS) (s121 hS) rfl (h75))); have := congrArg Int32.toInt (show FI81 121 69 = x7 from (gf_at f83 (c121 hS) (s121 hS) rfl ((gf_at f66 (c121 hS) (s121 hS) rfl ((up_k u55 (by decide) ((gf_at f44 (c121 hS) (s121 hS) rfl ((up_k u20 (by decide) (h8))))))))))); have := congrArg Int32.toInt (show FI81 121 73 = x90 from h91); omega), (by have := congrArg Int32.toInt (show FI81 121 68 = x74 from (gf_at f83 (c121 hS) (s121 hS) rfl (h75))); have := congrArg Int32.toInt (show FI81 121 69 = x7 from (gf_at f83 (c121 hS) (s121 hS) rfl ((gf_at f66 (c121 hS) (s121 hS) rfl ((up_k u55 (by decide) ((gf_at f44 (c121 hS) (s121 hS) rfl ((up_k u20 (by decide) (h8))))))))))); intro h0; have hc := u70; rw [show FI54 149 = FI 149 from (up_row u55 (by decide) ((gf_row f44 (c149 hS) (s149 hS) rfl ((up_row u20 (by decide) (rfl)))))), show FI54 166 = FI 166 from (up_row u55 (by decide) ((gf_row f44 (c166 hS) (s166 hS) rfl ((up_row u20 (by decide) (rfl)))))), show FI54 121 90 = FI 121 90 from ((up_k u55 (by decide) ((gf_at f44 (c121 hS) (s121 hS) rfl ((up_k u20 (by decide) (h13))))))).trans (h13).symm, show (x52).toInt.toNat = (FI 121 68).toInt.toNat + 2 by omega, ← (show FI81 121 68 = FI64 121 68 from ((gf_at f83 (c121 hS) (s121 hS) rfl (h75))).trans (h75).symm)] at hc; exact ⟨kq32, kq33, hc⟩), (show rl_pm (FI81 121 90) (FI81 121 73) (FI81 166) (FI81 167) (FI81 168) from rl87)⟩
      · refine xw_vret (aX12_registered 31 rfl) rfl ?_
        exact ⟨rfl, FI19, rfl, hI24, (gf_f gf_rf u20 (by decide)), (by have := congrArg Int32.toInt (show FI19 121 67 = x4 from (up_k u20 (by decide) (h5))); have := congrArg Int32.toInt (show FI19 121 68 = x17 from up_eq u20); have := (e18 : (x17).toInt = ((x1).toInt) + (1)); omega), (by have := congrArg Int32.toInt (show FI19 121 68 = x17 from up_eq u20); have := (e18 : (x17).toInt = ((x1).toInt) + (1)); omega), (by have := congrArg Int32.toInt (show FI19 121 73 = x9 from (up_k u20 (by decide) (h10))); omega), (by have := congrArg Int32.toInt (show FI19 121 73 = x9 from (up_k u20 (by decide) (h10))); omega), (by have := congrArg Int32.toInt (show FI19 121 68 = x17 from up_eq u20); have := (e18 : (x17).toInt = ((x1).toInt) + (1)); have := congrArg Int32.toInt (show FI19 121 69 = x7 from (up_k u20 (by decide) (h8))); omega), (by have := congrArg Int32.toInt (show FI19 121 68 = x17 from up_eq u20); have := (e18 : (x17).toInt = ((x1).toInt) + (1)); have := congrArg Int32.toInt (show FI19 121 69 = x7 from (up_k u20 (by decide) (h8))); have := congrArg Int32.toInt (show FI19 121 73 = x9 from (up_k u20 (by decide) (h10))); omega), (by have := congrArg Int32.toInt (show FI19 121 69 = x7 from (up_k u20 (by decide) (h8))); exact fun h => absurd h (by omega)), (show rl_pm (FI19 121 90) (FI19 121 73) (FI19 166) (FI19 167) (FI19 168) from rl23)⟩
    · refine hw_aloadn (aX12_registered 25 rfl) rfl ?_
      refine hw_ic (v := (2 : Int32)) (aX12_registered 26 rfl) (by decide) ?_
      refine hw_callV (Bs := [.int ((2 : Int32))]) (rest := []) (aX12_registered 27 rfl) wc_RX12_487 (by decide) rfl wi_yX12_fail wv_yX12_fail (c121 hS) (s121 hS) rfl rfl rfl (Nat.le_of_ble_eq_true rfl) (Nat.le_of_ble_eq_true rfl) (n_fail (d := d + 2) hS hF hI24 ((2 : Int32)) (by have := ((by decide : (2 : Int32).toInt = 2) : ((2 : Int32)).toInt = 2); omega)) (fun v93 sv94 p95 => ?_)
      obtain ⟨rfl, FI97, rfl, hI98, f99, t100⟩ := p95
      have rl101 : rl_e (FI97 149) (FI97 121 67) := by rw [show FI97 149 = FI19 149 from gf_row f99 (c149 hS) (s149 hS) rfl rfl, show FI97 121 67 = FI19 121 67 from gf_at f99 (c121 hS) (s121 hS) rfl rfl]; exact rl21
      have rl102 : rl_t (FI97 149) (FL 150) := by rw [show FI97 149 = FI19 149 from gf_row f99 (c149 hS) (s149 hS) rfl rfl]; exact rl22
      have rl103 : rl_pm (FI97 121 90) (FI97 121 73) (FI97 166) (FI97 167) (FI97 168) := by rw [show FI97 166 = FI19 166 from gf_row f99 (c166 hS) (s166 hS) rfl rfl, show FI97 167 = FI19 167 from gf_row f99 (c167 hS) (s167 hS) rfl rfl, show FI97 168 = FI19 168 from gf_row f99 (c168 hS) (s168 hS) rfl rfl, show FI97 121 90 = FI19 121 90 from gf_at f99 (c121 hS) (s121 hS) rfl rfl, show FI97 121 73 = FI19 121 73 from gf_at f99 (c121 hS) (s121 hS) rfl rfl]; exact rl23
      obtain ⟨x104, h105⟩ : ∃ y, FI97 121 69 = y := ⟨_, rfl⟩
      have h105l := congrArg Int32.toInt h105
      have := i_rng x104
      show hw zk base _ _ _ _ _ [] _ _
      refine hw_aloadn (aX12_registered 28 rfl) rfl ?_
      refine hw_get (v := .int (x104)) (aX12_registered 29 rfl) wf_RX12_475 (c121 hS) (s121 hS) (by decide) (congrArg Value.int (show FI97 121 69 = x104 from h105)) ?_
      refine hw_ifeq (tgt := 60) (aX12_registered 30 rfl) (by decide) rfl (fun cd106 => ?_) (fun cd106 => ?_)
      · omega
      · refine xw_vret (aX12_registered 31 rfl) rfl ?_
        exact ⟨rfl, FI97, rfl, hI98, (gf_tr ex_rf (gf_f gf_rf u20 (by decide)) f99 rfl rfl rfl), (by have := congrArg Int32.toInt (show FI97 121 67 = x4 from (gf_at f99 (c121 hS) (s121 hS) rfl ((up_k u20 (by decide) (h5))))); have := congrArg Int32.toInt (show FI97 121 68 = x17 from (gf_at f99 (c121 hS) (s121 hS) rfl (up_eq u20))); have := (e18 : (x17).toInt = ((x1).toInt) + (1)); omega), (by have := congrArg Int32.toInt (show FI97 121 68 = x17 from (gf_at f99 (c121 hS) (s121 hS) rfl (up_eq u20))); have := (e18 : (x17).toInt = ((x1).toInt) + (1)); omega), (by have := congrArg Int32.toInt (show FI97 121 73 = x9 from (gf_at f99 (c121 hS) (s121 hS) rfl ((up_k u20 (by decide) (h10))))); omega), (by have := congrArg Int32.toInt (show FI97 121 73 = x9 from (gf_at f99 (c121 hS) (s121 hS) rfl ((up_k u20 (by decide) (h10))))); omega), (by have := congrArg Int32.toInt (show FI97 121 68 = x17 from (gf_at f99 (c121 hS) (s121 hS) rfl (up_eq u20))); have := (e18 : (x17).toInt = ((x1).toInt) + (1)); have := congrArg Int32.toInt (show FI97 121 69 = x104 from h105); omega), (by have := congrArg Int32.toInt (show FI97 121 68 = x17 from (gf_at f99 (c121 hS) (s121 hS) rfl (up_eq u20))); have := (e18 : (x17).toInt = ((x1).toInt) + (1)); have := congrArg Int32.toInt (show FI97 121 69 = x104 from h105); have := congrArg Int32.toInt (show FI97 121 73 = x9 from (gf_at f99 (c121 hS) (s121 hS) rfl ((up_k u20 (by decide) (h10))))); omega), (by have := congrArg Int32.toInt (show FI97 121 69 = x104 from h105); exact fun h => absurd h (by omega)), (show rl_pm (FI97 121 90) (FI97 121 73) (FI97 166) (FI97 167) (FI97 168) from rl103)⟩
  · refine hw_aloadn (aX12_registered 13 rfl) rfl ?_
    refine hw_ic (v := (1 : Int32)) (aX12_registered 14 rfl) (by decide) ?_
    refine hw_callV (Bs := [.int ((1 : Int32))]) (rest := []) (aX12_registered 15 rfl) wc_RX12_487 (by decide) rfl wi_yX12_fail wv_yX12_fail (c121 hS) (s121 hS) rfl rfl rfl (Nat.le_of_ble_eq_true rfl) (Nat.le_of_ble_eq_true rfl) (n_fail (d := d + 2) hS hF hI24 ((1 : Int32)) (by have := ((by decide : (1 : Int32).toInt = 1) : ((1 : Int32)).toInt = 1); omega)) (fun v107 sv108 p109 => ?_)
    obtain ⟨rfl, FI111, rfl, hI112, f113, t114⟩ := p109
    have rl115 : rl_e (FI111 149) (FI111 121 67) := by rw [show FI111 149 = FI19 149 from gf_row f113 (c149 hS) (s149 hS) rfl rfl, show FI111 121 67 = FI19 121 67 from gf_at f113 (c121 hS) (s121 hS) rfl rfl]; exact rl21
    have rl116 : rl_t (FI111 149) (FL 150) := by rw [show FI111 149 = FI19 149 from gf_row f113 (c149 hS) (s149 hS) rfl rfl]; exact rl22
    have rl117 : rl_pm (FI111 121 90) (FI111 121 73) (FI111 166) (FI111 167) (FI111 168) := by rw [show FI111 166 = FI19 166 from gf_row f113 (c166 hS) (s166 hS) rfl rfl, show FI111 167 = FI19 167 from gf_row f113 (c167 hS) (s167 hS) rfl rfl, show FI111 168 = FI19 168 from gf_row f113 (c168 hS) (s168 hS) rfl rfl, show FI111 121 90 = FI19 121 90 from gf_at f113 (c121 hS) (s121 hS) rfl rfl, show FI111 121 73 = FI19 121 73 from gf_at f113 (c121 hS) (s121 hS) rfl rfl]; exact rl23
    obtain ⟨x118, h119⟩ : ∃ y, FI111 121 69 = y := ⟨_, rfl⟩
    have h119l := congrArg Int32.toInt h119
    have := i_rng x118
    show hw zk base _ _ _ _ _ [] _ _
    refine xw_goto (tgt := 52) (aX12_registered 16 rfl) (by decide) ?_
    refine hw_aloadn (aX12_registered 28 rfl) rfl ?_
    refine hw_get (v := .int (x118)) (aX12_registered 29 rfl) wf_RX12_475 (c121 hS) (s121 hS) (by decide) (congrArg Value.int (show FI111 121 69 = x118 from h119)) ?_
    refine hw_ifeq (tgt := 60) (aX12_registered 30 rfl) (by decide) rfl (fun cd120 => ?_) (fun cd120 => ?_)
    · omega
    · refine xw_vret (aX12_registered 31 rfl) rfl ?_
      exact ⟨rfl, FI111, rfl, hI112, (gf_tr ex_rf (gf_f gf_rf u20 (by decide)) f113 rfl rfl rfl), (by have := congrArg Int32.toInt (show FI111 121 67 = x4 from (gf_at f113 (c121 hS) (s121 hS) rfl ((up_k u20 (by decide) (h5))))); have := congrArg Int32.toInt (show FI111 121 68 = x17 from (gf_at f113 (c121 hS) (s121 hS) rfl (up_eq u20))); have := (e18 : (x17).toInt = ((x1).toInt) + (1)); omega), (by have := congrArg Int32.toInt (show FI111 121 68 = x17 from (gf_at f113 (c121 hS) (s121 hS) rfl (up_eq u20))); have := (e18 : (x17).toInt = ((x1).toInt) + (1)); omega), (by have := congrArg Int32.toInt (show FI111 121 73 = x9 from (gf_at f113 (c121 hS) (s121 hS) rfl ((up_k u20 (by decide) (h10))))); omega), (by have := congrArg Int32.toInt (show FI111 121 73 = x9 from (gf_at f113 (c121 hS) (s121 hS) rfl ((up_k u20 (by decide) (h10))))); omega), (by have := congrArg Int32.toInt (show FI111 121 68 = x17 from (gf_at f113 (c121 hS) (s121 hS) rfl (up_eq u20))); have := (e18 : (x17).toInt = ((x1).toInt) + (1)); have := congrArg Int32.toInt (show FI111 121 69 = x118 from h119); omega), (by have := congrArg Int32.toInt (show FI111 121 68 = x17 from (gf_at f113 (c121 hS) (s121 hS) rfl (up_eq u20))); have := (e18 : (x17).toInt = ((x1).toInt) + (1)); have := congrArg Int32.toInt (show FI111 121 69 = x118 from h119); have := congrArg Int32.toInt (show FI111 121 73 = x9 from (gf_at f113 (c121 hS) (s121 hS) rfl ((up_k u20 (by decide) (h10))))); omega), (by have := congrArg Int32.toInt (show FI111 121 69 = x118 from h119); exact fun h => absurd h (by omega)), (show rl_pm (FI111 121 90) (FI111 121 73) (FI111 166) (FI111 167) (FI111 168) from rl117)⟩
end
