def nX12_faulty : Nat := 0xac02577c01b61c1b2a0201b5032a2b01b5032a
theorem bX12_faulty : cX12_faulty.data.toList.map UInt8.toNat = x_un nX12_faulty 19 := by decide +kernel
def iX12_faulty : List (Nat × Jvm.ClassFile.Instr × Nat) := [(0, .aload_n 0, 1), (1, .iconst 0, 1), (2, .putfield 299, 3), (5, .aload_n 0, 1), (6, .iconst 0, 1), (7, .putfield 258, 3), (10, .aload_n 0, 1), (11, .iload_n 1, 1), (12, .iload_n 2, 1), (13, .invokevirtual 380, 3), (16, .pop, 1), (17, .iconst (-1), 1), (18, .ireturn, 1)]
theorem dX12_faulty : x_il nX12_faulty 19 iX12_faulty = true := by decide +kernel
theorem aX12_faulty (k : Nat) {pc : Nat} {i : Jvm.ClassFile.Instr} {len : Nat} (hk : iX12_faulty[k]? = some (pc, i, len)) : x_at xMM 224 pc i len yX12_faulty 3 (some .int) := ⟨cX12_faulty, rfl, x_il_ok bX12_faulty dX12_faulty k hk⟩
set_option maxHeartbeats 4000000 in
set_option maxRecDepth 100000 in
theorem n_faulty {zk : xK} {base d n sl : Nat} {SH : Nat → Nat × Nat} {FI : Nat → Nat → Int32} {FL : Nat → Nat → Int64} {FR : Nat → Nat → Option Nat} (hS : h_S n SH) (hF : h_FR FR) (hI : g_I FI) (a1 : Int32) (a2 : Int32) : hw zk base (d + 1) none 224 0 [(0, .ref (base + 121)), (1, .int (a1)), (2, .int (a2))] [] (n, sl, SH, FI, FL, FR) (h_I (fun r s => ∃ FI', s = (n, sl, SH, FI', FL, FR) ∧ g_I FI' ∧ g_fr n SH [(121, 31), (121, 32), (121, 53), (121, 54), (121, 55), (121, 56), (121, 57)] [] [] FI FI')) := by
  have rg_a1 := i_rng a1
  have rg_a2 := i_rng a2
  refine hw_aloadn (aX12_faulty 0 rfl) rfl ?_
  refine hw_ic (v := (0 : Int32)) (aX12_faulty 1 rfl) (by decide) ?_
  refine hv_puti (aX12_faulty 2 rfl) wf_RX12_299 (c121 hS) (s121 hS) (by decide) rfl rfl (fun FI1 u2 => ?_)
  have hI3 : g_I FI1 := gU_F hI u2 rfl
  refine hw_aloadn (aX12_faulty 3 rfl) rfl ?_
  refine hw_ic (v := (0 : Int32)) (aX12_faulty 4 rfl) (by decide) ?_
  refine hv_puti (aX12_faulty 5 rfl) wf_RX12_258 (c121 hS) (s121 hS) (by decide) rfl rfl (fun FI4 u5 => ?_)
  have hI6 : g_I FI4 := gU_F hI3 u5 rfl
  refine hw_aloadn (aX12_faulty 6 rfl) rfl ?_
  refine xw_iloadn (aX12_faulty 7 rfl) rfl ?_
  refine xw_iloadn (aX12_faulty 8 rfl) rfl ?_
  refine hw_callV (Bs := [.int (a1), .int (a2)]) (rest := []) (aX12_faulty 9 rfl) wc_RX12_380 (by decide) rfl wi_yX12_tells wv_yX12_tells (c121 hS) (s121 hS) rfl rfl rfl (Nat.le_of_ble_eq_true rfl) (Nat.le_of_ble_eq_true rfl) (n_tells (d := d) hS hF hI6 (a1) (a2) ) (fun v7 sv8 p9 => ?_)
  obtain ⟨r10, rfl, FI11, rfl, hI12, f13, t14⟩ := p9
  have rg_r10 := i_rng r10
  show hw zk base _ _ _ _ _ [.int (r10)] _ _
  refine xw_pop (aX12_faulty 10 rfl) rfl ?_
  refine hw_ic (v := ((-1) : Int32)) (aX12_faulty 11 rfl) (by decide) ?_
  refine xw_iret (aX12_faulty 12 rfl) rfl rfl ?_
  have e15 : (((-1) : Int32)).toInt = (-1) := (by decide : ((-1) : Int32).toInt = (-1))
  exact ⟨((-1) : Int32), rfl, FI11, rfl, hI12, (gf_tr ex_rf (gf_f (gf_f gf_rf u2 (by decide)) u5 (by decide)) f13 rfl rfl rfl)⟩
def nX12_keepsSign : Nat := 0xac030400a70407009a94851b2f9002b42a7500b42a1600a0082e9002b42a7200b42a
theorem bX12_keepsSign : cX12_keepsSign.data.toList.map UInt8.toNat = x_un nX12_keepsSign 34 := by decide +kernel
def iX12_keepsSign : List (Nat × Jvm.ClassFile.Instr × Nat) := [(0, .aload_n 0, 1), (1, .getfield 114, 3), (4, .aload_n 0, 1), (5, .getfield 656, 3), (8, .iaload, 1), (9, .iconst 5, 1), (10, .if_icmp .ne 22, 3), (13, .aload_n 0, 1), (14, .getfield 117, 3), (17, .aload_n 0, 1), (18, .getfield 656, 3), (21, .laload, 1), (22, .iload_n 1, 1), (23, .i2l, 1), (24, .lcmp, 1), (25, .ifCond .ne 7, 3), (28, .iconst 1, 1), (29, .goto 4, 3), (32, .iconst 0, 1), (33, .ireturn, 1)]
theorem dX12_keepsSign : x_il nX12_keepsSign 34 iX12_keepsSign = true := by decide +kernel
theorem aX12_keepsSign (k : Nat) {pc : Nat} {i : Jvm.ClassFile.Instr} {len : Nat} (hk : iX12_keepsSign[k]? = some (pc, i, len)) : x_at xMM 254 pc i len yX12_keepsSign 2 (some .boolean) := ⟨cX12_keepsSign, rfl, x_il_ok bX12_keepsSign dX12_keepsSign k hk⟩
set_option maxHeartbeats 4000000 in
set_option maxRecDepth 100000 in
theorem n_keepsSign {zk : xK} {base d n sl : Nat} {SH : Nat → Nat × Nat} {FI : Nat → Nat → Int32} {FL : Nat → Nat → Int64} {FR : Nat → Nat → Option Nat} (hS : h_S n SH) (hF : h_FR FR) (hI : g_I FI) (a1 : Int32) : hw zk base d none 254 0 [(0, .ref (base + 121)), (1, .int (a1))] [] (n, sl, SH, FI, FL, FR) (h_I (fun r s => s = (n, sl, SH, FI, FL, FR) ∧ (0 ≤ r.toInt ∧ r.toInt ≤ 1) ∧ ((r.toInt = 1 ↔ (kf (FI 152) (FI 121 92).toInt.toNat = 5 ∧ wf (FL 153) (FI 121 92).toInt.toNat = (a1).toInt))))) := by
  have rg_a1 := i_rng a1
  refine hw_aloadn (aX12_keepsSign 0 rfl) rfl ?_
  refine hw_get (v := .ref (base + 152)) (aX12_keepsSign 1 rfl) wf_RX12_114 (c121 hS) (s121 hS) (by decide) (congrArg (fun r => va_rf (h_rf base r)) (r121_65 hF)) ?_
  refine hw_aloadn (aX12_keepsSign 2 rfl) rfl ?_
  obtain ⟨x1, h2⟩ : ∃ y, FI 121 92 = y := ⟨_, rfl⟩
  have h2l := congrArg Int32.toInt h2
  have b3 := gI_121_92 hI; rw [h2] at b3
  refine hw_get (v := .int (x1)) (aX12_keepsSign 3 rfl) wf_RX12_656 (c121 hS) (s121 hS) (by decide) (congrArg Value.int (show FI 121 92 = x1 from h2)) ?_
  obtain ⟨x4, h5⟩ : ∃ y, FI 152 (x1).toNatClampNeg = y := ⟨_, rfl⟩
  have h5l := congrArg Int32.toInt h5
  have := i_rng x4
  refine hw_iald (v := x4) (aX12_keepsSign 4 rfl) (c152 hS) (s152 hS) (h_in rfl (by omega) (by omega)) (show FI 152 (x1).toNatClampNeg = x4 from h5) ?_
  refine hw_ic (v := (5 : Int32)) (aX12_keepsSign 5 rfl) (by decide) ?_
  refine hw_icne (tgt := 32) (aX12_keepsSign 6 rfl) (by decide) rfl (by decide : (5 : Int32).toInt = 5) (fun cd6 => ?_) (fun cd6 => ?_)
  · refine hw_ic (v := (0 : Int32)) (aX12_keepsSign 18 rfl) (by decide) ?_
    refine xw_iret (aX12_keepsSign 19 rfl) rfl (by decide) ?_
    have e7 : ((0 : Int32)).toInt = 0 := (by decide : (0 : Int32).toInt = 0)
    exact ⟨(0 : Int32), rfl, rfl, (by have : ((0 : Int32)).toInt = 0 := (by decide); omega), (by have e : (FI 121 92).toInt.toNat = (x1).toNatClampNeg := (i_cl (congrArg Int32.toInt (h2)).symm).symm; unfold kf wf; rw [e]; have := congrArg Int32.toInt (h5); have hz : (((0 : Int32))).toInt = 0 := (by decide : (0 : Int32).toInt = 0); omega)⟩
  · refine hw_aloadn (aX12_keepsSign 7 rfl) rfl ?_
    refine hw_get (v := .ref (base + 153)) (aX12_keepsSign 8 rfl) wf_RX12_117 (c121 hS) (s121 hS) (by decide) (congrArg (fun r => va_rf (h_rf base r)) (r121_66 hF)) ?_
    refine hw_aloadn (aX12_keepsSign 9 rfl) rfl ?_
    refine hw_get (v := .int (x1)) (aX12_keepsSign 10 rfl) wf_RX12_656 (c121 hS) (s121 hS) (by decide) (congrArg Value.int (show FI 121 92 = x1 from h2)) ?_
    obtain ⟨x8, h9⟩ : ∃ y, FL 153 (x1).toNatClampNeg = y := ⟨_, rfl⟩
    have h9l := congrArg Int64.toInt h9
    have := l_rng x8
    refine hw_lald (v := x8) (aX12_keepsSign 11 rfl) (c153 hS) (s153 hS) (h_in rfl (by omega) (by omega)) (show FL 153 (x1).toNatClampNeg = x8 from h9) ?_
    refine xw_iloadn (aX12_keepsSign 12 rfl) rfl ?_
    refine xw_i2l (aX12_keepsSign 13 rfl) ?_
    refine hw_tle (A := (a1).toInt) (i_2l rfl) (fun x10 e11 => ?_)
    refine hw_lcne (tgt := 32) (aX12_keepsSign 14 rfl) (aX12_keepsSign 15 rfl) (by decide) rfl e11 (fun cd12 => ?_) (fun cd12 => ?_)
    · refine hw_ic (v := (0 : Int32)) (aX12_keepsSign 18 rfl) (by decide) ?_
      refine xw_iret (aX12_keepsSign 19 rfl) rfl (by decide) ?_
      have e13 : ((0 : Int32)).toInt = 0 := (by decide : (0 : Int32).toInt = 0)
      exact ⟨(0 : Int32), rfl, rfl, (by have : ((0 : Int32)).toInt = 0 := (by decide); omega), (by have e : (FI 121 92).toInt.toNat = (x1).toNatClampNeg := (i_cl (congrArg Int32.toInt (h2)).symm).symm; unfold kf wf; rw [e]; have := congrArg Int32.toInt (h5); have hz : (((0 : Int32))).toInt = 0 := (by decide : (0 : Int32).toInt = 0); have := congrArg Int64.toInt (h9); omega)⟩
    · refine hw_ic (v := (1 : Int32)) (aX12_keepsSign 16 rfl) (by decide) ?_
      refine xw_goto (tgt := 33) (aX12_keepsSign 17 rfl) (by decide) ?_
      refine xw_iret (aX12_keepsSign 19 rfl) rfl (by decide) ?_
      have e14 : ((1 : Int32)).toInt = 1 := (by decide : (1 : Int32).toInt = 1)
      exact ⟨(1 : Int32), rfl, rfl, (by have : ((1 : Int32)).toInt = 1 := (by decide); omega), (by have e : (FI 121 92).toInt.toNat = (x1).toNatClampNeg := (i_cl (congrArg Int32.toInt (h2)).symm).symm; unfold kf wf; rw [e]; have := congrArg Int32.toInt (h5); have hz : (((1 : Int32))).toInt = 1 := (by decide : (1 : Int32).toInt = 1); have := congrArg Int64.toInt (h9); omega)⟩
def nX12_keepsWord : Nat := 0xac030400a70407009a94851b2f9002b42a7500b42a1600a0052e9002b42a7200b42a
theorem bX12_keepsWord : cX12_keepsWord.data.toList.map UInt8.toNat = x_un nX12_keepsWord 34 := by decide +kernel
def iX12_keepsWord : List (Nat × Jvm.ClassFile.Instr × Nat) := [(0, .aload_n 0, 1), (1, .getfield 114, 3), (4, .aload_n 0, 1), (5, .getfield 656, 3), (8, .iaload, 1), (9, .iconst 2, 1), (10, .if_icmp .ne 22, 3), (13, .aload_n 0, 1), (14, .getfield 117, 3), (17, .aload_n 0, 1), (18, .getfield 656, 3), (21, .laload, 1), (22, .iload_n 1, 1), (23, .i2l, 1), (24, .lcmp, 1), (25, .ifCond .ne 7, 3), (28, .iconst 1, 1), (29, .goto 4, 3), (32, .iconst 0, 1), (33, .ireturn, 1)]
theorem dX12_keepsWord : x_il nX12_keepsWord 34 iX12_keepsWord = true := by decide +kernel
theorem aX12_keepsWord (k : Nat) {pc : Nat} {i : Jvm.ClassFile.Instr} {len : Nat} (hk : iX12_keepsWord[k]? = some (pc, i, len)) : x_at xMM 255 pc i len yX12_keepsWord 2 (some .boolean) := ⟨cX12_keepsWord, rfl, x_il_ok bX12_keepsWord dX12_keepsWord k hk⟩
set_option maxHeartbeats 4000000 in
set_option maxRecDepth 100000 in
theorem n_keepsWord {zk : xK} {base d n sl : Nat} {SH : Nat → Nat × Nat} {FI : Nat → Nat → Int32} {FL : Nat → Nat → Int64} {FR : Nat → Nat → Option Nat} (hS : h_S n SH) (hF : h_FR FR) (hI : g_I FI) (a1 : Int32) : hw zk base d none 255 0 [(0, .ref (base + 121)), (1, .int (a1))] [] (n, sl, SH, FI, FL, FR) (h_I (fun r s => s = (n, sl, SH, FI, FL, FR) ∧ (0 ≤ r.toInt ∧ r.toInt ≤ 1) ∧ ((r.toInt = 1 ↔ (kf (FI 152) (FI 121 92).toInt.toNat = 2 ∧ wf (FL 153) (FI 121 92).toInt.toNat = (a1).toInt))))) := by
  have rg_a1 := i_rng a1
  refine hw_aloadn (aX12_keepsWord 0 rfl) rfl ?_
  refine hw_get (v := .ref (base + 152)) (aX12_keepsWord 1 rfl) wf_RX12_114 (c121 hS) (s121 hS) (by decide) (congrArg (fun r => va_rf (h_rf base r)) (r121_65 hF)) ?_
  refine hw_aloadn (aX12_keepsWord 2 rfl) rfl ?_
  obtain ⟨x1, h2⟩ : ∃ y, FI 121 92 = y := ⟨_, rfl⟩
  have h2l := congrArg Int32.toInt h2
  have b3 := gI_121_92 hI; rw [h2] at b3
  refine hw_get (v := .int (x1)) (aX12_keepsWord 3 rfl) wf_RX12_656 (c121 hS) (s121 hS) (by decide) (congrArg Value.int (show FI 121 92 = x1 from h2)) ?_
  obtain ⟨x4, h5⟩ : ∃ y, FI 152 (x1).toNatClampNeg = y := ⟨_, rfl⟩
  have h5l := congrArg Int32.toInt h5
  have := i_rng x4
  refine hw_iald (v := x4) (aX12_keepsWord 4 rfl) (c152 hS) (s152 hS) (h_in rfl (by omega) (by omega)) (show FI 152 (x1).toNatClampNeg = x4 from h5) ?_
  refine hw_ic (v := (2 : Int32)) (aX12_keepsWord 5 rfl) (by decide) ?_
  refine hw_icne (tgt := 32) (aX12_keepsWord 6 rfl) (by decide) rfl (by decide : (2 : Int32).toInt = 2) (fun cd6 => ?_) (fun cd6 => ?_)
  · refine hw_ic (v := (0 : Int32)) (aX12_keepsWord 18 rfl) (by decide) ?_
    refine xw_iret (aX12_keepsWord 19 rfl) rfl (by decide) ?_
    have e7 : ((0 : Int32)).toInt = 0 := (by decide : (0 : Int32).toInt = 0)
    exact ⟨(0 : Int32), rfl, rfl, (by have : ((0 : Int32)).toInt = 0 := (by decide); omega), (by have e : (FI 121 92).toInt.toNat = (x1).toNatClampNeg := (i_cl (congrArg Int32.toInt (h2)).symm).symm; unfold kf wf; rw [e]; have := congrArg Int32.toInt (h5); have hz : (((0 : Int32))).toInt = 0 := (by decide : (0 : Int32).toInt = 0); omega)⟩
  · refine hw_aloadn (aX12_keepsWord 7 rfl) rfl ?_
    refine hw_get (v := .ref (base + 153)) (aX12_keepsWord 8 rfl) wf_RX12_117 (c121 hS) (s121 hS) (by decide) (congrArg (fun r => va_rf (h_rf base r)) (r121_66 hF)) ?_
    refine hw_aloadn (aX12_keepsWord 9 rfl) rfl ?_
    refine hw_get (v := .int (x1)) (aX12_keepsWord 10 rfl) wf_RX12_656 (c121 hS) (s121 hS) (by decide) (congrArg Value.int (show FI 121 92 = x1 from h2)) ?_
    obtain ⟨x8, h9⟩ : ∃ y, FL 153 (x1).toNatClampNeg = y := ⟨_, rfl⟩
    have h9l := congrArg Int64.toInt h9
    have := l_rng x8
    refine hw_lald (v := x8) (aX12_keepsWord 11 rfl) (c153 hS) (s153 hS) (h_in rfl (by omega) (by omega)) (show FL 153 (x1).toNatClampNeg = x8 from h9) ?_
    refine xw_iloadn (aX12_keepsWord 12 rfl) rfl ?_
    refine xw_i2l (aX12_keepsWord 13 rfl) ?_
    refine hw_tle (A := (a1).toInt) (i_2l rfl) (fun x10 e11 => ?_)
    refine hw_lcne (tgt := 32) (aX12_keepsWord 14 rfl) (aX12_keepsWord 15 rfl) (by decide) rfl e11 (fun cd12 => ?_) (fun cd12 => ?_)
    · refine hw_ic (v := (0 : Int32)) (aX12_keepsWord 18 rfl) (by decide) ?_
      refine xw_iret (aX12_keepsWord 19 rfl) rfl (by decide) ?_
      have e13 : ((0 : Int32)).toInt = 0 := (by decide : (0 : Int32).toInt = 0)
      exact ⟨(0 : Int32), rfl, rfl, (by have : ((0 : Int32)).toInt = 0 := (by decide); omega), (by have e : (FI 121 92).toInt.toNat = (x1).toNatClampNeg := (i_cl (congrArg Int32.toInt (h2)).symm).symm; unfold kf wf; rw [e]; have := congrArg Int32.toInt (h5); have hz : (((0 : Int32))).toInt = 0 := (by decide : (0 : Int32).toInt = 0); have := congrArg Int64.toInt (h9); omega)⟩
    · refine hw_ic (v := (1 : Int32)) (aX12_keepsWord 16 rfl) (by decide) ?_
      refine xw_goto (tgt := 33) (aX12_keepsWord 17 rfl) (by decide) ?_
      refine xw_iret (aX12_keepsWord 19 rfl) rfl (by decide) ?_
      have e14 : ((1 : Int32)).toInt = 1 := (by decide : (1 : Int32).toInt = 1)
      exact ⟨(1 : Int32), rfl, rfl, (by have : ((1 : Int32)).toInt = 1 := (by decide); omega), (by have e : (FI 121 92).toInt.toNat = (x1).toNatClampNeg := (i_cl (congrArg Int32.toInt (h2)).symm).symm; unfold kf wf; rw [e]; have := congrArg Int32.toInt (h5); have hz : (((1 : Int32))).toInt = 1 := (by decide : (1 : Int32).toInt = 1); have := congrArg Int64.toInt (h9); omega)⟩
set_option maxHeartbeats 4000000 in
set_option maxRecDepth 100000 in
theorem n_does {zk : xK} {base d n sl : Nat} {SH : Nat → Nat × Nat} {FI : Nat → Nat → Int32} {FL : Nat → Nat → Int64} {FR : Nat → Nat → Option Nat} (hS : h_S n SH) (hF : h_FR FR) (hI : g_I FI) : hw zk base d none 258 0 [(0, .ref (base + 121))] [] (n, sl, SH, FI, FL, FR) (h_I (fun r s => s = (n, sl, SH, FI, FL, FR) ∧ (0 ≤ r.toInt ∧ r.toInt ≤ 1))) := by
  obtain ⟨x1, h2⟩ : ∃ y, FI 121 104 = y := ⟨_, rfl⟩
  have h2l := congrArg Int32.toInt h2
  have b3 := gI_121_104 hI; rw [h2] at b3
  refine hw_aloadn (aX12_does 0 rfl) rfl ?_
  refine hw_get (v := .int (x1)) (aX12_does 1 rfl) wf_RX12_680 (c121 hS) (s121 hS) (by decide) (congrArg Value.int (show FI 121 104 = x1 from h2)) ?_
  refine hw_ifeq (tgt := 18) (aX12_does 2 rfl) (by decide) rfl (fun cd4 => ?_) (fun cd4 => ?_)
  · refine hw_ic (v := (0 : Int32)) (aX12_does 8 rfl) (by decide) ?_
    refine xw_iret (aX12_does 9 rfl) rfl (by decide) ?_
    have e5 : ((0 : Int32)).toInt = 0 := (by decide : (0 : Int32).toInt = 0)
    exact ⟨(0 : Int32), rfl, rfl, (by have : ((0 : Int32)).toInt = 0 := (by decide); omega)⟩
  · refine hw_aloadn (aX12_does 3 rfl) rfl ?_
    obtain ⟨x6, h7⟩ : ∃ y, FI 121 93 = y := ⟨_, rfl⟩
    have h7l := congrArg Int32.toInt h7
    have := i_rng x6
    refine hw_get (v := .int (x6)) (aX12_does 4 rfl) wf_RX12_653 (c121 hS) (s121 hS) (by decide) (congrArg Value.int (show FI 121 93 = x6 from h7)) ?_
    refine hw_ifne (tgt := 18) (aX12_does 5 rfl) (by decide) rfl (fun cd8 => ?_) (fun cd8 => ?_)
    · refine hw_ic (v := (0 : Int32)) (aX12_does 8 rfl) (by decide) ?_
      refine xw_iret (aX12_does 9 rfl) rfl (by decide) ?_
      have e9 : ((0 : Int32)).toInt = 0 := (by decide : (0 : Int32).toInt = 0)
      exact ⟨(0 : Int32), rfl, rfl, (by have : ((0 : Int32)).toInt = 0 := (by decide); omega)⟩
    · refine hw_ic (v := (1 : Int32)) (aX12_does 6 rfl) (by decide) ?_
      refine xw_goto (tgt := 19) (aX12_does 7 rfl) (by decide) ?_
      refine xw_iret (aX12_does 9 rfl) rfl (by decide) ?_
      have e10 : ((1 : Int32)).toInt = 1 := (by decide : (1 : Int32).toInt = 1)
      exact ⟨(1 : Int32), rfl, rfl, (by have : ((1 : Int32)).toInt = 1 := (by decide); omega)⟩
set_option maxHeartbeats 4000000 in
set_option maxRecDepth 100000 in
theorem n_value {zk : xK} {base d n sl : Nat} {SH : Nat → Nat × Nat} {FI : Nat → Nat → Int32} {FL : Nat → Nat → Int64} {FR : Nat → Nat → Option Nat} (hS : h_S n SH) (hF : h_FR FR) (hI : g_I FI) (a1 : Int64) (g0 : (FI 121 101).toInt ≤ 511) : hw zk base d none 259 0 [(0, .ref (base + 121)), (1, .long (a1))] [] (n, sl, SH, FI, FL, FR) (h_V (fun s => ∃ FI' FL', s = (n, sl, SH, FI', FL', FR) ∧ g_I FI' ∧ g_fr n SH [(121, 101)] [] [] FI FI' ∧ g_fr n SH [] [173] [] FL FL' ∧ ((FI' 121 101).toInt = (FI 121 101).toInt + 1))) := by
  have rg_a1 := l_rng a1
  obtain ⟨x1, h2⟩ : ∃ y, FI 121 101 = y := ⟨_, rfl⟩
  have h2l := congrArg Int32.toInt h2
  have b3 := gI_121_101 hI; rw [h2] at b3
  refine hw_aloadn (aX12_value 0 rfl) rfl ?_
  refine hw_get (v := .ref (base + 173)) (aX12_value 1 rfl) wf_RX12_178 (c121 hS) (s121 hS) (by decide) (congrArg (fun r => va_rf (h_rf base r)) (r121_100 hF)) ?_
  refine hw_aloadn (aX12_value 2 rfl) rfl ?_
  refine hw_get (v := .int (x1)) (aX12_value 3 rfl) wf_RX12_683 (c121 hS) (s121 hS) (by decide) (congrArg Value.int (show FI 121 101 = x1 from h2)) ?_
  refine xw_lloadn (aX12_value 4 rfl) rfl ?_
  refine hv_last (k := (x1).toNatClampNeg) (aX12_value 5 rfl) (c173 hS) (s173 hS) (h_in rfl (by omega) (by omega)) rfl (fun FL4 u5 => ?_)
  refine hw_aloadn (aX12_value 6 rfl) rfl ?_
  refine hw_aloadn (aX12_value 7 rfl) rfl ?_
  refine hw_get (v := .int (x1)) (aX12_value 8 rfl) wf_RX12_683 (c121 hS) (s121 hS) (by decide) (congrArg Value.int (show FI 121 101 = x1 from h2)) ?_
  refine hw_ic (v := (1 : Int32)) (aX12_value 9 rfl) (by decide) ?_
  refine xw_iadd (aX12_value 10 rfl) ?_
  refine hw_tie (A := ((x1).toInt) + (1)) (i_add rfl (by decide : (1 : Int32).toInt = 1) (by omega) (by omega)) (fun x6 e7 => ?_)
  refine hv_puti (aX12_value 11 rfl) wf_RX12_683 (c121 hS) (s121 hS) (by decide) rfl rfl (fun FI8 u9 => ?_)
  have hI10 : g_I FI8 := gU_121_101 hI u9 (by have := (e7 : (x6).toInt = ((x1).toInt) + (1)); omega) (by have := (e7 : (x6).toInt = ((x1).toInt) + (1)); omega)
  refine xw_vret (aX12_value 12 rfl) rfl ?_
  exact ⟨rfl, FI8, FL4, rfl, hI10, (gf_f gf_rf u9 (by decide)), (gf_a gf_rf u5 (by decide)), (by have := congrArg Int32.toInt (show FI8 121 101 = x6 from up_eq u9); have := (e7 : (x6).toInt = ((x1).toInt) + (1)); omega)⟩
set_option maxHeartbeats 4000000 in
set_option maxRecDepth 100000 in
theorem n_laterm {zk : xK} {base d n sl : Nat} {SH : Nat → Nat × Nat} {FI : Nat → Nat → Int32} {FL : Nat → Nat → Int64} {FR : Nat → Nat → Option Nat} (hS : h_S n SH) (hF : h_FR FR) (hI : g_I FI) (a1 : Int32) (a2 : Int32) (g0 : (FI 121 90).toInt ≤ 255) (g1 : (a2).toInt = 9 → ((a1).toInt = 31 ∨ (a1).toInt = 32 ∨ (a1).toInt = 155 ∨ (257 ≤ (a1).toInt ∧ (a1).toInt ≤ 264))) (rel_wm : rl_wm (FI 121 90) (FI 165) (FI 166)) : hw zk base d none 231 0 [(0, .ref (base + 121)), (1, .int (a1)), (2, .int (a2))] [] (n, sl, SH, FI, FL, FR) (h_V (fun s => ∃ FI', s = (n, sl, SH, FI', FL, FR) ∧ g_I FI' ∧ g_fr n SH [(121, 90)] [165, 166] [] FI FI' ∧ ((FI' 121 90).toInt = (FI 121 90).toInt + 1) ∧ (FI' 166 = va_up (FI 166) (FI 121 90).toNatClampNeg a2) ∧ (sk (FI' 166) (FI' 121 90).toInt.toNat = (a2).toInt :: sk (FI 166) (FI 121 90).toInt.toNat) ∧ (rl_wm (FI' 121 90) (FI' 165) (FI' 166)))) := by
  have rg_a1 := i_rng a1
  have rg_a2 := i_rng a2
  obtain ⟨x1, h2⟩ : ∃ y, FI 121 90 = y := ⟨_, rfl⟩
  have h2l := congrArg Int32.toInt h2
  have b3 := gI_121_90 hI; rw [h2] at b3
  refine hw_aloadn (aX12_later 0 rfl) rfl ?_
  refine hw_get (v := .ref (base + 165)) (aX12_later 1 rfl) wf_RX12_154 (c121 hS) (s121 hS) (by decide) (congrArg (fun r => va_rf (h_rf base r)) (r121_86 hF)) ?_
  refine hw_aloadn (aX12_later 2 rfl) rfl ?_
  refine hw_get (v := .int (x1)) (aX12_later 3 rfl) wf_RX12_556 (c121 hS) (s121 hS) (by decide) (congrArg Value.int (show FI 121 90 = x1 from h2)) ?_
  refine xw_iloadn (aX12_later 4 rfl) rfl ?_
  refine hv_iast (k := (x1).toNatClampNeg) (aX12_later 5 rfl) (c165 hS) (s165 hS) (h_in rfl (by omega) (by omega)) rfl (fun FI4 u5 => ?_)
  have hI6 : g_I FI4 := gU_F hI u5 rfl
  refine hw_aloadn (aX12_later 6 rfl) rfl ?_
  refine hw_get (v := .ref (base + 166)) (aX12_later 7 rfl) wf_RX12_157 (c121 hS) (s121 hS) (by decide) (congrArg (fun r => va_rf (h_rf base r)) (r121_87 hF)) ?_
  refine hw_aloadn (aX12_later 8 rfl) rfl ?_
  refine hw_get (v := .int (x1)) (aX12_later 9 rfl) wf_RX12_556 (c121 hS) (s121 hS) (by decide) (congrArg Value.int (show FI4 121 90 = x1 from (up_c u5 (by decide) (h2)))) ?_
  refine xw_iloadn (aX12_later 10 rfl) rfl ?_
  refine hv_iast (k := (x1).toNatClampNeg) (aX12_later 11 rfl) (c166 hS) (s166 hS) (h_in rfl (by omega) (by omega)) rfl (fun FI7 u8 => ?_)
  have hI9 : g_I FI7 := gU_F hI6 u8 rfl
  refine hw_aloadn (aX12_later 12 rfl) rfl ?_
  refine hw_aloadn (aX12_later 13 rfl) rfl ?_
  refine hw_get (v := .int (x1)) (aX12_later 14 rfl) wf_RX12_556 (c121 hS) (s121 hS) (by decide) (congrArg Value.int (show FI7 121 90 = x1 from (up_c u8 (by decide) ((up_c u5 (by decide) (h2)))))) ?_
  refine hw_ic (v := (1 : Int32)) (aX12_later 15 rfl) (by decide) ?_
  refine xw_iadd (aX12_later 16 rfl) ?_
  refine hw_tie (A := ((x1).toInt) + (1)) (i_add rfl (by decide : (1 : Int32).toInt = 1) (by omega) (by omega)) (fun x10 e11 => ?_)
  refine hv_puti (aX12_later 17 rfl) wf_RX12_556 (c121 hS) (s121 hS) (by decide) rfl rfl (fun FI12 u13 => ?_)
  have hI14 : g_I FI12 := gU_121_90 hI9 u13 (by have := (e11 : (x10).toInt = ((x1).toInt) + (1)); omega) (by have := (e11 : (x10).toInt = ((x1).toInt) + (1)); omega)
  have rl15 : rl_wm (FI12 121 90) (FI12 165) (FI12 166) := by have z0 := congrArg Int32.toInt (show FI12 121 90 = x10 from up_eq u13); have := (e11 : (x10).toInt = ((x1).toInt) + (1)); have z1 := congrArg Int32.toInt (show FI 121 90 = x1 from h2); have this := rel_wm; rw [show FI 121 90 = x1 from h2] at this; rw [show FI12 165 = va_up (FI 165) ((x1).toNatClampNeg) (a1) from (up_row u13 (by decide) ((up_row u8 (by decide) ((up_va u5 (rfl)))))), show FI12 166 = va_up (FI 166) ((x1).toNatClampNeg) (a2) from (up_row u13 (by decide) ((up_va u8 ((up_row u5 (by decide) (rfl)))))), show FI12 121 90 = x10 from up_eq u13]; exact rl_wm_push this (by omega) (by omega) g1
  refine xw_vret (aX12_later 18 rfl) rfl ?_
  exact ⟨rfl, FI12, rfl, hI14, (gf_f (gf_a (gf_a gf_rf u5 (by decide)) u8 (by decide)) u13 (by decide)), (by have := congrArg Int32.toInt (show FI12 121 90 = x10 from up_eq u13); have := (e11 : (x10).toInt = ((x1).toInt) + (1)); omega), (by rw [show FI 121 90 = x1 from h2]; exact (up_row u13 (by decide) ((up_va u8 ((up_row u5 (by decide) (rfl))))))), (by have z0 := congrArg Int32.toInt (show FI12 121 90 = x10 from up_eq u13); have := (e11 : (x10).toInt = ((x1).toInt) + (1)); rw [show FI12 166 = va_up (FI 166) ((x1).toNatClampNeg) (a2) from (up_row u13 (by decide) ((up_va u8 ((up_row u5 (by decide) (rfl)))))), show FI 121 90 = x1 from h2]; exact sk_push2 (by omega) (by omega)), (show rl_wm (FI12 121 90) (FI12 165) (FI12 166) from rl15)⟩
def nX12_meansFinished : Nat := 0xb13dffa750090400a75601b6640001111b202a10009904156404ab02b42ab200b42a8d02b5082a08009a041504364701b685640001111b202a380099c002b62a3f00a7506120d400b42a6404ab02b42ab200b42a8d02b50b102a09009ad700b42a100099c002b62a2b00a09b00111b6e00a75083e20014206404ab02b42ab200b42a1600a020101b8700a75075206404ab02b42ab200b42a1300a01f101b412f6404ab02b42ab200b42a3c2e2c02b42a9a00b42a2c02b564042c02b42a2ac000a009102f02b62a
theorem bX12_meansFinished : cX12_meansFinished.data.toList.map UInt8.toNat = x_un nX12_meansFinished 199 := by decide +kernel
def iX12_meansFinished : List (Nat × Jvm.ClassFile.Instr × Nat) := [(0, .aload_n 0, 1), (1, .invokevirtual 559, 3), (4, .bipush 9, 2), (6, .if_icmp .ne 192, 3), (9, .aload_n 0, 1), (10, .aload_n 0, 1), (11, .getfield 556, 3), (14, .iconst 1, 1), (15, .isub, 1), (16, .putfield 556, 3), (19, .aload_n 0, 1), (20, .getfield 154, 3), (23, .aload_n 0, 1), (24, .getfield 556, 3), (27, .iaload, 1), (28, .istore_n 1, 1), (29, .aload_n 0, 1), (30, .getfield 178, 3), (33, .aload_n 0, 1), (34, .getfield 683, 3), (37, .iconst 1, 1), (38, .isub, 1), (39, .laload, 1), (40, .lstore_n 2, 1), (41, .iload_n 1, 1), (42, .bipush 31, 2), (44, .if_icmp .ne 19, 3), (47, .aload_n 0, 1), (48, .getfield 178, 3), (51, .aload_n 0, 1), (52, .getfield 683, 3), (55, .iconst 1, 1), (56, .isub, 1), (57, .lload_n 2, 1), (58, .lneg, 1), (59, .lastore, 1), (60, .goto 135, 3), (63, .iload_n 1, 1), (64, .bipush 32, 2), (66, .if_icmp .ne 22, 3), (69, .aload_n 0, 1), (70, .getfield 178, 3), (73, .aload_n 0, 1), (74, .getfield 683, 3), (77, .iconst 1, 1), (78, .isub, 1), (79, .lload_n 2, 1), (80, .ldc2_w 226, 3), (83, .lxor, 1), (84, .lastore, 1), (85, .goto 110, 3), (88, .iload_n 1, 1), (89, .sipush 155, 3), (92, .if_icmp .ne 43, 3), (95, .aload_n 0, 1), (96, .invokevirtual 704, 3), (99, .ifCond .eq 16, 3), (102, .aload_n 0, 1), (103, .getfield 215, 3), (106, .ifCond .ne 9, 3), (109, .aload_n 0, 1), (110, .bipush 11, 2), (112, .putfield 653, 3), (115, .aload_n 0, 1), (116, .getfield 178, 3), (119, .aload_n 0, 1), (120, .getfield 683, 3), (123, .iconst 1, 1), (124, .isub, 1), (125, .aload_n 0, 1), (126, .getfield 212, 3), (129, .lload_n 2, 1), (130, .ladd, 1), (131, .lastore, 1), (132, .goto 63, 3), (135, .aload_n 0, 1), (136, .invokevirtual 704, 3), (139, .ifCond .eq 56, 3), (142, .aload_n 0, 1), (143, .lload_n 2, 1), (144, .iload_n 1, 1), (145, .sipush 256, 3), (148, .isub, 1), (149, .i2l, 1), (150, .invokevirtual 327, 3), (153, .istore 4, 2), (155, .iload 4, 2), (157, .ifCond .ne 8, 3), (160, .aload_n 0, 1), (161, .iconst 5, 1), (162, .putfield 653, 3), (165, .aload_n 0, 1), (166, .getfield 178, 3), (169, .aload_n 0, 1), (170, .getfield 683, 3), (173, .iconst 1, 1), (174, .isub, 1), (175, .iload 4, 2), (177, .ifCond .eq 16, 3), (180, .aload_n 0, 1), (181, .lload_n 2, 1), (182, .iload_n 1, 1), (183, .sipush 256, 3), (186, .isub, 1), (187, .invokevirtual 342, 3), (190, .goto 4, 3), (193, .lconst 0, 1), (194, .lastore, 1), (195, .goto (-195), 3), (198, .return_, 1)]
theorem dX12_meansFinished : x_il nX12_meansFinished 199 iX12_meansFinished = true := by decide +kernel
theorem aX12_meansFinished (k : Nat) {pc : Nat} {i : Jvm.ClassFile.Instr} {len : Nat} (hk : iX12_meansFinished[k]? = some (pc, i, len)) : x_at xMM 263 pc i len yX12_meansFinished 5 none := ⟨cX12_meansFinished, rfl, x_il_ok bX12_meansFinished dX12_meansFinished k hk⟩
set_option maxHeartbeats 4000000 in
set_option maxRecDepth 100000 in
theorem n_meansFinished {zk : xK} {base d n sl : Nat} {SH : Nat → Nat × Nat} {FI : Nat → Nat → Int32} {FL : Nat → Nat → Int64} {FR : Nat → Nat → Option Nat} (hS : h_S n SH) (hF : h_FR FR) (hI : g_I FI) (g0 : 1 ≤ (FI 121 101).toInt) (rel_wm : rl_wm (FI 121 90) (FI 165) (FI 166)) : hw zk base (d + 1) none 263 0 [(0, .ref (base + 121))] [] (n, sl, SH, FI, FL, FR) (h_V (fun s => ∃ FI' FL', s = (n, sl, SH, FI', FL', FR) ∧ g_I FI' ∧ g_fr n SH [(121, 90), (121, 93)] [] [] FI FI' ∧ g_fr n SH [] [173] [] FL FL' ∧ ((FI' 121 90).toInt ≤ (FI 121 90).toInt) ∧ ((FI' 121 101).toInt = (FI 121 101).toInt) ∧ (sk (FI 166) (FI' 121 90).toInt.toNat = au_fin (sk (FI 166) (FI 121 90).toInt.toNat)) ∧ (rl_wm (FI' 121 90) (FI' 165) (FI' 166)))) := by
  obtain ⟨x1, h2⟩ : ∃ y, FI 121 101 = y := ⟨_, rfl⟩
  have h2l := congrArg Int32.toInt h2
  have b3 := gI_121_101 hI; rw [h2] at b3
  obtain ⟨x4, h5⟩ : ∃ y, FI 121 90 = y := ⟨_, rfl⟩
  have h5l := congrArg Int32.toInt h5
  have b6 := gI_121_90 hI; rw [h5] at b6
  have lp17 : ∀ (m : Nat) (FIv7 : Nat → Nat → Int32) (FLv8 : Nat → Nat → Int64), (g_fr n SH [(121, 90), (121, 93)] [] [] FI FIv7) → (g_fr n SH [] [173] [] FL FLv8) → (g_I FIv7) → (FIv7 121 101 = x1) → (rl_wm (FIv7 121 90) (FIv7 165) (FIv7 166)) → (0 ≤ (FIv7 121 90).toInt ∧ (FIv7 121 90).toInt ≤ 256) → ((FIv7 121 90).toInt ≤ (FI 121 90).toInt) → (au_fin (sk (FI 166) ((FIv7 121 90).toInt).toNat) = au_fin (sk (FI 166) (FI 121 90).toInt.toNat)) → (FIv7 166 = FI 166) → (FIv7 121 90).toInt < m → hw zk base (d + 1) none 263 0 [(0, .ref (base + 121))] [] (n, sl, SH, FIv7, FLv8, FR) (h_V (fun s => ∃ FI' FL', s = (n, sl, SH, FI', FL', FR) ∧ g_I FI' ∧ g_fr n SH [(121, 90), (121, 93)] [] [] FI FI' ∧ g_fr n SH [] [173] [] FL FL' ∧ ((FI' 121 90).toInt ≤ (FI 121 90).toInt) ∧ ((FI' 121 101).toInt = (FI 121 101).toInt) ∧ (sk (FI 166) (FI' 121 90).toInt.toNat = au_fin (sk (FI 166) (FI 121 90).toInt.toNat)) ∧ (rl_wm (FI' 121 90) (FI' 165) (FI' 166)))) := by
    intro m
    induction m with
    | zero => intro FIv7 FLv8 fr9 fr10 hI11 kp12 rl13 iv14 iv15 xi0_0 rw16 hm; omega
    | succ m ih =>
      intro FIv7 FLv8 fr9 fr10 hI11 kp12 rl13 iv14 iv15 xi0_0 rw16 hm
      have := congrArg Int32.toInt kp12
      obtain ⟨x18, h19⟩ : ∃ y, FIv7 121 90 = y := ⟨_, rfl⟩
      have h19l := congrArg Int32.toInt h19
      have b20 := gI_121_90 hI11; rw [h19] at b20
      refine hw_aloadn (aX12_meansFinished 0 rfl) rfl ?_
      refine hw_callV (Bs := []) (rest := []) (aX12_meansFinished 1 rfl) wc_RX12_559 (by decide) rfl wi_yX12_tops wv_yX12_tops (c121 hS) (s121 hS) rfl rfl rfl (Nat.le_of_ble_eq_true rfl) (Nat.le_of_ble_eq_true rfl) (n_tops (d := d) hS hF hI11 ) (fun v21 sv22 p23 => ?_)
      have := congrArg Int32.toInt (show FIv7 121 90 = x18 from h19)
      obtain ⟨r24, rfl, rfl, t26, u27, u28⟩ := p23
      have rg_r24 := i_rng r24
      show hw zk base _ _ _ _ _ [.int (r24)] _ _
      refine hw_bp (v := (9 : Int32)) (aX12_meansFinished 2 rfl) (by decide) ?_
      refine hw_icne (tgt := 198) (aX12_meansFinished 3 rfl) (by decide) rfl (by decide : (9 : Int32).toInt = 9) (fun cd29 => ?_) (fun cd29 => ?_)
      · refine xw_vret (aX12_meansFinished 109 rfl) rfl ?_
        exact ⟨rfl, FIv7, FLv8, rfl, hI11, fr9, fr10, (by have := congrArg Int32.toInt (show FIv7 121 90 = x18 from h19); omega), (by have := congrArg Int32.toInt (show FIv7 121 101 = x1 from kp12); omega), (by have hi := xi0_0; rw [show FIv7 121 90 = x18 from h19] at hi; rw [show FIv7 121 90 = x18 from h19]; rcases Int.lt_or_le 0 (x18).toInt with h0 | h0; { have hh := u27 (by omega); rw [show FIv7 166 = FI 166 from rw16, show FIv7 121 90 = x18 from h19] at hh; rw [hh, au_fin_stop (by omega)] at hi; rw [← hi, ← hh] }; { rw [show (x18).toInt.toNat = 0 by omega] at hi ⊢; exact hi }), (show rl_wm (FIv7 121 90) (FIv7 165) (FIv7 166) from rl13)⟩
      · refine hw_aloadn (aX12_meansFinished 4 rfl) rfl ?_
        refine hw_aloadn (aX12_meansFinished 5 rfl) rfl ?_
        refine hw_get (v := .int (x18)) (aX12_meansFinished 6 rfl) wf_RX12_556 (c121 hS) (s121 hS) (by decide) (congrArg Value.int (show FIv7 121 90 = x18 from h19)) ?_
        refine hw_ic (v := (1 : Int32)) (aX12_meansFinished 7 rfl) (by decide) ?_
        refine xw_isub (aX12_meansFinished 8 rfl) ?_
        refine hw_tie (A := ((x18).toInt) - (1)) (i_sub rfl (by decide : (1 : Int32).toInt = 1) (by omega) (by omega)) (fun x30 e31 => ?_)
        refine hv_puti (aX12_meansFinished 9 rfl) wf_RX12_556 (c121 hS) (s121 hS) (by decide) rfl rfl (fun FI32 u33 => ?_)
        have rl34 : rl_wm (FI32 121 90) (FI32 165) (FI32 166) := by have z0 := congrArg Int32.toInt (show FIv7 121 90 = x18 from h19); have z1 := congrArg Int32.toInt (show FI32 121 90 = x30 from up_eq u33); have := (e31 : (x30).toInt = ((x18).toInt) - (1)); rw [show FI32 165 = FIv7 165 from up_row u33 (by decide) rfl, show FI32 166 = FIv7 166 from up_row u33 (by decide) rfl]; exact rl_wm_mono rl13 (by omega)
        have hI35 : g_I FI32 := gU_121_90 hI11 u33 (by have := (e31 : (x30).toInt = ((x18).toInt) - (1)); omega) (by have := (e31 : (x30).toInt = ((x18).toInt) - (1)); omega)
        refine hw_aloadn (aX12_meansFinished 10 rfl) rfl ?_
        refine hw_get (v := .ref (base + 165)) (aX12_meansFinished 11 rfl) wf_RX12_154 (c121 hS) (s121 hS) (by decide) (congrArg (fun r => va_rf (h_rf base r)) (r121_86 hF)) ?_
        refine hw_aloadn (aX12_meansFinished 12 rfl) rfl ?_
        refine hw_get (v := .int (x30)) (aX12_meansFinished 13 rfl) wf_RX12_556 (c121 hS) (s121 hS) (by decide) (congrArg Value.int (show FI32 121 90 = x30 from up_eq u33)) ?_
        obtain ⟨x36, h37⟩ : ∃ y, FI32 165 (x30).toNatClampNeg = y := ⟨_, rfl⟩
        have h37l := congrArg Int32.toInt h37
        have := i_rng x36
        refine hw_iald (v := x36) (aX12_meansFinished 14 rfl) (c165 hS) (s165 hS) (h_in e31 (by omega) (by omega)) (show FI32 165 (x30).toNatClampNeg = x36 from h37) ?_
        refine xw_istoren (L2 := [(1, .int (x36)), (0, .ref (base + 121))]) (aX12_meansFinished 15 rfl) (by decide) rfl ?_
        refine hw_aloadn (aX12_meansFinished 16 rfl) rfl ?_
        refine hw_get (v := .ref (base + 173)) (aX12_meansFinished 17 rfl) wf_RX12_178 (c121 hS) (s121 hS) (by decide) (congrArg (fun r => va_rf (h_rf base r)) (r121_100 hF)) ?_
        refine hw_aloadn (aX12_meansFinished 18 rfl) rfl ?_
        refine hw_get (v := .int (x1)) (aX12_meansFinished 19 rfl) wf_RX12_683 (c121 hS) (s121 hS) (by decide) (congrArg Value.int (show FI32 121 101 = x1 from (up_k u33 (by decide) (kp12)))) ?_
        refine hw_ic (v := (1 : Int32)) (aX12_meansFinished 20 rfl) (by decide) ?_
        refine xw_isub (aX12_meansFinished 21 rfl) ?_
        refine hw_tie (A := ((x1).toInt) - (1)) (i_sub rfl (by decide : (1 : Int32).toInt = 1) (by omega) (by omega)) (fun x38 e39 => ?_)
        obtain ⟨x40, h41⟩ : ∃ y, FLv8 173 (x38).toNatClampNeg = y := ⟨_, rfl⟩
        have h41l := congrArg Int64.toInt h41
        have := l_rng x40
        refine hw_lald (v := x40) (aX12_meansFinished 22 rfl) (c173 hS) (s173 hS) (h_in e39 (by omega) (by omega)) (show FLv8 173 (x38).toNatClampNeg = x40 from h41) ?_
        refine xw_lstoren (L2 := [(2, .long (x40)), (1, .int (x36)), (0, .ref (base + 121))]) (aX12_meansFinished 23 rfl) (by decide) rfl ?_
        have hcw := rl13 ((FIv7 121 90).toInt - 1).toNat (by omega) (by rw [u28 (by omega)]; omega)
        rw [← i_cl (x := x30) (A := (FIv7 121 90).toInt - 1) (by omega), ← (show FI32 165 = FIv7 165 from (up_row u33 (by decide) (rfl)))] at hcw
        have e42 : 31 ≤ (x36).toInt ∧ (x36).toInt ≤ 264 := by omega
        refine xw_iloadn (aX12_meansFinished 24 rfl) rfl ?_
        refine hw_bp (v := (31 : Int32)) (aX12_meansFinished 25 rfl) (by decide) ?_
        refine hw_icne (tgt := 63) (aX12_meansFinished 26 rfl) (by decide) rfl (by decide : (31 : Int32).toInt = 31) (fun cd43 => ?_) (fun cd43 => ?_)
        · refine xw_iloadn (aX12_meansFinished 37 rfl) rfl ?_
          refine hw_bp (v := (32 : Int32)) (aX12_meansFinished 38 rfl) (by decide) ?_
          refine hw_icne (tgt := 88) (aX12_meansFinished 39 rfl) (by decide) rfl (by decide : (32 : Int32).toInt = 32) (fun cd44 => ?_) (fun cd44 => ?_)
          · refine xw_iloadn (aX12_meansFinished 51 rfl) rfl ?_
            refine hw_sp (v := (155 : Int32)) (aX12_meansFinished 52 rfl) (by decide) ?_
            refine hw_icne (tgt := 135) (aX12_meansFinished 53 rfl) (by decide) rfl (by decide : (155 : Int32).toInt = 155) (fun cd45 => ?_) (fun cd45 => ?_)
            · have e46 : 257 ≤ (x36).toInt ∧ (x36).toInt ≤ 264 := by omega
              refine hw_aloadn (aX12_meansFinished 75 rfl) rfl ?_
              refine hw_callV (Bs := []) (rest := []) (aX12_meansFinished 76 rfl) wc_RX12_704 (by decide) rfl wi_yX12_does wv_yX12_does (c121 hS) (s121 hS) rfl rfl rfl (Nat.le_of_ble_eq_true rfl) (Nat.le_of_ble_eq_true rfl) (n_does (d := d) hS hF hI35 ) (fun v47 sv48 p49 => ?_)
              obtain ⟨r50, rfl, rfl, t52⟩ := p49
              show hw zk base _ _ _ _ _ [.int (r50)] _ _
              refine hw_ifeq (tgt := 195) (aX12_meansFinished 77 rfl) (by decide) rfl (fun cd53 => ?_) (fun cd53 => ?_)
              · refine xw_goto (tgt := 0) (aX12_meansFinished 108 rfl) (by decide) ?_
                exact hw_L (ih FI32 FLv8 (gf_f fr9 u33 (by decide)) fr10 hI35 (show FI32 121 101 = x1 from (up_k u33 (by decide) (kp12))) (show rl_wm (FI32 121 90) (FI32 165) (FI32 166) from rl34) (by have := congrArg Int32.toInt (show FI32 121 90 = x30 from up_eq u33); have := (e31 : (x30).toInt = ((x18).toInt) - (1)); omega) (by have := congrArg Int32.toInt (show FI32 121 90 = x30 from up_eq u33); have := (e31 : (x30).toInt = ((x18).toInt) - (1)); omega) (show au_fin (sk (FI 166) ((FI32 121 90).toInt).toNat) = au_fin (sk (FI 166) (FI 121 90).toInt.toNat) from (by have := congrArg Int32.toInt (show FI32 121 90 = x30 from up_eq u33); have := (e31 : (x30).toInt = ((x18).toInt) - (1)); exact (by have hh := u27 (by omega); rw [show FIv7 166 = FI 166 from rw16, show FIv7 121 90 = x18 from h19] at hh; have hi := xi0_0; rw [show FIv7 121 90 = x18 from h19, hh, show (r24).toInt = 9 by omega, au_fin_pop] at hi; rw [show ((FI32 121 90).toInt : Int) = (x18).toInt - 1 by omega]; exact hi))) (show FI32 166 = FI 166 from (up_row u33 (by decide) (rw16))) (by have := congrArg Int32.toInt (show FI32 121 90 = x30 from up_eq u33); have := (e31 : (x30).toInt = ((x18).toInt) - (1)); omega)) ⟨rfl, trivial⟩
              · refine hw_aloadn (aX12_meansFinished 78 rfl) rfl ?_
                refine xw_lloadn (aX12_meansFinished 79 rfl) rfl ?_
                refine xw_iloadn (aX12_meansFinished 80 rfl) rfl ?_
                refine hw_sp (v := (256 : Int32)) (aX12_meansFinished 81 rfl) (by decide) ?_
                refine xw_isub (aX12_meansFinished 82 rfl) ?_
                refine hw_tie (A := ((x36).toInt) - (256)) (i_sub rfl (by decide : (256 : Int32).toInt = 256) (by omega) (by omega)) (fun x54 e55 => ?_)
                refine xw_i2l (aX12_meansFinished 83 rfl) ?_
                refine hw_tle (A := ((x36).toInt) - (256)) (i_2l e55) (fun x56 e57 => ?_)
                refine hw_callV (Bs := [.long (x40), .long (x56)]) (rest := []) (aX12_meansFinished 84 rfl) wc_RX12_327 (by decide) rfl wi_yX12_isThere wv_yX12_isThere (c121 hS) (s121 hS) rfl rfl rfl (Nat.le_of_ble_eq_true rfl) (Nat.le_of_ble_eq_true rfl) (m_isThere (d := d) hS hF (x40) (x56) (by have := (e57 : (x56).toInt = ((x36).toInt) - (256)); have := (e57 : (x56).toInt = ((x36).toInt) - (256)); omega)) (fun v58 sv59 p60 => ?_)
                have := (e57 : (x56).toInt = ((x36).toInt) - (256))
                obtain ⟨r61, rfl, FI62, FL63, rfl, rfl, rfl, t66, t67⟩ := p60
                show hw zk base _ _ _ _ _ [.int (r61)] _ _
                refine xw_istore (L2 := [(4, .int (r61)), (2, .long (x40)), (1, .int (x36)), (0, .ref (base + 121))]) (aX12_meansFinished 85 rfl) (by decide) rfl ?_
                refine xw_iload (aX12_meansFinished 86 rfl) rfl ?_
                refine hw_ifne (tgt := 165) (aX12_meansFinished 87 rfl) (by decide) rfl (fun cd68 => ?_) (fun cd68 => ?_)
                · replace t66 := t66 (by omega)
                  refine hw_aloadn (aX12_meansFinished 91 rfl) rfl ?_
                  refine hw_get (v := .ref (base + 173)) (aX12_meansFinished 92 rfl) wf_RX12_178 (c121 hS) (s121 hS) (by decide) (congrArg (fun r => va_rf (h_rf base r)) (r121_100 hF)) ?_
                  refine hw_aloadn (aX12_meansFinished 93 rfl) rfl ?_
                  refine hw_get (v := .int (x1)) (aX12_meansFinished 94 rfl) wf_RX12_683 (c121 hS) (s121 hS) (by decide) (congrArg Value.int (show FI32 121 101 = x1 from (up_k u33 (by decide) (kp12)))) ?_
                  refine hw_ic (v := (1 : Int32)) (aX12_meansFinished 95 rfl) (by decide) ?_
                  refine xw_isub (aX12_meansFinished 96 rfl) ?_
                  refine hw_tie (A := ((x1).toInt) - (1)) (i_sub rfl (by decide : (1 : Int32).toInt = 1) (by omega) (by omega)) (fun x69 e70 => ?_)
                  refine xw_iload (aX12_meansFinished 97 rfl) rfl ?_
                  refine hw_ifeq (tgt := 193) (aX12_meansFinished 98 rfl) (by decide) rfl (fun cd71 => ?_) (fun cd71 => ?_)
                  · omega
                  · refine hw_aloadn (aX12_meansFinished 99 rfl) rfl ?_
                    refine xw_lloadn (aX12_meansFinished 100 rfl) rfl ?_
                    refine xw_iloadn (aX12_meansFinished 101 rfl) rfl ?_
                    refine hw_sp (v := (256 : Int32)) (aX12_meansFinished 102 rfl) (by decide) ?_
                    refine xw_isub (aX12_meansFinished 103 rfl) ?_
                    refine hw_tie (A := ((x36).toInt) - (256)) (i_sub rfl (by decide : (256 : Int32).toInt = 256) (by omega) (by omega)) (fun x72 e73 => ?_)
                    refine hw_callV (Bs := [.long (x40), .int (x72)]) (rest := [.int (x69), .ref (base + 173)]) (aX12_meansFinished 104 rfl) wc_RX12_342 (by decide) rfl wi_yX12_read wv_yX12_read (c121 hS) (s121 hS) rfl rfl rfl (Nat.le_of_ble_eq_true rfl) (Nat.le_of_ble_eq_true rfl) (m_read (d := d) hS hF (x40) (x72) (by have := (e73 : (x72).toInt = ((x36).toInt) - (256)); omega) (by omega) (by have := (e73 : (x72).toInt = ((x36).toInt) - (256)); have := (e73 : (x72).toInt = ((x36).toInt) - (256)); omega)) (fun v74 sv75 p76 => ?_)
                    obtain ⟨r77, rfl, FI78, FL79, rfl, rfl, rfl⟩ := p76
                    have rg_r77 := l_rng r77
                    show hw zk base _ _ _ _ _ [.long (r77), .int (x69), .ref (base + 173)] _ _
                    refine xw_goto (tgt := 194) (aX12_meansFinished 105 rfl) (by decide) ?_
                    refine hv_last (k := (x69).toNatClampNeg) (aX12_meansFinished 107 rfl) (c173 hS) (s173 hS) (h_in e70 (by omega) (by omega)) rfl (fun FL82 u83 => ?_)
                    refine xw_goto (tgt := 0) (aX12_meansFinished 108 rfl) (by decide) ?_
                    exact hw_L (ih FI32 FL82 (gf_f fr9 u33 (by decide)) (gf_a fr10 u83 (by decide)) hI35 (show FI32 121 101 = x1 from (up_k u33 (by decide) (kp12))) (show rl_wm (FI32 121 90) (FI32 165) (FI32 166) from rl34) (by have := congrArg Int32.toInt (show FI32 121 90 = x30 from up_eq u33); have := (e31 : (x30).toInt = ((x18).toInt) - (1)); omega) (by have := congrArg Int32.toInt (show FI32 121 90 = x30 from up_eq u33); have := (e31 : (x30).toInt = ((x18).toInt) - (1)); omega) (show au_fin (sk (FI 166) ((FI32 121 90).toInt).toNat) = au_fin (sk (FI 166) (FI 121 90).toInt.toNat) from (by have := congrArg Int32.toInt (show FI32 121 90 = x30 from up_eq u33); have := (e31 : (x30).toInt = ((x18).toInt) - (1)); exact (by have hh := u27 (by omega); rw [show FIv7 166 = FI 166 from rw16, show FIv7 121 90 = x18 from h19] at hh; have hi := xi0_0; rw [show FIv7 121 90 = x18 from h19, hh, show (r24).toInt = 9 by omega, au_fin_pop] at hi; rw [show ((FI32 121 90).toInt : Int) = (x18).toInt - 1 by omega]; exact hi))) (show FI32 166 = FI 166 from (up_row u33 (by decide) (rw16))) (by have := congrArg Int32.toInt (show FI32 121 90 = x30 from up_eq u33); have := (e31 : (x30).toInt = ((x18).toInt) - (1)); omega)) ⟨rfl, trivial⟩
                · clear t66
                  refine hw_aloadn (aX12_meansFinished 88 rfl) rfl ?_
                  refine hw_ic (v := (5 : Int32)) (aX12_meansFinished 89 rfl) (by decide) ?_
                  refine hv_puti (aX12_meansFinished 90 rfl) wf_RX12_653 (c121 hS) (s121 hS) (by decide) rfl rfl (fun FI84 u85 => ?_)
                  have rl86 : rl_wm (FI84 121 90) (FI84 165) (FI84 166) := by rw [show FI84 165 = FI32 165 from up_row u85 (by decide) rfl, show FI84 166 = FI32 166 from up_row u85 (by decide) rfl, show FI84 121 90 = FI32 121 90 from up_k u85 (by decide) rfl]; exact rl34
                  have hI87 : g_I FI84 := gU_F hI35 u85 rfl
                  refine hw_aloadn (aX12_meansFinished 91 rfl) rfl ?_
                  refine hw_get (v := .ref (base + 173)) (aX12_meansFinished 92 rfl) wf_RX12_178 (c121 hS) (s121 hS) (by decide) (congrArg (fun r => va_rf (h_rf base r)) (r121_100 hF)) ?_
                  refine hw_aloadn (aX12_meansFinished 93 rfl) rfl ?_
                  refine hw_get (v := .int (x1)) (aX12_meansFinished 94 rfl) wf_RX12_683 (c121 hS) (s121 hS) (by decide) (congrArg Value.int (show FI84 121 101 = x1 from (up_k u85 (by decide) ((up_k u33 (by decide) (kp12)))))) ?_
                  refine hw_ic (v := (1 : Int32)) (aX12_meansFinished 95 rfl) (by decide) ?_
                  refine xw_isub (aX12_meansFinished 96 rfl) ?_
                  refine hw_tie (A := ((x1).toInt) - (1)) (i_sub rfl (by decide : (1 : Int32).toInt = 1) (by omega) (by omega)) (fun x88 e89 => ?_)
                  refine xw_iload (aX12_meansFinished 97 rfl) rfl ?_
                  refine hw_ifeq (tgt := 193) (aX12_meansFinished 98 rfl) (by decide) rfl (fun cd90 => ?_) (fun cd90 => ?_)
                  · refine hw_lc (v := (0 : Int64)) (aX12_meansFinished 106 rfl) (by decide) ?_
                    refine hv_last (k := (x88).toNatClampNeg) (aX12_meansFinished 107 rfl) (c173 hS) (s173 hS) (h_in e89 (by omega) (by omega)) rfl (fun FL91 u92 => ?_)
                    refine xw_goto (tgt := 0) (aX12_meansFinished 108 rfl) (by decide) ?_
                    exact hw_L (ih FI84 FL91 (gf_f (gf_f fr9 u33 (by decide)) u85 (by decide)) (gf_a fr10 u92 (by decide)) hI87 (show FI84 121 101 = x1 from (up_k u85 (by decide) ((up_k u33 (by decide) (kp12))))) (show rl_wm (FI84 121 90) (FI84 165) (FI84 166) from rl86) (by have := congrArg Int32.toInt (show FI84 121 90 = x30 from (up_k u85 (by decide) (up_eq u33))); have := (e31 : (x30).toInt = ((x18).toInt) - (1)); omega) (by have := congrArg Int32.toInt (show FI84 121 90 = x30 from (up_k u85 (by decide) (up_eq u33))); have := (e31 : (x30).toInt = ((x18).toInt) - (1)); omega) (show au_fin (sk (FI 166) ((FI84 121 90).toInt).toNat) = au_fin (sk (FI 166) (FI 121 90).toInt.toNat) from (by have := congrArg Int32.toInt (show FI84 121 90 = x30 from (up_k u85 (by decide) (up_eq u33))); have := (e31 : (x30).toInt = ((x18).toInt) - (1)); exact (by have hh := u27 (by omega); rw [show FIv7 166 = FI 166 from rw16, show FIv7 121 90 = x18 from h19] at hh; have hi := xi0_0; rw [show FIv7 121 90 = x18 from h19, hh, show (r24).toInt = 9 by omega, au_fin_pop] at hi; rw [show ((FI84 121 90).toInt : Int) = (x18).toInt - 1 by omega]; exact hi))) (show FI84 166 = FI 166 from (up_row u85 (by decide) ((up_row u33 (by decide) (rw16))))) (by have := congrArg Int32.toInt (show FI84 121 90 = x30 from (up_k u85 (by decide) (up_eq u33))); have := (e31 : (x30).toInt = ((x18).toInt) - (1)); omega)) ⟨rfl, trivial⟩
                  · omega
            · refine hw_aloadn (aX12_meansFinished 54 rfl) rfl ?_
              refine hw_callV (Bs := []) (rest := []) (aX12_meansFinished 55 rfl) wc_RX12_704 (by decide) rfl wi_yX12_does wv_yX12_does (c121 hS) (s121 hS) rfl rfl rfl (Nat.le_of_ble_eq_true rfl) (Nat.le_of_ble_eq_true rfl) (n_does (d := d) hS hF hI35 ) (fun v93 sv94 p95 => ?_)
              obtain ⟨r96, rfl, rfl, t98⟩ := p95
              show hw zk base _ _ _ _ _ [.int (r96)] _ _
              refine hw_ifeq (tgt := 115) (aX12_meansFinished 56 rfl) (by decide) rfl (fun cd99 => ?_) (fun cd99 => ?_)
              · refine hw_aloadn (aX12_meansFinished 63 rfl) rfl ?_
                refine hw_get (v := .ref (base + 173)) (aX12_meansFinished 64 rfl) wf_RX12_178 (c121 hS) (s121 hS) (by decide) (congrArg (fun r => va_rf (h_rf base r)) (r121_100 hF)) ?_
                refine hw_aloadn (aX12_meansFinished 65 rfl) rfl ?_
                refine hw_get (v := .int (x1)) (aX12_meansFinished 66 rfl) wf_RX12_683 (c121 hS) (s121 hS) (by decide) (congrArg Value.int (show FI32 121 101 = x1 from (up_k u33 (by decide) (kp12)))) ?_
                refine hw_ic (v := (1 : Int32)) (aX12_meansFinished 67 rfl) (by decide) ?_
                refine xw_isub (aX12_meansFinished 68 rfl) ?_
                refine hw_tie (A := ((x1).toInt) - (1)) (i_sub rfl (by decide : (1 : Int32).toInt = 1) (by omega) (by omega)) (fun x100 e101 => ?_)
                refine hw_aloadn (aX12_meansFinished 69 rfl) rfl ?_
                obtain ⟨x102, h103⟩ : ∃ y, FLv8 121 9 = y := ⟨_, rfl⟩
                have h103l := congrArg Int64.toInt h103
                have := l_rng x102
                refine hw_get (v := .long (x102)) (aX12_meansFinished 70 rfl) wf_RX12_212 (c121 hS) (s121 hS) (by decide) (congrArg Value.long (show FLv8 121 9 = x102 from h103)) ?_
                refine xw_lloadn (aX12_meansFinished 71 rfl) rfl ?_
                refine xw_ladd (aX12_meansFinished 72 rfl) ?_
                refine hw_tl (fun x104 => ?_)
                have b105 := l_rng x104
                refine hv_last (k := (x100).toNatClampNeg) (aX12_meansFinished 73 rfl) (c173 hS) (s173 hS) (h_in e101 (by omega) (by omega)) rfl (fun FL106 u107 => ?_)
                refine xw_goto (tgt := 195) (aX12_meansFinished 74 rfl) (by decide) ?_
                refine xw_goto (tgt := 0) (aX12_meansFinished 108 rfl) (by decide) ?_
                exact hw_L (ih FI32 FL106 (gf_f fr9 u33 (by decide)) (gf_a fr10 u107 (by decide)) hI35 (show FI32 121 101 = x1 from (up_k u33 (by decide) (kp12))) (show rl_wm (FI32 121 90) (FI32 165) (FI32 166) from rl34) (by have := congrArg Int32.toInt (show FI32 121 90 = x30 from up_eq u33); have := (e31 : (x30).toInt = ((x18).toInt) - (1)); omega) (by have := congrArg Int32.toInt (show FI32 121 90 = x30 from up_eq u33); have := (e31 : (x30).toInt = ((x18).toInt) - (1)); omega) (show au_fin (sk (FI 166) ((FI32 121 90).toInt).toNat) = au_fin (sk (FI 166) (FI 121 90).toInt.toNat) from (by have := congrArg Int32.toInt (show FI32 121 90 = x30 from up_eq u33); have := (e31 : (x30).toInt = ((x18).toInt) - (1)); exact (by have hh := u27 (by omega); rw [show FIv7 166 = FI 166 from rw16, show FIv7 121 90 = x18 from h19] at hh; have hi := xi0_0; rw [show FIv7 121 90 = x18 from h19, hh, show (r24).toInt = 9 by omega, au_fin_pop] at hi; rw [show ((FI32 121 90).toInt : Int) = (x18).toInt - 1 by omega]; exact hi))) (show FI32 166 = FI 166 from (up_row u33 (by decide) (rw16))) (by have := congrArg Int32.toInt (show FI32 121 90 = x30 from up_eq u33); have := (e31 : (x30).toInt = ((x18).toInt) - (1)); omega)) ⟨rfl, trivial⟩
              · refine hw_aloadn (aX12_meansFinished 57 rfl) rfl ?_
                obtain ⟨x108, h109⟩ : ∃ y, FI32 121 11 = y := ⟨_, rfl⟩
                have h109l := congrArg Int32.toInt h109
                have b110 := gI_121_11 hI35; rw [h109] at b110
                refine hw_get (v := .int (x108)) (aX12_meansFinished 58 rfl) wf_RX12_215 (c121 hS) (s121 hS) (by decide) (congrArg Value.int (show FI32 121 11 = x108 from h109)) ?_
                refine hw_ifne (tgt := 115) (aX12_meansFinished 59 rfl) (by decide) rfl (fun cd111 => ?_) (fun cd111 => ?_)
                · refine hw_aloadn (aX12_meansFinished 63 rfl) rfl ?_
                  refine hw_get (v := .ref (base + 173)) (aX12_meansFinished 64 rfl) wf_RX12_178 (c121 hS) (s121 hS) (by decide) (congrArg (fun r => va_rf (h_rf base r)) (r121_100 hF)) ?_
                  refine hw_aloadn (aX12_meansFinished 65 rfl) rfl ?_
                  refine hw_get (v := .int (x1)) (aX12_meansFinished 66 rfl) wf_RX12_683 (c121 hS) (s121 hS) (by decide) (congrArg Value.int (show FI32 121 101 = x1 from (up_k u33 (by decide) (kp12)))) ?_
                  refine hw_ic (v := (1 : Int32)) (aX12_meansFinished 67 rfl) (by decide) ?_
                  refine xw_isub (aX12_meansFinished 68 rfl) ?_
                  refine hw_tie (A := ((x1).toInt) - (1)) (i_sub rfl (by decide : (1 : Int32).toInt = 1) (by omega) (by omega)) (fun x112 e113 => ?_)
                  refine hw_aloadn (aX12_meansFinished 69 rfl) rfl ?_
                  obtain ⟨x114, h115⟩ : ∃ y, FLv8 121 9 = y := ⟨_, rfl⟩
                  have h115l := congrArg Int64.toInt h115
                  have := l_rng x114
                  refine hw_get (v := .long (x114)) (aX12_meansFinished 70 rfl) wf_RX12_212 (c121 hS) (s121 hS) (by decide) (congrArg Value.long (show FLv8 121 9 = x114 from h115)) ?_
                  refine xw_lloadn (aX12_meansFinished 71 rfl) rfl ?_
                  refine xw_ladd (aX12_meansFinished 72 rfl) ?_
                  refine hw_tl (fun x116 => ?_)
                  have b117 := l_rng x116
                  refine hv_last (k := (x112).toNatClampNeg) (aX12_meansFinished 73 rfl) (c173 hS) (s173 hS) (h_in e113 (by omega) (by omega)) rfl (fun FL118 u119 => ?_)
                  refine xw_goto (tgt := 195) (aX12_meansFinished 74 rfl) (by decide) ?_
                  refine xw_goto (tgt := 0) (aX12_meansFinished 108 rfl) (by decide) ?_
                  exact hw_L (ih FI32 FL118 (gf_f fr9 u33 (by decide)) (gf_a fr10 u119 (by decide)) hI35 (show FI32 121 101 = x1 from (up_k u33 (by decide) (kp12))) (show rl_wm (FI32 121 90) (FI32 165) (FI32 166) from rl34) (by have := congrArg Int32.toInt (show FI32 121 90 = x30 from up_eq u33); have := (e31 : (x30).toInt = ((x18).toInt) - (1)); omega) (by have := congrArg Int32.toInt (show FI32 121 90 = x30 from up_eq u33); have := (e31 : (x30).toInt = ((x18).toInt) - (1)); omega) (show au_fin (sk (FI 166) ((FI32 121 90).toInt).toNat) = au_fin (sk (FI 166) (FI 121 90).toInt.toNat) from (by have := congrArg Int32.toInt (show FI32 121 90 = x30 from up_eq u33); have := (e31 : (x30).toInt = ((x18).toInt) - (1)); exact (by have hh := u27 (by omega); rw [show FIv7 166 = FI 166 from rw16, show FIv7 121 90 = x18 from h19] at hh; have hi := xi0_0; rw [show FIv7 121 90 = x18 from h19, hh, show (r24).toInt = 9 by omega, au_fin_pop] at hi; rw [show ((FI32 121 90).toInt : Int) = (x18).toInt - 1 by omega]; exact hi))) (show FI32 166 = FI 166 from (up_row u33 (by decide) (rw16))) (by have := congrArg Int32.toInt (show FI32 121 90 = x30 from up_eq u33); have := (e31 : (x30).toInt = ((x18).toInt) - (1)); omega)) ⟨rfl, trivial⟩
                · refine hw_aloadn (aX12_meansFinished 60 rfl) rfl ?_
                  refine hw_bp (v := (11 : Int32)) (aX12_meansFinished 61 rfl) (by decide) ?_
                  refine hv_puti (aX12_meansFinished 62 rfl) wf_RX12_653 (c121 hS) (s121 hS) (by decide) rfl rfl (fun FI120 u121 => ?_)
                  have rl122 : rl_wm (FI120 121 90) (FI120 165) (FI120 166) := by rw [show FI120 165 = FI32 165 from up_row u121 (by decide) rfl, show FI120 166 = FI32 166 from up_row u121 (by decide) rfl, show FI120 121 90 = FI32 121 90 from up_k u121 (by decide) rfl]; exact rl34
                  have hI123 : g_I FI120 := gU_F hI35 u121 rfl
                  refine hw_aloadn (aX12_meansFinished 63 rfl) rfl ?_
                  refine hw_get (v := .ref (base + 173)) (aX12_meansFinished 64 rfl) wf_RX12_178 (c121 hS) (s121 hS) (by decide) (congrArg (fun r => va_rf (h_rf base r)) (r121_100 hF)) ?_
                  refine hw_aloadn (aX12_meansFinished 65 rfl) rfl ?_
                  refine hw_get (v := .int (x1)) (aX12_meansFinished 66 rfl) wf_RX12_683 (c121 hS) (s121 hS) (by decide) (congrArg Value.int (show FI120 121 101 = x1 from (up_k u121 (by decide) ((up_k u33 (by decide) (kp12)))))) ?_
                  refine hw_ic (v := (1 : Int32)) (aX12_meansFinished 67 rfl) (by decide) ?_
                  refine xw_isub (aX12_meansFinished 68 rfl) ?_
                  refine hw_tie (A := ((x1).toInt) - (1)) (i_sub rfl (by decide : (1 : Int32).toInt = 1) (by omega) (by omega)) (fun x124 e125 => ?_)
                  refine hw_aloadn (aX12_meansFinished 69 rfl) rfl ?_
                  obtain ⟨x126, h127⟩ : ∃ y, FLv8 121 9 = y := ⟨_, rfl⟩
                  have h127l := congrArg Int64.toInt h127
                  have := l_rng x126
                  refine hw_get (v := .long (x126)) (aX12_meansFinished 70 rfl) wf_RX12_212 (c121 hS) (s121 hS) (by decide) (congrArg Value.long (show FLv8 121 9 = x126 from h127)) ?_
                  refine xw_lloadn (aX12_meansFinished 71 rfl) rfl ?_
                  refine xw_ladd (aX12_meansFinished 72 rfl) ?_
                  refine hw_tl (fun x128 => ?_)
                  have b129 := l_rng x128
                  refine hv_last (k := (x124).toNatClampNeg) (aX12_meansFinished 73 rfl) (c173 hS) (s173 hS) (h_in e125 (by omega) (by omega)) rfl (fun FL130 u131 => ?_)
                  refine xw_goto (tgt := 195) (aX12_meansFinished 74 rfl) (by decide) ?_
                  refine xw_goto (tgt := 0) (aX12_meansFinished 108 rfl) (by decide) ?_
                  exact hw_L (ih FI120 FL130 (gf_f (gf_f fr9 u33 (by decide)) u121 (by decide)) (gf_a fr10 u131 (by decide)) hI123 (show FI120 121 101 = x1 from (up_k u121 (by decide) ((up_k u33 (by decide) (kp12))))) (show rl_wm (FI120 121 90) (FI120 165) (FI120 166) from rl122) (by have := congrArg Int32.toInt (show FI120 121 90 = x30 from (up_k u121 (by decide) (up_eq u33))); have := (e31 : (x30).toInt = ((x18).toInt) - (1)); omega) (by have := congrArg Int32.toInt (show FI120 121 90 = x30 from (up_k u121 (by decide) (up_eq u33))); have := (e31 : (x30).toInt = ((x18).toInt) - (1)); omega) (show au_fin (sk (FI 166) ((FI120 121 90).toInt).toNat) = au_fin (sk (FI 166) (FI 121 90).toInt.toNat) from (by have := congrArg Int32.toInt (show FI120 121 90 = x30 from (up_k u121 (by decide) (up_eq u33))); have := (e31 : (x30).toInt = ((x18).toInt) - (1)); exact (by have hh := u27 (by omega); rw [show FIv7 166 = FI 166 from rw16, show FIv7 121 90 = x18 from h19] at hh; have hi := xi0_0; rw [show FIv7 121 90 = x18 from h19, hh, show (r24).toInt = 9 by omega, au_fin_pop] at hi; rw [show ((FI120 121 90).toInt : Int) = (x18).toInt - 1 by omega]; exact hi))) (show FI120 166 = FI 166 from (up_row u121 (by decide) ((up_row u33 (by decide) (rw16))))) (by have := congrArg Int32.toInt (show FI120 121 90 = x30 from (up_k u121 (by decide) (up_eq u33))); have := (e31 : (x30).toInt = ((x18).toInt) - (1)); omega)) ⟨rfl, trivial⟩
          · refine hw_aloadn (aX12_meansFinished 40 rfl) rfl ?_
            refine hw_get (v := .ref (base + 173)) (aX12_meansFinished 41 rfl) wf_RX12_178 (c121 hS) (s121 hS) (by decide) (congrArg (fun r => va_rf (h_rf base r)) (r121_100 hF)) ?_
            refine hw_aloadn (aX12_meansFinished 42 rfl) rfl ?_
            refine hw_get (v := .int (x1)) (aX12_meansFinished 43 rfl) wf_RX12_683 (c121 hS) (s121 hS) (by decide) (congrArg Value.int (show FI32 121 101 = x1 from (up_k u33 (by decide) (kp12)))) ?_
            refine hw_ic (v := (1 : Int32)) (aX12_meansFinished 44 rfl) (by decide) ?_
            refine xw_isub (aX12_meansFinished 45 rfl) ?_
            refine hw_tie (A := ((x1).toInt) - (1)) (i_sub rfl (by decide : (1 : Int32).toInt = 1) (by omega) (by omega)) (fun x132 e133 => ?_)
            refine xw_lloadn (aX12_meansFinished 46 rfl) rfl ?_
            refine xw_ldc2 (aX12_meansFinished 47 rfl) wk_RX12_226 ?_
            refine xw_lxor (aX12_meansFinished 48 rfl) ?_
            refine hw_tl (fun x134 => ?_)
            have b135 := l_rng x134
            refine hv_last (k := (x132).toNatClampNeg) (aX12_meansFinished 49 rfl) (c173 hS) (s173 hS) (h_in e133 (by omega) (by omega)) rfl (fun FL136 u137 => ?_)
            refine xw_goto (tgt := 195) (aX12_meansFinished 50 rfl) (by decide) ?_
            refine xw_goto (tgt := 0) (aX12_meansFinished 108 rfl) (by decide) ?_
            exact hw_L (ih FI32 FL136 (gf_f fr9 u33 (by decide)) (gf_a fr10 u137 (by decide)) hI35 (show FI32 121 101 = x1 from (up_k u33 (by decide) (kp12))) (show rl_wm (FI32 121 90) (FI32 165) (FI32 166) from rl34) (by have := congrArg Int32.toInt (show FI32 121 90 = x30 from up_eq u33); have := (e31 : (x30).toInt = ((x18).toInt) - (1)); omega) (by have := congrArg Int32.toInt (show FI32 121 90 = x30 from up_eq u33); have := (e31 : (x30).toInt = ((x18).toInt) - (1)); omega) (show au_fin (sk (FI 166) ((FI32 121 90).toInt).toNat) = au_fin (sk (FI 166) (FI 121 90).toInt.toNat) from (by have := congrArg Int32.toInt (show FI32 121 90 = x30 from up_eq u33); have := (e31 : (x30).toInt = ((x18).toInt) - (1)); exact (by have hh := u27 (by omega); rw [show FIv7 166 = FI 166 from rw16, show FIv7 121 90 = x18 from h19] at hh; have hi := xi0_0; rw [show FIv7 121 90 = x18 from h19, hh, show (r24).toInt = 9 by omega, au_fin_pop] at hi; rw [show ((FI32 121 90).toInt : Int) = (x18).toInt - 1 by omega]; exact hi))) (show FI32 166 = FI 166 from (up_row u33 (by decide) (rw16))) (by have := congrArg Int32.toInt (show FI32 121 90 = x30 from up_eq u33); have := (e31 : (x30).toInt = ((x18).toInt) - (1)); omega)) ⟨rfl, trivial⟩
        · refine hw_aloadn (aX12_meansFinished 27 rfl) rfl ?_
          refine hw_get (v := .ref (base + 173)) (aX12_meansFinished 28 rfl) wf_RX12_178 (c121 hS) (s121 hS) (by decide) (congrArg (fun r => va_rf (h_rf base r)) (r121_100 hF)) ?_
          refine hw_aloadn (aX12_meansFinished 29 rfl) rfl ?_
          refine hw_get (v := .int (x1)) (aX12_meansFinished 30 rfl) wf_RX12_683 (c121 hS) (s121 hS) (by decide) (congrArg Value.int (show FI32 121 101 = x1 from (up_k u33 (by decide) (kp12)))) ?_
          refine hw_ic (v := (1 : Int32)) (aX12_meansFinished 31 rfl) (by decide) ?_
          refine xw_isub (aX12_meansFinished 32 rfl) ?_
          refine hw_tie (A := ((x1).toInt) - (1)) (i_sub rfl (by decide : (1 : Int32).toInt = 1) (by omega) (by omega)) (fun x138 e139 => ?_)
          refine xw_lloadn (aX12_meansFinished 33 rfl) rfl ?_
          refine xw_lneg (aX12_meansFinished 34 rfl) ?_
          refine hw_tl (fun x140 => ?_)
          have b141 := l_rng x140
          refine hv_last (k := (x138).toNatClampNeg) (aX12_meansFinished 35 rfl) (c173 hS) (s173 hS) (h_in e139 (by omega) (by omega)) rfl (fun FL142 u143 => ?_)
          refine xw_goto (tgt := 195) (aX12_meansFinished 36 rfl) (by decide) ?_
          refine xw_goto (tgt := 0) (aX12_meansFinished 108 rfl) (by decide) ?_
          exact hw_L (ih FI32 FL142 (gf_f fr9 u33 (by decide)) (gf_a fr10 u143 (by decide)) hI35 (show FI32 121 101 = x1 from (up_k u33 (by decide) (kp12))) (show rl_wm (FI32 121 90) (FI32 165) (FI32 166) from rl34) (by have := congrArg Int32.toInt (show FI32 121 90 = x30 from up_eq u33); have := (e31 : (x30).toInt = ((x18).toInt) - (1)); omega) (by have := congrArg Int32.toInt (show FI32 121 90 = x30 from up_eq u33); have := (e31 : (x30).toInt = ((x18).toInt) - (1)); omega) (show au_fin (sk (FI 166) ((FI32 121 90).toInt).toNat) = au_fin (sk (FI 166) (FI 121 90).toInt.toNat) from (by have := congrArg Int32.toInt (show FI32 121 90 = x30 from up_eq u33); have := (e31 : (x30).toInt = ((x18).toInt) - (1)); exact (by have hh := u27 (by omega); rw [show FIv7 166 = FI 166 from rw16, show FIv7 121 90 = x18 from h19] at hh; have hi := xi0_0; rw [show FIv7 121 90 = x18 from h19, hh, show (r24).toInt = 9 by omega, au_fin_pop] at hi; rw [show ((FI32 121 90).toInt : Int) = (x18).toInt - 1 by omega]; exact hi))) (show FI32 166 = FI 166 from (up_row u33 (by decide) (rw16))) (by have := congrArg Int32.toInt (show FI32 121 90 = x30 from up_eq u33); have := (e31 : (x30).toInt = ((x18).toInt) - (1)); omega)) ⟨rfl, trivial⟩
  exact hw_L (lp17 (((x4).toInt : Int).toNat + 1) FI FL gf_rf gf_rf hI (show FI 121 101 = x1 from h2) (show rl_wm (FI 121 90) (FI 165) (FI 166) from rel_wm) (by have := congrArg Int32.toInt (show FI 121 90 = x4 from h5); omega) (by have := congrArg Int32.toInt (show FI 121 90 = x4 from h5); omega) (show au_fin (sk (FI 166) ((FI 121 90).toInt).toNat) = au_fin (sk (FI 166) (FI 121 90).toInt.toNat) from (by have := congrArg Int32.toInt (show FI 121 90 = x4 from h5); exact rfl)) (show FI 166 = FI 166 from rfl) (by have := congrArg Int32.toInt (show FI 121 90 = x4 from h5); omega)) ⟨rfl, trivial⟩
