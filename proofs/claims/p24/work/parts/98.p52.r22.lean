section
def nX12_faulty : Nat := 0xac02577c01b61c1b2a0201b5032a2b01b5032a
theorem bX12_faulty : cX12_faulty.data.toList.map UInt8.toNat = x_un nX12_faulty 19 := by decide +kernel
def iX12_faulty : List (Nat × Jvm.ClassFile.Instr × Nat) := [(0, .aload_n 0, 1), (1, .iconst 0, 1), (2, .putfield 299, 3), (5, .aload_n 0, 1), (6, .iconst 0, 1), (7, .putfield 258, 3), (10, .aload_n 0, 1), (11, .iload_n 1, 1), (12, .iload_n 2, 1), (13, .invokevirtual 380, 3), (16, .pop, 1), (17, .iconst (-1), 1), (18, .ireturn, 1)]
theorem dX12_faulty : x_il nX12_faulty 19 iX12_faulty = true := by decide +kernel
theorem aX12_faulty (k : Nat) {pc : Nat} {i : Jvm.ClassFile.Instr} {len : Nat} (hk : iX12_faulty[k]? = some (pc, i, len)) : x_at xMM 224 pc i len yX12_faulty 3 (some .int) := ⟨cX12_faulty, rfl, x_il_ok bX12_faulty dX12_faulty k hk⟩
set_option maxHeartbeats 4000000 in
set_option maxRecDepth 100000 in
theorem n_faulty {zk : xK} {base d n sl : Nat} {SH : Nat → Nat × Nat} {FI : Nat → Nat → Int32} {FL : Nat → Nat → Int64} {FR : Nat → Nat → Option Nat} (hS : h_S n SH) (hF : h_FR FR) (hI : g_I FI) (a1 : Int32) (a2 : Int32) : hw zk base (d + 1) none 224 0 [(0, .ref (base + 121)), (1, .int (a1)), (2, .int (a2))] [] (n, sl, SH, FI, FL, FR) (h_I (fun r s => ∃ FI', s = (n, sl, SH, FI', FL, FR) ∧ g_I FI' ∧ g_fr n SH [(121, 31), (121, 32), (121, 53), (121, 54), (121, 55), (121, 56), (121, 57)] [] [] FI FI')) := by
  have rg_a1 := i_rng a1
  have rg_a2 := i_rng a2
  refine hw_aloadn (aX12_faulty 0 rfl) rfl ?_
  refine hw_ic (v := (0 : Int32)) (aX12_faulty 1 rfl) (by decide) ?_
  refine hv_puti (aX12_faulty 2 rfl) wf_RX12_299 (c121 hS) (s121 hS) (by decide) rfl rfl (fun FI1 u2 => ?_)
  have hI3 : g_I FI1 := gU_F hI u2 rfl
  refine hw_aloadn (aX12_faulty 3 rfl) rfl ?_
  refine hw_ic (v := (0 : Int32)) (aX12_faulty 4 rfl) (by decide) ?_
  refine hv_puti (aX12_faulty 5 rfl) wf_RX12_258 (c121 hS) (s121 hS) (by decide) rfl rfl (fun FI4 u5 => ?_)
  have hI6 : g_I FI4 := gU_F hI3 u5 rfl
  refine hw_aloadn (aX12_faulty 6 rfl) rfl ?_
  refine xw_iloadn (aX12_faulty 7 rfl) rfl ?_
  refine xw_iloadn (aX12_faulty 8 rfl) rfl ?_
  refine hw_callV (Bs := [.int (a1), .int (a2)]) (rest := []) (aX12_faulty 9 rfl) wc_RX12_380 (by decide) rfl wi_yX12_tells wv_yX12_tells (c121 hS) (s121 hS) rfl rfl rfl (Nat.le_of_ble_eq_true rfl) (Nat.le_of_ble_eq_true rfl) (n_tells (d := d) hS hF hI6 (a1) (a2) ) (fun v7 sv8 p9 => ?_)
  obtain ⟨r10, rfl, FI11, rfl, hI12, f13, t14⟩ := p9
  have rg_r10 := i_rng r10
  show hw zk base _ _ _ _ _ [.int (r10)] _ _
  refine xw_pop (aX12_faulty 10 rfl) rfl ?_
  refine hw_ic (v := ((-1) : Int32)) (aX12_faulty 11 rfl) (by decide) ?_
  refine xw_iret (aX12_faulty 12 rfl) rfl rfl ?_
  have e15 : (((-1) : Int32)).toInt = (-1) := (by decide : ((-1) : Int32).toInt = (-1))
  exact ⟨((-1) : Int32), rfl, FI11, rfl, hI12, (gf_tr ex_rf (gf_f (gf_f gf_rf u2 (by decide)) u5 (by decide)) f13 rfl rfl rfl)⟩
def nX12_keepsSign : Nat := 0xac030400a70407009a94851b2f9002b42a7500b42a1600a0082e9002b42a7200b42a
theorem bX12_keepsSign : cX12_keepsSign.data.toList.map UInt8.toNat = x_un nX12_keepsSign 34 := by decide +kernel
def iX12_keepsSign : List (Nat × Jvm.ClassFile.Instr × Nat) := [(0, .aload_n 0, 1), (1, .getfield 114, 3), (4, .aload_n 0, 1), (5, .getfield 656, 3), (8, .iaload, 1), (9, .iconst 5, 1), (10, .if_icmp .ne 22, 3), (13, .aload_n 0, 1), (14, .getfield 117, 3), (17, .aload_n 0, 1), (18, .getfield 656, 3), (21, .laload, 1), (22, .iload_n 1, 1), (23, .i2l, 1), (24, .lcmp, 1), (25, .ifCond .ne 7, 3), (28, .iconst 1, 1), (29, .goto 4, 3), (32, .iconst 0, 1), (33, .ireturn, 1)]
theorem dX12_keepsSign : x_il nX12_keepsSign 34 iX12_keepsSign = true := by decide +kernel
theorem aX12_keepsSign (k : Nat) {pc : Nat} {i : Jvm.ClassFile.Instr} {len : Nat} (hk : iX12_keepsSign[k]? = some (pc, i, len)) : x_at xMM 254 pc i len yX12_keepsSign 2 (some .boolean) := ⟨cX12_keepsSign, rfl, x_il_ok bX12_keepsSign dX12_keepsSign k hk⟩
set_option maxHeartbeats 4000000 in
set_option maxRecDepth 100000 in
theorem n_keepsSign {zk : xK} {base d n sl : Nat} {SH : Nat → Nat × Nat} {FI : Nat → Nat → Int32} {FL : Nat → Nat → Int64} {FR : Nat → Nat → Option Nat} (hS : h_S n SH) (hF : h_FR FR) (hI : g_I FI) (a1 : Int32) : hw zk base d none 254 0 [(0, .ref (base + 121)), (1, .int (a1))] [] (n, sl, SH, FI, FL, FR) (h_I (fun r s => s = (n, sl, SH, FI, FL, FR) ∧ (0 ≤ r.toInt ∧ r.toInt ≤ 1) ∧ ((r.toInt = 1 ↔ (kf (FI 152) (FI 121 92).toInt.toNat = 5 ∧ wf (FL 153) (FI 121 92).toInt.toNat = (a1).toInt))))) := by
  have rg_a1 := i_rng a1
  refine hw_aloadn (aX12_keepsSign 0 rfl) rfl ?_
  refine hw_get (v := .ref (base + 152)) (aX12_keepsSign 1 rfl) wf_RX12_114 (c121 hS) (s121 hS) (by decide) (congrArg (fun r => va_rf (h_rf base r)) (r121_65 hF)) ?_
  refine hw_aloadn (aX12_keepsSign 2 rfl) rfl ?_
  obtain ⟨x1, h2⟩ : ∃ y, FI 121 92 = y := ⟨_, rfl⟩
  have h2l := congrArg Int32.toInt h2
  have b3 := gI_121_92 hI; rw [h2] at b3
  refine hw_get (v := .int (x1)) (aX12_keepsSign 3 rfl) wf_RX12_656 (c121 hS) (s121 hS) (by decide) (congrArg Value.int (show FI 121 92 = x1 from h2)) ?_
  obtain ⟨x4, h5⟩ : ∃ y, FI 152 (x1).toNatClampNeg = y := ⟨_, rfl⟩
  have h5l := congrArg Int32.toInt h5
  have := i_rng x4
  refine hw_iald (v := x4) (aX12_keepsSign 4 rfl) (c152 hS) (s152 hS) (h_in rfl (by omega) (by omega)) (show FI 152 (x1).toNatClampNeg = x4 from h5) ?_
  refine hw_ic (v := (5 : Int32)) (aX12_keepsSign 5 rfl) (by decide) ?_
  refine hw_icne (tgt := 32) (aX12_keepsSign 6 rfl) (by decide) rfl (by decide : (5 : Int32).toInt = 5) (fun cd6 => ?_) (fun cd6 => ?_)
  · refine hw_ic (v := (0 : Int32)) (aX12_keepsSign 18 rfl) (by decide) ?_
    refine xw_iret (aX12_keepsSign 19 rfl) rfl (by decide) ?_
    have e7 : ((0 : Int32)).toInt = 0 := (by decide : (0 : Int32).toInt = 0)
    exact ⟨(0 : Int32), rfl, rfl, (by have : ((0 : Int32)).toInt = 0 := (by decide); omega), (by have e : (FI 121 92).toInt.toNat = (x1).toNatClampNeg := (i_cl (congrArg Int32.toInt (h2)).symm).symm; unfold kf wf; rw [e]; have := congrArg Int32.toInt (h5); have hz : (((0 : Int32))).toInt = 0 := (by decide : (0 : Int32).toInt = 0); omega)⟩
  · refine hw_aloadn (aX12_keepsSign 7 rfl) rfl ?_
    refine hw_get (v := .ref (base + 153)) (aX12_keepsSign 8 rfl) wf_RX12_117 (c121 hS) (s121 hS) (by decide) (congrArg (fun r => va_rf (h_rf base r)) (r121_66 hF)) ?_
    refine hw_aloadn (aX12_keepsSign 9 rfl) rfl ?_
    refine hw_get (v := .int (x1)) (aX12_keepsSign 10 rfl) wf_RX12_656 (c121 hS) (s121 hS) (by decide) (congrArg Value.int (show FI 121 92 = x1 from h2)) ?_
    obtain ⟨x8, h9⟩ : ∃ y, FL 153 (x1).toNatClampNeg = y := ⟨_, rfl⟩
    have h9l := congrArg Int64.toInt h9
    have := l_rng x8
    refine hw_lald (v := x8) (aX12_keepsSign 11 rfl) (c153 hS) (s153 hS) (h_in rfl (by omega) (by omega)) (show FL 153 (x1).toNatClampNeg = x8 from h9) ?_
    refine xw_iloadn (aX12_keepsSign 12 rfl) rfl ?_
    refine xw_i2l (aX12_keepsSign 13 rfl) ?_
    refine hw_tle (A := (a1).toInt) (i_2l rfl) (fun x10 e11 => ?_)
    refine hw_lcne (tgt := 32) (aX12_keepsSign 14 rfl) (aX12_keepsSign 15 rfl) (by decide) rfl e11 (fun cd12 => ?_) (fun cd12 => ?_)
    · refine hw_ic (v := (0 : Int32)) (aX12_keepsSign 18 rfl) (by decide) ?_
      refine xw_iret (aX12_keepsSign 19 rfl) rfl (by decide) ?_
      have e13 : ((0 : Int32)).toInt = 0 := (by decide : (0 : Int32).toInt = 0)
      exact ⟨(0 : Int32), rfl, rfl, (by have : ((0 : Int32)).toInt = 0 := (by decide); omega), (by have e : (FI 121 92).toInt.toNat = (x1).toNatClampNeg := (i_cl (congrArg Int32.toInt (h2)).symm).symm; unfold kf wf; rw [e]; have := congrArg Int32.toInt (h5); have hz : (((0 : Int32))).toInt = 0 := (by decide : (0 : Int32).toInt = 0); have := congrArg Int64.toInt (h9); omega)⟩
    · refine hw_ic (v := (1 : Int32)) (aX12_keepsSign 16 rfl) (by decide) ?_
      refine xw_goto (tgt := 33) (aX12_keepsSign 17 rfl) (by decide) ?_
      refine xw_iret (aX12_keepsSign 19 rfl) rfl (by decide) ?_
      have e14 : ((1 : Int32)).toInt = 1 := (by decide : (1 : Int32).toInt = 1)
      exact ⟨(1 : Int32), rfl, rfl, (by have : ((1 : Int32)).toInt = 1 := (by decide); omega), (by have e : (FI 121 92).toInt.toNat = (x1).toNatClampNeg := (i_cl (congrArg Int32.toInt (h2)).symm).symm; unfold kf wf; rw [e]; have := congrArg Int32.toInt (h5); have hz : (((1 : Int32))).toInt = 1 := (by decide : (1 : Int32).toInt = 1); have := congrArg Int64.toInt (h9); omega)⟩
def nX12_keepsWord : Nat := 0xac030400a70407009a94851b2f9002b42a7500b42a1600a0052e9002b42a7200b42a
theorem bX12_keepsWord : cX12_keepsWord.data.toList.map UInt8.toNat = x_un nX12_keepsWord 34 := by decide +kernel
def iX12_keepsWord : List (Nat × Jvm.ClassFile.Instr × Nat) := [(0, .aload_n 0, 1), (1, .getfield 114, 3), (4, .aload_n 0, 1), (5, .getfield 656, 3), (8, .iaload, 1), (9, .iconst 2, 1), (10, .if_icmp .ne 22, 3), (13, .aload_n 0, 1), (14, .getfield 117, 3), (17, .aload_n 0, 1), (18, .getfield 656, 3), (21, .laload, 1), (22, .iload_n 1, 1), (23, .i2l, 1), (24, .lcmp, 1), (25, .ifCond .ne 7, 3), (28, .iconst 1, 1), (29, .goto 4, 3), (32, .iconst 0, 1), (33, .ireturn, 1)]
theorem dX12_keepsWord : x_il nX12_keepsWord 34 iX12_keepsWord = true := by decide +kernel
theorem aX12_keepsWord (k : Nat) {pc : Nat} {i : Jvm.ClassFile.Instr} {len : Nat} (hk : iX12_keepsWord[k]? = some (pc, i, len)) : x_at xMM 255 pc i len yX12_keepsWord 2 (some .boolean) := ⟨cX12_keepsWord, rfl, x_il_ok bX12_keepsWord dX12_keepsWord k hk⟩
set_option maxHeartbeats 4000000 in
set_option maxRecDepth 100000 in
theorem n_keepsWord {zk : xK} {base d n sl : Nat} {SH : Nat → Nat × Nat} {FI : Nat → Nat → Int32} {FL : Nat → Nat → Int64} {FR : Nat → Nat → Option Nat} (hS : h_S n SH) (hF : h_FR FR) (hI : g_I FI) (a1 : Int32) : hw zk base d none 255 0 [(0, .ref (base + 121)), (1, .int (a1))] [] (n, sl, SH, FI, FL, FR) (h_I (fun r s => s = (n, sl, SH, FI, FL, FR) ∧ (0 ≤ r.toInt ∧ r.toInt ≤ 1) ∧ ((r.toInt = 1 ↔ (kf (FI 152) (FI 121 92).toInt.toNat = 2 ∧ wf (FL 153) (FI 121 92).toInt.toNat = (a1).toInt))))) := by
  have rg_a1 := i_rng a1
  refine hw_aloadn (aX12_keepsWord 0 rfl) rfl ?_
  refine hw_get (v := .ref (base + 152)) (aX12_keepsWord 1 rfl) wf_RX12_114 (c121 hS) (s121 hS) (by decide) (congrArg (fun r => va_rf (h_rf base r)) (r121_65 hF)) ?_
  refine hw_aloadn (aX12_keepsWord 2 rfl) rfl ?_
  obtain ⟨x1, h2⟩ : ∃ y, FI 121 92 = y := ⟨_, rfl⟩
  have h2l := congrArg Int32.toInt h2
  have b3 := gI_121_92 hI; rw [h2] at b3
  refine hw_get (v := .int (x1)) (aX12_keepsWord 3 rfl) wf_RX12_656 (c121 hS) (s121 hS) (by decide) (congrArg Value.int (show FI 121 92 = x1 from h2)) ?_
  obtain ⟨x4, h5⟩ : ∃ y, FI 152 (x1).toNatClampNeg = y := ⟨_, rfl⟩
  have h5l := congrArg Int32.toInt h5
  have := i_rng x4
  refine hw_iald (v := x4) (aX12_keepsWord 4 rfl) (c152 hS) (s152 hS) (h_in rfl (by omega) (by omega)) (show FI 152 (x1).toNatClampNeg = x4 from h5) ?_
  refine hw_ic (v := (2 : Int32)) (aX12_keepsWord 5 rfl) (by decide) ?_
  refine hw_icne (tgt := 32) (aX12_keepsWord 6 rfl) (by decide) rfl (by decide : (2 : Int32).toInt = 2) (fun cd6 => ?_) (fun cd6 => ?_)
  · refine hw_ic (v := (0 : Int32)) (aX12_keepsWord 18 rfl) (by decide) ?_
    refine xw_iret (aX12_keepsWord 19 rfl) rfl (by decide) ?_
    have e7 : ((0 : Int32)).toInt = 0 := (by decide : (0 : Int32).toInt = 0)
    exact ⟨(0 : Int32), rfl, rfl, (by have : ((0 : Int32)).toInt = 0 := (by decide); omega), (by have e : (FI 121 92).toInt.toNat = (x1).toNatClampNeg := (i_cl (congrArg Int32.toInt (h2)).symm).symm; unfold kf wf; rw [e]; have := congrArg Int32.toInt (h5); have hz : (((0 : Int32))).toInt = 0 := (by decide : (0 : Int32).toInt = 0); omega)⟩
  · refine hw_aloadn (aX12_keepsWord 7 rfl) rfl ?_
    refine hw_get (v := .ref (base + 153)) (aX12_keepsWord 8 rfl) wf_RX12_117 (c121 hS) (s121 hS) (by decide) (congrArg (fun r => va_rf (h_rf base r)) (r121_66 hF)) ?_
    refine hw_aloadn (aX12_keepsWord 9 rfl) rfl ?_
    refine hw_get (v := .int (x1)) (aX12_keepsWord 10 rfl) wf_RX12_656 (c121 hS) (s121 hS) (by decide) (congrArg Value.int (show FI 121 92 = x1 from h2)) ?_
    obtain ⟨x8, h9⟩ : ∃ y, FL 153 (x1).toNatClampNeg = y := ⟨_, rfl⟩
    have h9l := congrArg Int64.toInt h9
    have := l_rng x8
    refine hw_lald (v := x8) (aX12_keepsWord 11 rfl) (c153 hS) (s153 hS) (h_in rfl (by omega) (by omega)) (show FL 153 (x1).toNatClampNeg = x8 from h9) ?_
    refine xw_iloadn (aX12_keepsWord 12 rfl) rfl ?_
    refine xw_i2l (aX12_keepsWord 13 rfl) ?_
    refine hw_tle (A := (a1).toInt) (i_2l rfl) (fun x10 e11 => ?_)
    refine hw_lcne (tgt := 32) (aX12_keepsWord 14 rfl) (aX12_keepsWord 15 rfl) (by decide) rfl e11 (fun cd12 => ?_) (fun cd12 => ?_)
    · refine hw_ic (v := (0 : Int32)) (aX12_keepsWord 18 rfl) (by decide) ?_
      refine xw_iret (aX12_keepsWord 19 rfl) rfl (by decide) ?_
      have e13 : ((0 : Int32)).toInt = 0 := (by decide : (0 : Int32).toInt = 0)
      exact ⟨(0 : Int32), rfl, rfl, (by have : ((0 : Int32)).toInt = 0 := (by decide); omega), (by have e : (FI 121 92).toInt.toNat = (x1).toNatClampNeg := (i_cl (congrArg Int32.toInt (h2)).symm).symm; unfold kf wf; rw [e]; have := congrArg Int32.toInt (h5); have hz : (((0 : Int32))).toInt = 0 := (by decide : (0 : Int32).toInt = 0); have := congrArg Int64.toInt (h9); omega)⟩
    · refine hw_ic (v := (1 : Int32)) (aX12_keepsWord 16 rfl) (by decide) ?_
      refine xw_goto (tgt := 33) (aX12_keepsWord 17 rfl) (by decide) ?_
      refine xw_iret (aX12_keepsWord 19 rfl) rfl (by decide) ?_
      have e14 : ((1 : Int32)).toInt = 1 := (by decide : (1 : Int32).toInt = 1)
      exact ⟨(1 : Int32), rfl, rfl, (by have : ((1 : Int32)).toInt = 1 := (by decide); omega), (by have e : (FI 121 92).toInt.toNat = (x1).toNatClampNeg := (i_cl (congrArg Int32.toInt (h2)).symm).symm; unfold kf wf; rw [e]; have := congrArg Int32.toInt (h5); have hz : (((1 : Int32))).toInt = 1 := (by decide : (1 : Int32).toInt = 1); have := congrArg Int64.toInt (h9); omega)⟩
set_option maxHeartbeats 4000000 in
set_option maxRecDepth 100000 in
theorem n_does {zk : xK} {base d n sl : Nat} {SH : Nat → Nat × Nat} {FI : Nat → Nat → Int32} {FL : Nat → Nat → Int64} {FR : Nat → Nat → Option Nat} (hS : h_S n SH) (hF : h_FR FR) (hI : g_I FI) : hw zk base d none 258 0 [(0, .ref (base + 121))] [] (n, sl, SH, FI, FL, FR) (h_I (fun r s => s = (n, sl, SH, FI, FL, FR) ∧ (0 ≤ r.toInt ∧ r.toInt ≤ 1))) := by
  obtain ⟨x1, h2⟩ : ∃ y, FI 121 104 = y := ⟨_, rfl⟩
  have h2l := congrArg Int32.toInt h2
  have b3 := gI_121_104 hI; rw [h2] at b3
  refine hw_aloadn (aX12_does 0 rfl) rfl ?_
  refine hw_get (v := .int (x1)) (aX12_does 1 rfl) wf_RX12_680 (c121 hS) (s121 hS) (by decide) (congrArg Value.int (show FI 121 104 = x1 from h2)) ?_
  refine hw_ifeq (tgt := 18) (aX12_does 2 rfl) (by decide) rfl (fun cd4 => ?_) (fun cd4 => ?_)
  · refine hw_ic (v := (0 : Int32)) (aX12_does 8 rfl) (by decide) ?_
    refine xw_iret (aX12_does 9 rfl) rfl (by decide) ?_
    have e5 : ((0 : Int32)).toInt = 0 := (by decide : (0 : Int32).toInt = 0)
    exact ⟨(0 : Int32), rfl, rfl, (by have : ((0 : Int32)).toInt = 0 := (by decide); omega)⟩
  · refine hw_aloadn (aX12_does 3 rfl) rfl ?_
    obtain ⟨x6, h7⟩ : ∃ y, FI 121 93 = y := ⟨_, rfl⟩
    have h7l := congrArg Int32.toInt h7
    have := i_rng x6
    refine hw_get (v := .int (x6)) (aX12_does 4 rfl) wf_RX12_653 (c121 hS) (s121 hS) (by decide) (congrArg Value.int (show FI 121 93 = x6 from h7)) ?_
    refine hw_ifne (tgt := 18) (aX12_does 5 rfl) (by decide) rfl (fun cd8 => ?_) (fun cd8 => ?_)
    · refine hw_ic (v := (0 : Int32)) (aX12_does 8 rfl) (by decide) ?_
      refine xw_iret (aX12_does 9 rfl) rfl (by decide) ?_
      have e9 : ((0 : Int32)).toInt = 0 := (by decide : (0 : Int32).toInt = 0)
      exact ⟨(0 : Int32), rfl, rfl, (by have : ((0 : Int32)).toInt = 0 := (by decide); omega)⟩
    · refine hw_ic (v := (1 : Int32)) (aX12_does 6 rfl) (by decide) ?_
      refine xw_goto (tgt := 19) (aX12_does 7 rfl) (by decide) ?_
      refine xw_iret (aX12_does 9 rfl) rfl (by decide) ?_
      have e10 : ((1 : Int32)).toInt = 1 := (by decide : (1 : Int32).toInt = 1)
      exact ⟨(1 : Int32), rfl, rfl, (by have : ((1 : Int32)).toInt = 1 := (by decide); omega)⟩
set_option maxHeartbeats 4000000 in
set_option maxRecDepth 100000 in
theorem n_value {zk : xK} {base d n sl : Nat} {SH : Nat → Nat × Nat} {FI : Nat → Nat → Int32} {FL : Nat → Nat → Int64} {FR : Nat → Nat → Option Nat} (hS : h_S n SH) (hF : h_FR FR) (hI : g_I FI) (a1 : Int64) (g0 : (FI 121 101).toInt ≤ 511) : hw zk base d none 259 0 [(0, .ref (base + 121)), (1, .long (a1))] [] (n, sl, SH, FI, FL, FR) (h_V (fun s => ∃ FI' FL', s = (n, sl, SH, FI', FL', FR) ∧ g_I FI' ∧ g_fr n SH [(121, 101)] [] [] FI FI' ∧ g_fr n SH [] [173] [] FL FL' ∧ ((FI' 121 101).toInt = (FI 121 101).toInt + 1))) := by
  have rg_a1 := l_rng a1
  obtain ⟨x1, h2⟩ : ∃ y, FI 121 101 = y := ⟨_, rfl⟩
  have h2l := congrArg Int32.toInt h2
  have b3 := gI_121_101 hI; rw [h2] at b3
  refine hw_aloadn (aX12_value 0 rfl) rfl ?_
  refine hw_get (v := .ref (base + 173)) (aX12_value 1 rfl) wf_RX12_178 (c121 hS) (s121 hS) (by decide) (congrArg (fun r => va_rf (h_rf base r)) (r121_100 hF)) ?_
  refine hw_aloadn (aX12_value 2 rfl) rfl ?_
  refine hw_get (v := .int (x1)) (aX12_value 3 rfl) wf_RX12_683 (c121 hS) (s121 hS) (by decide) (congrArg Value.int (show FI 121 101 = x1 from h2)) ?_
  refine xw_lloadn (aX12_value 4 rfl) rfl ?_
  refine hv_last (k := (x1).toNatClampNeg) (aX12_value 5 rfl) (c173 hS) (s173 hS) (h_in rfl (by omega) (by omega)) rfl (fun FL4 u5 => ?_)
  refine hw_aloadn (aX12_value 6 rfl) rfl ?_
  refine hw_aloadn (aX12_value 7 rfl) rfl ?_
  refine hw_get (v := .int (x1)) (aX12_value 8 rfl) wf_RX12_683 (c121 hS) (s121 hS) (by decide) (congrArg Value.int (show FI 121 101 = x1 from h2)) ?_
  refine hw_ic (v := (1 : Int32)) (aX12_value 9 rfl) (by decide) ?_
  refine xw_iadd (aX12_value 10 rfl) ?_
  refine hw_tie (A := ((x1).toInt) + (1)) (i_add rfl (by decide : (1 : Int32).toInt = 1) (by omega) (by omega)) (fun x6 e7 => ?_)
  refine hv_puti (aX12_value 11 rfl) wf_RX12_683 (c121 hS) (s121 hS) (by decide) rfl rfl (fun FI8 u9 => ?_)
  have hI10 : g_I FI8 := gU_121_101 hI u9 (by have := (e7 : (x6).toInt = ((x1).toInt) + (1)); omega) (by have := (e7 : (x6).toInt = ((x1).toInt) + (1)); omega)
  refine xw_vret (aX12_value 12 rfl) rfl ?_
  exact ⟨rfl, FI8, FL4, rfl, hI10, (gf_f gf_rf u9 (by decide)), (gf_a gf_rf u5 (by decide)), (by have := congrArg Int32.toInt (show FI8 121 101 = x6 from up_eq u9); have := (e7 : (x6).toInt = ((x1).toInt) + (1)); omega)⟩
set_option maxHeartbeats 4000000 in
set_option maxRecDepth 100000 in
theorem n_laterm {zk : xK} {base d n sl : Nat} {SH : Nat → Nat × Nat} {FI : Nat → Nat → Int32} {FL : Nat → Nat → Int64} {FR : Nat → Nat → Option Nat} (hS : h_S n SH) (hF : h_FR FR) (hI : g_I FI) (a1 : Int32) (a2 : Int32) (g0 : (FI 121 90).toInt ≤ 255) (g1 : (a2).toInt = 9 → ((a1).toInt = 31 ∨ (a1).toInt = 32 ∨ (a1).toInt = 155 ∨ (257 ≤ (a1).toInt ∧ (a1).toInt ≤ 264))) (rel_wm : rl_wm (FI 121 90) (FI 165) (FI 166)) : hw zk base d none 231 0 [(0, .ref (base + 121)), (1, .int (a1)), (2, .int (a2))] [] (n, sl, SH, FI, FL, FR) (h_V (fun s => ∃ FI', s = (n, sl, SH, FI', FL, FR) ∧ g_I FI' ∧ g_fr n SH [(121, 90)] [165, 166] [] FI FI' ∧ ((FI' 121 90).toInt = (FI 121 90).toInt + 1) ∧ (FI' 166 = va_up (FI 166) (FI 121 90).toNatClampNeg a2) ∧ (sk (FI' 166) (FI' 121 90).toInt.toNat = (a2).toInt :: sk (FI 166) (FI 121 90).toInt.toNat) ∧ (rl_wm (FI' 121 90) (FI' 165) (FI' 166)))) := by
  have rg_a1 := i_rng a1
  have rg_a2 := i_rng a2
  obtain ⟨x1, h2⟩ : ∃ y, FI 121 90 = y := ⟨_, rfl⟩
  have h2l := congrArg Int32.toInt h2
  have b3 := gI_121_90 hI; rw [h2] at b3
  refine hw_aloadn (aX12_later 0 rfl) rfl ?_
  refine hw_get (v := .ref (base + 165)) (aX12_later 1 rfl) wf_RX12_154 (c121 hS) (s121 hS) (by decide) (congrArg (fun r => va_rf (h_rf base r)) (r121_86 hF)) ?_
  refine hw_aloadn (aX12_later 2 rfl) rfl ?_
  refine hw_get (v := .int (x1)) (aX12_later 3 rfl) wf_RX12_556 (c121 hS) (s121 hS) (by decide) (congrArg Value.int (show FI 121 90 = x1 from h2)) ?_
  refine xw_iloadn (aX12_later 4 rfl) rfl ?_
  refine hv_iast (k := (x1).toNatClampNeg) (aX12_later 5 rfl) (c165 hS) (s165 hS) (h_in rfl (by omega) (by omega)) rfl (fun FI4 u5 => ?_)
  have hI6 : g_I FI4 := gU_F hI u5 rfl
  refine hw_aloadn (aX12_later 6 rfl) rfl ?_
  refine hw_get (v := .ref (base + 166)) (aX12_later 7 rfl) wf_RX12_157 (c121 hS) (s121 hS) (by decide) (congrArg (fun r => va_rf (h_rf base r)) (r121_87 hF)) ?_
  refine hw_aloadn (aX12_later 8 rfl) rfl ?_
  refine hw_get (v := .int (x1)) (aX12_later 9 rfl) wf_RX12_556 (c121 hS) (s121 hS) (by decide) (congrArg Value.int (show FI4 121 90 = x1 from (up_c u5 (by decide) (h2)))) ?_
  refine xw_iloadn (aX12_later 10 rfl) rfl ?_
  refine hv_iast (k := (x1).toNatClampNeg) (aX12_later 11 rfl) (c166 hS) (s166 hS) (h_in rfl (by omega) (by omega)) rfl (fun FI7 u8 => ?_)
  have hI9 : g_I FI7 := gU_F hI6 u8 rfl
  refine hw_aloadn (aX12_later 12 rfl) rfl ?_
  refine hw_aloadn (aX12_later 13 rfl) rfl ?_
  refine hw_get (v := .int (x1)) (aX12_later 14 rfl) wf_RX12_556 (c121 hS) (s121 hS) (by decide) (congrArg Value.int (show FI7 121 90 = x1 from (up_c u8 (by decide) ((up_c u5 (by decide) (h2)))))) ?_
  refine hw_ic (v := (1 : Int32)) (aX12_later 15 rfl) (by decide) ?_
  refine xw_iadd (aX12_later 16 rfl) ?_
  refine hw_tie (A := ((x1).toInt) + (1)) (i_add rfl (by decide : (1 : Int32).toInt = 1) (by omega) (by omega)) (fun x10 e11 => ?_)
  refine hv_puti (aX12_later 17 rfl) wf_RX12_556 (c121 hS) (s121 hS) (by decide) rfl rfl (fun FI12 u13 => ?_)
  have hI14 : g_I FI12 := gU_121_90 hI9 u13 (by have := (e11 : (x10).toInt = ((x1).toInt) + (1)); omega) (by have := (e11 : (x10).toInt = ((x1).toInt) + (1)); omega)
  have rl15 : rl_wm (FI12 121 90) (FI12 165) (FI12 166) := by have z0 := congrArg Int32.toInt (show FI12 121 90 = x10 from up_eq u13); have := (e11 : (x10).toInt = ((x1).toInt) + (1)); have z1 := congrArg Int32.toInt (show FI 121 90 = x1 from h2); have this := rel_wm; rw [show FI 121 90 = x1 from h2] at this; rw [show FI12 165 = va_up (FI 165) ((x1).toNatClampNeg) (a1) from (up_row u13 (by decide) ((up_row u8 (by decide) ((up_va u5 (rfl)))))), show FI12 166 = va_up (FI 166) ((x1).toNatClampNeg) (a2) from (up_row u13 (by decide) ((up_va u8 ((up_row u5 (by decide) (rfl)))))), show FI12 121 90 = x10 from up_eq u13]; exact rl_wm_push this (by omega) (by omega) g1
  refine xw_vret (aX12_later 18 rfl) rfl ?_
  exact ⟨rfl, FI12, rfl, hI14, (gf_f (gf_a (gf_a gf_rf u5 (by decide)) u8 (by decide)) u13 (by decide)), (by have := congrArg Int32.toInt (show FI12 121 90 = x10 from up_eq u13); have := (e11 : (x10).toInt = ((x1).toInt) + (1)); omega), (by rw [show FI 121 90 = x1 from h2]; exact (up_row u13 (by decide) ((up_va u8 ((up_row u5 (by decide) (rfl))))))), (by have z0 := congrArg Int32.toInt (show FI12 121 90 = x10 from up_eq u13); have := (e11 : (x10).toInt = ((x1).toInt) + (1)); rw [show FI12 166 = va_up (FI 166) ((x1).toNatClampNeg) (a2) from (up_row u13 (by decide) ((up_va u8 ((up_row u5 (by decide) (rfl)))))), show FI 121 90 = x1 from h2]; exact sk_push2 (by omega) (by omega)), (show rl_wm (FI12 121 90) (FI12 165) (FI12 166) from rl15)⟩
def nX12_meansFinished : Nat := 0xb13dffa750090400a75601b6640001111b202a10009904156404ab02b42ab200b42a8d02b5082a08009a041504364701b685640001111b202a380099c002b62a3f00a7506120d400b42a6404ab02b42ab200b42a8d02b50b102a09009ad700b42a100099c002b62a2b00a09b00111b6e00a75083e20014206404ab02b42ab200b42a1600a020101b8700a75075206404ab02b42ab200b42a1300a01f101b412f6404ab02b42ab200b42a3c2e2c02b42a9a00b42a2c02b564042c02b42a2ac000a009102f02b62a
theorem bX12_meansFinished : cX12_meansFinished.data.toList.map UInt8.toNat = x_un nX12_meansFinished 199 := by decide +kernel
def iX12_meansFinished : List (Nat × Jvm.ClassFile.Instr × Nat) := [(0, .aload_n 0, 1), (1, .invokevirtual 559, 3), (4, .bipush 9, 2), (6, .if_icmp .ne 192, 3), (9, .aload_n 0, 1), (10, .aload_n 0, 1), (11, .getfield 556, 3), (14, .iconst 1, 1), (15, .isub, 1), (16, .putfield 556, 3), (19, .aload_n 0, 1), (20, .getfield 154, 3), (23, .aload_n 0, 1), (24, .getfield 556, 3), (27, .iaload, 1), (28, .istore_n 1, 1), (29, .aload_n 0, 1), (30, .getfield 178, 3), (33, .aload_n 0, 1), (34, .getfield 683, 3), (37, .iconst 1, 1), (38, .isub, 1), (39, .laload, 1), (40, .lstore_n 2, 1), (41, .iload_n 1, 1), (42, .bipush 31, 2), (44, .if_icmp .ne 19, 3), (47, .aload_n 0, 1), (48, .getfield 178, 3), (51, .aload_n 0, 1), (52, .getfield 683, 3), (55, .iconst 1, 1), (56, .isub, 1), (57, .lload_n 2, 1), (58, .lneg, 1), (59, .lastore, 1), (60, .goto 135, 3), (63, .iload_n 1, 1), (64, .bipush 32, 2), (66, .if_icmp .ne 22, 3), (69, .aload_n 0, 1), (70, .getfield 178, 3), (73, .aload_n 0, 1), (74, .getfield 683, 3), (77, .iconst 1, 1), (78, .isub, 1), (79, .lload_n 2, 1), (80, .ldc2_w 226, 3), (83, .lxor, 1), (84, .lastore, 1), (85, .goto 110, 3), (88, .iload_n 1, 1), (89, .sipush 155, 3), (92, .if_icmp .ne 43, 3), (95, .aload_n 0, 1), (96, .invokevirtual 704, 3), (99, .ifCond .eq 16, 3), (102, .aload_n 0, 1), (103, .getfield 215, 3), (106, .ifCond .ne 9, 3), (109, .aload_n 0, 1), (110, .bipush 11, 2), (112, .putfield 653, 3), (115, .aload_n 0, 1), (116, .getfield 178, 3), (119, .aload_n 0, 1), (120, .getfield 683, 3), (123, .iconst 1, 1), (124, .isub, 1), (125, .aload_n 0, 1), (126, .getfield 212, 3), (129, .lload_n 2, 1), (130, .ladd, 1), (131, .lastore, 1), (132, .goto 63, 3), (135, .aload_n 0, 1), (136, .invokevirtual 704, 3), (139, .ifCond .eq 56, 3), (142, .aload_n 0, 1), (143, .lload_n 2, 1), (144, .iload_n 1, 1), (145, .sipush 256, 3), (148, .isub, 1), (149, .i2l, 1), (150, .invokevirtual 327, 3), (153, .istore 4, 2), (155, .iload 4, 2), (157, .ifCond .ne 8, 3), (160, .aload_n 0, 1), (161, .iconst 5, 1), (162, .putfield 653, 3), (165, .aload_n 0, 1), (166, .getfield 178, 3), (169, .aload_n 0, 1), (170, .getfield 683, 3), (173, .iconst 1, 1), (174, .isub, 1), (175, .iload 4, 2), (177, .ifCond .eq 16, 3), (180, .aload_n 0, 1), (181, .lload_n 2, 1), (182, .iload_n 1, 1), (183, .sipush 256, 3), (186, .isub, 1), (187, .invokevirtual 342, 3), (190, .goto 4, 3), (193, .lconst 0, 1), (194, .lastore, 1), (195, .goto (-195), 3), (198, .return_, 1)]
theorem dX12_meansFinished : x_il nX12_meansFinished 199 iX12_meansFinished = true := by decide +kernel
theorem aX12_meansFinished (k : Nat) {pc : Nat} {i : Jvm.ClassFile.Instr} {len : Nat} (hk : iX12_meansFinished[k]? = some (pc, i, len)) : x_at xMM 263 pc i len yX12_meansFinished 5 none := ⟨cX12_meansFinished, rfl, x_il_ok bX12_meansFinished dX12_meansFinished k hk⟩
set_option maxHeartbeats 4000000 in
set_option maxRecDepth 100000 in
theorem n_meansFinished {zk : xK} {base d n sl : Nat} {SH : Nat → Nat × Nat} {FI : Nat → Nat → Int32} {FL : Nat → Nat → Int64} {FR : Nat → Nat → Option Nat} (hS : h_S n SH) (hF : h_FR FR) (hI : g_I FI) (g0 : 1 ≤ (FI 121 101).toInt) (rel_wm : rl_wm (FI 121 90) (FI 165) (FI 166)) : hw zk base (d + 1) none 263 0 [(0, .ref (base + 121))] [] (n, sl, SH, FI, FL, FR) (h_V (fun s => ∃ FI' FL', s = (n, sl, SH, FI', FL', FR) ∧ g_I FI' ∧ g_fr n SH [(121, 90), (121, 93)] [] [] FI FI' ∧ g_fr n SH [] [173] [] FL FL' ∧ ((FI' 121 90).toInt ≤ (FI 121 90).toInt) ∧ ((FI' 121 101).toInt = (FI 121 101).toInt) ∧ (sk (FI 166) (FI' 121 90).toInt.toNat = au_fin (sk (FI 166) (FI 121 90).toInt.toNat)) ∧ (rl_wm (FI' 121 90) (FI' 165) (FI' 166)))) := by
  obtain ⟨x1, h2⟩ : ∃ y, FI 121 101 = y := ⟨_, rfl⟩
  have h2l := congrArg Int32.toInt h2
  have b3 := gI_121_101 hI; rw [h2] at b3
  obtain ⟨x4, h5⟩ : ∃ y, FI 121 90 = y := ⟨_, rfl⟩
  have h5l := congrArg Int32.toInt h5
  have b6 := gI_121_90 hI; rw [h5] at b6
  have lp17 : ∀ (m : Nat) (FIv7 : Nat → Nat → Int32) (FLv8 : Nat → Nat → Int64), (g_fr n SH [(121, 90), (121, 93)] [] [] FI FIv7) → (g_fr n SH [] [173] [] FL FLv8) → (g_I FIv7) → (FIv7 121 101 = x1) → (rl_wm (FIv7 121 90) (FIv7 165) (FIv7 166)) → (0 ≤ (FIv7 121 90).toInt ∧ (FIv7 121 90).toInt ≤ 256) → ((FIv7 121 90).toInt ≤ (FI 121 90).toInt) → (au_fin (sk (FI 166) ((FIv7 121 90).toInt).toNat) = au_fin (sk (FI 166) (FI 121 90).toInt.toNat)) → (FIv7 166 = FI 166) → (FIv7 121 90).toInt < m → hw zk base (d + 1) none 263 0 [(0, .ref (base + 121))] [] (n, sl, SH, FIv7, FLv8, FR) (h_V (fun s => ∃ FI' FL', s = (n, sl, SH, FI', FL', FR) ∧ g_I FI' ∧ g_fr n SH [(121, 90), (121, 93)] [] [] FI FI' ∧ g_fr n SH [] [173] [] FL FL' ∧ ((FI' 121 90).toInt ≤ (FI 121 90).toInt) ∧ ((FI' 121 101).toInt = (FI 121 101).toInt) ∧ (sk (FI 166) (FI' 121 90).toInt.toNat = au_fin (sk (FI 166) (FI 121 90).toInt.toNat)) ∧ (rl_wm (FI' 121 90) (FI' 165) (FI' 166)))) := by
    intro m
    induction m with
    | zero => intro FIv7 FLv8 fr9 fr10 hI11 kp12 rl13 iv14 iv15 xi0_0 rw16 hm; omega
    | succ m ih =>
      intro FIv7 FLv8 fr9 fr10 hI11 kp12 rl13 iv14 iv15 xi0_0 rw16 hm
      have := congrArg Int32.toInt kp12
      obtain ⟨x18, h19⟩ : ∃ y, FIv7 121 90 = y := ⟨_, rfl⟩
      have h19l := congrArg Int32.toInt h19
      have b20 := gI_121_90 hI11; rw [h19] at b20
      refine hw_aloadn (aX12_meansFinished 0 rfl) rfl ?_
      refine hw_callV (Bs := []) (rest := []) (aX12_meansFinished 1 rfl) wc_RX12_559 (by decide) rfl wi_yX12_tops wv_yX12_tops (c121 hS) (s121 hS) rfl rfl rfl (Nat.le_of_ble_eq_true rfl) (Nat.le_of_ble_eq_true rfl) (n_tops (d := d) hS hF hI11 ) (fun v21 sv22 p23 => ?_)
      have := congrArg Int32.toInt (show FIv7 121 90 = x18 from h19)
      obtain ⟨r24, rfl, rfl, t26, u27, u28⟩ := p23
      have rg_r24 := i_rng r24
      show hw zk base _ _ _ _ _ [.int (r24)] _ _
      refine hw_bp (v := (9 : Int32)) (aX12_meansFinished 2 rfl) (by decide) ?_
      refine hw_icne (tgt := 198) (aX12_meansFinished 3 rfl) (by decide) rfl (by decide : (9 : Int32).toInt = 9) (fun cd29 => ?_) (fun cd29 => ?_)
      · refine xw_vret (aX12_meansFinished 109 rfl) rfl ?_
        exact ⟨rfl, FIv7, FLv8, rfl, hI11, fr9, fr10, (by have := congrArg Int32.toInt (show FIv7 121 90 = x18 from h19); omega), (by have := congrArg Int32.toInt (show FIv7 121 101 = x1 from kp12); omega), (by have hi := xi0_0; rw [show FIv7 121 90 = x18 from h19] at hi; rw [show FIv7 121 90 = x18 from h19]; rcases Int.lt_or_le 0 (x18).toInt with h0 | h0; { have hh := u27 (by omega); rw [show FIv7 166 = FI 166 from rw16, show FIv7 121 90 = x18 from h19] at hh; rw [hh, au_fin_stop (by omega)] at hi; rw [← hi, ← hh] }; { rw [show (x18).toInt.toNat = 0 by omega] at hi ⊢; exact hi }), (show rl_wm (FIv7 121 90) (FIv7 165) (FIv7 166) from rl13)⟩
      · refine hw_aloadn (aX12_meansFinished 4 rfl) rfl ?_
        refine hw_aloadn (aX12_meansFinished 5 rfl) rfl ?_
        refine hw_get (v := .int (x18)) (aX12_meansFinished 6 rfl) wf_RX12_556 (c121 hS) (s121 hS) (by decide) (congrArg Value.int (show FIv7 121 90 = x18 from h19)) ?_
        refine hw_ic (v := (1 : Int32)) (aX12_meansFinished 7 rfl) (by decide) ?_
        refine xw_isub (aX12_meansFinished 8 rfl) ?_
        refine hw_tie (A := ((x18).toInt) - (1)) (i_sub rfl (by decide : (1 : Int32).toInt = 1) (by omega) (by omega)) (fun x30 e31 => ?_)
        refine hv_puti (aX12_meansFinished 9 rfl) wf_RX12_556 (c121 hS) (s121 hS) (by decide) rfl rfl (fun FI32 u33 => ?_)
        have rl34 : rl_wm (FI32 121 90) (FI32 165) (FI32 166) := by have z0 := congrArg Int32.toInt (show FIv7 121 90 = x18 from h19); have z1 := congrArg Int32.toInt (show FI32 121 90 = x30 from up_eq u33); have := (e31 : (x30).toInt = ((x18).toInt) - (1)); rw [show FI32 165 = FIv7 165 from up_row u33 (by decide) rfl, show FI32 166 = FIv7 166 from up_row u33 (by decide) rfl]; exact rl_wm_mono rl13 (by omega)
        have hI35 : g_I FI32 := gU_121_90 hI11 u33 (by have := (e31 : (x30).toInt = ((x18).toInt) - (1)); omega) (by have := (e31 : (x30).toInt = ((x18).toInt) - (1)); omega)
        refine hw_aloadn (aX12_meansFinished 10 rfl) rfl ?_
        refine hw_get (v := .ref (base + 165)) (aX12_meansFinished 11 rfl) wf_RX12_154 (c121 hS) (s121 hS) (by decide) (congrArg (fun r => va_rf (h_rf base r)) (r121_86 hF)) ?_
        refine hw_aloadn (aX12_meansFinished 12 rfl) rfl ?_
        refine hw_get (v := .int (x30)) (aX12_meansFinished 13 rfl) wf_RX12_556 (c121 hS) (s121 hS) (by decide) (congrArg Value.int (show FI32 121 90 = x30 from up_eq u33)) ?_
        obtain ⟨x36, h37⟩ : ∃ y, FI32 165 (x30).toNatClampNeg = y := ⟨_, rfl⟩
        have h37l := congrArg Int32.toInt h37
        have := i_rng x36
        refine hw_iald (v := x36) (aX12_meansFinished 14 rfl) (c165 hS) (s165 hS) (h_in e31 (by omega) (by omega)) (show FI32 165 (x30).toNatClampNeg = x36 from h37) ?_
        refine xw_istoren (L2 := [(1, .int (x36)), (0, .ref (base + 121))]) (aX12_meansFinished 15 rfl) (by decide) rfl ?_
        refine hw_aloadn (aX12_meansFinished 16 rfl) rfl ?_
        refine hw_get (v := .ref (base + 173)) (aX12_meansFinished 17 rfl) wf_RX12_178 (c121 hS) (s121 hS) (by decide) (congrArg (fun r => va_rf (h_rf base r)) (r121_100 hF)) ?_
        refine hw_aloadn (aX12_meansFinished 18 rfl) rfl ?_
        refine hw_get (v := .int (x1)) (aX12_meansFinished 19 rfl) wf_RX12_683 (c121 hS) (s121 hS) (by decide) (congrArg Value.int (show FI32 121 101 = x1 from (up_k u33 (by decide) (kp12)))) ?_
        refine hw_ic (v := (1 : Int32)) (aX12_meansFinished 20 rfl) (by decide) ?_
        refine xw_isub (aX12_meansFinished 21 rfl) ?_
        refine hw_tie (A := ((x1).toInt) - (1)) (i_sub rfl (by decide : (1 : Int32).toInt = 1) (by omega) (by omega)) (fun x38 e39 => ?_)
        obtain ⟨x40, h41⟩ : ∃ y, FLv8 173 (x38).toNatClampNeg = y := ⟨_, rfl⟩
        have h41l := congrArg Int64.toInt h41
        have := l_rng x40
        refine hw_lald (v := x40) (aX12_meansFinished 22 rfl) (c173 hS) (s173 hS) (h_in e39 (by omega) (by omega)) (show FLv8 173 (x38).toNatClampNeg = x40 from h41) ?_
        refine xw_lstoren (L2 := [(2, .long (x40)), (1, .int (x36)), (0, .ref (base + 121))]) (aX12_meansFinished 23 rfl) (by decide) rfl ?_
        have hcw := rl13 ((FIv7 121 90).toInt - 1).toNat (by omega) (by rw [u28 (by omega)]; omega)
        rw [← i_cl (x := x30) (A := (FIv7 121 90).toInt - 1) (by omega), ← (show FI32 165 = FIv7 165 from (up_row u33 (by decide) (rfl)))] at hcw
        have e42 : 31 ≤ (x36).toInt ∧ (x36).toInt ≤ 264 := by omega
        refine xw_iloadn (aX12_meansFinished 24 rfl) rfl ?_
        refine hw_bp (v := (31 : Int32)) (aX12_meansFinished 25 rfl) (by decide) ?_
        refine hw_icne (tgt := 63) (aX12_meansFinished 26 rfl) (by decide) rfl (by decide : (31 : Int32).toInt = 31) (fun cd43 => ?_) (fun cd43 => ?_)
        · refine xw_iloadn (aX12_meansFinished 37 rfl) rfl ?_
          refine hw_bp (v := (32 : Int32)) (aX12_meansFinished 38 rfl) (by decide) ?_
          refine hw_icne (tgt := 88) (aX12_meansFinished 39 rfl) (by decide) rfl (by decide : (32 : Int32).toInt = 32) (fun cd44 => ?_) (fun cd44 => ?_)
          · refine xw_iloadn (aX12_meansFinished 51 rfl) rfl ?_
            refine hw_sp (v := (155 : Int32)) (aX12_meansFinished 52 rfl) (by decide) ?_
            refine hw_icne (tgt := 135) (aX12_meansFinished 53 rfl) (by decide) rfl (by decide : (155 : Int32).toInt = 155) (fun cd45 => ?_) (fun cd45 => ?_)
            · have e46 : 257 ≤ (x36).toInt ∧ (x36).toInt ≤ 264 := by omega
              refine hw_aloadn (aX12_meansFinished 75 rfl) rfl ?_
              refine hw_callV (Bs := []) (rest := []) (aX12_meansFinished 76 rfl) wc_RX12_704 (by decide) rfl wi_yX12_does wv_yX12_does (c121 hS) (s121 hS) rfl rfl rfl (Nat.le_of_ble_eq_true rfl) (Nat.le_of_ble_eq_true rfl) (n_does (d := d) hS hF hI35 ) (fun v47 sv48 p49 => ?_)
              obtain ⟨r50, rfl, rfl, t52⟩ := p49
              show hw zk base _ _ _ _ _ [.int (r50)] _ _
              refine hw_ifeq (tgt := 195) (aX12_meansFinished 77 rfl) (by decide) rfl (fun cd53 => ?_) (fun cd53 => ?_)
              · refine xw_goto (tgt := 0) (aX12_meansFinished 108 rfl) (by decide) ?_
                exact hw_L (ih FI32 FLv8 (gf_f fr9 u33 (by decide)) fr10 hI35 (show FI32 121 101 = x1 from (up_k u33 (by decide) (kp12))) (show rl_wm (FI32 121 90) (FI32 165) (FI32 166) from rl34) (by have := congrArg Int32.toInt (show FI32 121 90 = x30 from up_eq u33); have := (e31 : (x30).toInt = ((x18).toInt) - (1)); omega) (by have := congrArg Int32.toInt (show FI32 121 90 = x30 from up_eq u33); have := (e31 : (x30).toInt = ((x18).toInt) - (1)); omega) (show au_fin (sk (FI 166) ((FI32 121 90).toInt).toNat) = au_fin (sk (FI 166) (FI 121 90).toInt.toNat) from (by have := congrArg Int32.toInt (show FI32 121 90 = x30 from up_eq u33); have := (e31 : (x30).toInt = ((x18).toInt) - (1)); exact (by have hh := u27 (by omega); rw [show FIv7 166 = FI 166 from rw16, show FIv7 121 90 = x18 from h19] at hh; have hi := xi0_0; rw [show FIv7 121 90 = x18 from h19, hh, show (r24).toInt = 9 by omega, au_fin_pop] at hi; rw [show ((FI32 121 90).toInt : Int) = (x18).toInt - 1 by omega]; exact hi))) (show FI32 166 = FI 166 from (up_row u33 (by decide) (rw16))) (by have := congrArg Int32.toInt (show FI32 121 90 = x30 from up_eq u33); have := (e31 : (x30).toInt = ((x18).toInt) - (1)); omega)) ⟨rfl, trivial⟩
              · refine hw_aloadn (aX12_meansFinished 78 rfl) rfl ?_
                refine xw_lloadn (aX12_meansFinished 79 rfl) rfl ?_
                refine xw_iloadn (aX12_meansFinished 80 rfl) rfl ?_
                refine hw_sp (v := (256 : Int32)) (aX12_meansFinished 81 rfl) (by decide) ?_
                refine xw_isub (aX12_meansFinished 82 rfl) ?_
                refine hw_tie (A := ((x36).toInt) - (256)) (i_sub rfl (by decide : (256 : Int32).toInt = 256) (by omega) (by omega)) (fun x54 e55 => ?_)
                refine xw_i2l (aX12_meansFinished 83 rfl) ?_
                refine hw_tle (A := ((x36).toInt) - (256)) (i_2l e55) (fun x56 e57 => ?_)
                refine hw_callV (Bs := [.long (x40), .long (x56)]) (rest := []) (aX12_meansFinished 84 rfl) wc_RX12_327 (by decide) rfl wi_yX12_isThere wv_yX12_isThere (c121 hS) (s121 hS) rfl rfl rfl (Nat.le_of_ble_eq_true rfl) (Nat.le_of_ble_eq_true rfl) (m_isThere (d := d) hS hF (x40) (x56) (by have := (e57 : (x56).toInt = ((x36).toInt) - (256)); have := (e57 : (x56).toInt = ((x36).toInt) - (256)); omega)) (fun v58 sv59 p60 => ?_)
                have := (e57 : (x56).toInt = ((x36).toInt) - (256))
                obtain ⟨r61, rfl, FI62, FL63, rfl, rfl, rfl, t66, t67⟩ := p60
                show hw zk base _ _ _ _ _ [.int (r61)] _ _
                refine xw_istore (L2 := [(4, .int (r61)), (2, .long (x40)), (1, .int (x36)), (0, .ref (base + 121))]) (aX12_meansFinished 85 rfl) (by decide) rfl ?_
                refine xw_iload (aX12_meansFinished 86 rfl) rfl ?_
                refine hw_ifne (tgt := 165) (aX12_meansFinished 87 rfl) (by decide) rfl (fun cd68 => ?_) (fun cd68 => ?_)
                · replace t66 := t66 (by omega)
                  refine hw_aloadn (aX12_meansFinished 91 rfl) rfl ?_
                  refine hw_get (v := .ref (base + 173)) (aX12_meansFinished 92 rfl) wf_RX12_178 (c121 hS) (s121 hS) (by decide) (congrArg (fun r => va_rf (h_rf base r)) (r121_100 hF)) ?_
                  refine hw_aloadn (aX12_meansFinished 93 rfl) rfl ?_
                  refine hw_get (v := .int (x1)) (aX12_meansFinished 94 rfl) wf_RX12_683 (c121 hS) (s121 hS) (by decide) (congrArg Value.int (show FI32 121 101 = x1 from (up_k u33 (by decide) (kp12)))) ?_
                  refine hw_ic (v := (1 : Int32)) (aX12_meansFinished 95 rfl) (by decide) ?_
                  refine xw_isub (aX12_meansFinished 96 rfl) ?_
                  refine hw_tie (A := ((x1).toInt) - (1)) (i_sub rfl (by decide : (1 : Int32).toInt = 1) (by omega) (by omega)) (fun x69 e70 => ?_)
                  refine xw_iload (aX12_meansFinished 97 rfl) rfl ?_
                  refine hw_ifeq (tgt := 193) (aX12_meansFinished 98 rfl) (by decide) rfl (fun cd71 => ?_) (fun cd71 => ?_)
                  · omega
                  · refine hw_aloadn (aX12_meansFinished 99 rfl) rfl ?_
                    refine xw_lloadn (aX12_meansFinished 100 rfl) rfl ?_
                    refine xw_iloadn (aX12_meansFinished 101 rfl) rfl ?_
                    refine hw_sp (v := (256 : Int32)) (aX12_meansFinished 102 rfl) (by decide) ?_
                    refine xw_isub (aX12_meansFinished 103 rfl) ?_
                    refine hw_tie (A := ((x36).toInt) - (256)) (i_sub rfl (by decide : (256 : Int32).toInt = 256) (by omega) (by omega)) (fun x72 e73 => ?_)
                    refine hw_callV (Bs := [.long (x40), .int (x72)]) (rest := [.int (x69), .ref (base + 173)]) (aX12_meansFinished 104 rfl) wc_RX12_342 (by decide) rfl wi_yX12_read wv_yX12_read (c121 hS) (s121 hS) rfl rfl rfl (Nat.le_of_ble_eq_true rfl) (Nat.le_of_ble_eq_true rfl) (m_read (d := d) hS hF (x40) (x72) (by have := (e73 : (x72).toInt = ((x36).toInt) - (256)); omega) (by omega) (by have := (e73 : (x72).toInt = ((x36).toInt) - (256)); have := (e73 : (x72).toInt = ((x36).toInt) - (256)); omega)) (fun v74 sv75 p76 => ?_)
                    obtain ⟨r77, rfl, FI78, FL79, rfl, rfl, rfl⟩ := p76
                    have rg_r77 := l_rng r77
                    show hw zk base _ _ _ _ _ [.long (r77), .int (x69), .ref (base + 173)] _ _
                    refine xw_goto (tgt := 194) (aX12_meansFinished 105 rfl) (by decide) ?_
                    refine hv_last (k := (x69).toNatClampNeg) (aX12_meansFinished 107 rfl) (c173 hS) (s173 hS) (h_in e70 (by omega) (by omega)) rfl (fun FL82 u83 => ?_)
                    refine xw_goto (tgt := 0) (aX12_meansFinished 108 rfl) (by decide) ?_
                    exact hw_L (ih FI32 FL82 (gf_f fr9 u33 (by decide)) (gf_a fr10 u83 (by decide)) hI35 (show FI32 121 101 = x1 from (up_k u33 (by decide) (kp12))) (show rl_wm (FI32 121 90) (FI32 165) (FI32 166) from rl34) (by have := congrArg Int32.toInt (show FI32 121 90 = x30 from up_eq u33); have := (e31 : (x30).toInt = ((x18).toInt) - (1)); omega) (by have := congrArg Int32.toInt (show FI32 121 90 = x30 from up_eq u33); have := (e31 : (x30).toInt = ((x18).toInt) - (1)); omega) (show au_fin (sk (FI 166) ((FI32 121 90).toInt).toNat) = au_fin (sk (FI 166) (FI 121 90).toInt.toNat) from (by have := congrArg Int32.toInt (show FI32 121 90 = x30 from up_eq u33); have := (e31 : (x30).toInt = ((x18).toInt) - (1)); exact (by have hh := u27 (by omega); rw [show FIv7 166 = FI 166 from rw16, show FIv7 121 90 = x18 from h19] at hh; have hi := xi0_0; rw [show FIv7 121 90 = x18 from h19, hh, show (r24).toInt = 9 by omega, au_fin_pop] at hi; rw [show ((FI32 121 90).toInt : Int) = (x18).toInt - 1 by omega]; exact hi))) (show FI32 166 = FI 166 from (up_row u33 (by decide) (rw16))) (by have := congrArg Int32.toInt (show FI32 121 90 = x30 from up_eq u33); have := (e31 : (x30).toInt = ((x18).toInt) - (1)); omega)) ⟨rfl, trivial⟩
                · clear t66
                  refine hw_aloadn (aX12_meansFinished 88 rfl) rfl ?_
                  refine hw_ic (v := (5 : Int32)) (aX12_meansFinished 89 rfl) (by decide) ?_
                  refine hv_puti (aX12_meansFinished 90 rfl) wf_RX12_653 (c121 hS) (s121 hS) (by decide) rfl rfl (fun FI84 u85 => ?_)
                  have rl86 : rl_wm (FI84 121 90) (FI84 165) (FI84 166) := by rw [show FI84 165 = FI32 165 from up_row u85 (by decide) rfl, show FI84 166 = FI32 166 from up_row u85 (by decide) rfl, show FI84 121 90 = FI32 121 90 from up_k u85 (by decide) rfl]; exact rl34
                  have hI87 : g_I FI84 := gU_F hI35 u85 rfl
                  refine hw_aloadn (aX12_meansFinished 91 rfl) rfl ?_
                  refine hw_get (v := .ref (base + 173)) (aX12_meansFinished 92 rfl) wf_RX12_178 (c121 hS) (s121 hS) (by decide) (congrArg (fun r => va_rf (h_rf base r)) (r121_100 hF)) ?_
                  refine hw_aloadn (aX12_meansFinished 93 rfl) rfl ?_
                  refine hw_get (v := .int (x1)) (aX12_meansFinished 94 rfl) wf_RX12_683 (c121 hS) (s121 hS) (by decide) (congrArg Value.int (show FI84 121 101 = x1 from (up_k u85 (by decide) ((up_k u33 (by decide) (kp12)))))) ?_
                  refine hw_ic (v := (1 : Int32)) (aX12_meansFinished 95 rfl) (by decide) ?_
                  refine xw_isub (aX12_meansFinished 96 rfl) ?_
                  refine hw_tie (A := ((x1).toInt) - (1)) (i_sub rfl (by decide : (1 : Int32).toInt = 1) (by omega) (by omega)) (fun x88 e89 => ?_)
                  refine xw_iload (aX12_meansFinished 97 rfl) rfl ?_
                  refine hw_ifeq (tgt := 193) (aX12_meansFinished 98 rfl) (by decide) rfl (fun cd90 => ?_) (fun cd90 => ?_)
                  · refine hw_lc (v := (0 : Int64)) (aX12_meansFinished 106 rfl) (by decide) ?_
                    refine hv_last (k := (x88).toNatClampNeg) (aX12_meansFinished 107 rfl) (c173 hS) (s173 hS) (h_in e89 (by omega) (by omega)) rfl (fun FL91 u92 => ?_)
                    refine xw_goto (tgt := 0) (aX12_meansFinished 108 rfl) (by decide) ?_
                    exact hw_L (ih FI84 FL91 (gf_f (gf_f fr9 u33 (by decide)) u85 (by decide)) (gf_a fr10 u92 (by decide)) hI87 (show FI84 121 101 = x1 from (up_k u85 (by decide) ((up_k u33 (by decide) (kp12))))) (show rl_wm (FI84 121 90) (FI84 165) (FI84 166) from rl86) (by have := congrArg Int32.toInt (show FI84 121 90 = x30 from (up_k u85 (by decide) (up_eq u33))); have := (e31 : (x30).toInt = ((x18).toInt) - (1)); omega) (by have := congrArg Int32.toInt (show FI84 121 90 = x30 from (up_k u85 (by decide) (up_eq u33))); have := (e31 : (x30).toInt = ((x18).toInt) - (1)); omega) (show au_fin (sk (FI 166) ((FI84 121 90).toInt).toNat) = au_fin (sk (FI 166) (FI 121 90).toInt.toNat) from (by have := congrArg Int32.toInt (show FI84 121 90 = x30 from (up_k u85 (by decide) (up_eq u33))); have := (e31 : (x30).toInt = ((x18).toInt) - (1)); exact (by have hh := u27 (by omega); rw [show FIv7 166 = FI 166 from rw16, show FIv7 121 90 = x18 from h19] at hh; have hi := xi0_0; rw [show FIv7 121 90 = x18 from h19, hh, show (r24).toInt = 9 by omega, au_fin_pop] at hi; rw [show ((FI84 121 90).toInt : Int) = (x18).toInt - 1 by omega]; exact hi))) (show FI84 166 = FI 166 from (up_row u85 (by decide) ((up_row u33 (by decide) (rw16))))) (by have := congrArg Int32.toInt (show FI84 121 90 = x30 from (up_k u85 (by decide) (up_eq u33))); have := (e31 : (x30).toInt = ((x18).toInt) - (1)); omega)) ⟨rfl, trivial⟩
                  · omega
            · refine hw_aloadn (aX12_meansFinished 54 rfl) rfl ?_
              refine hw_callV (Bs := []) (rest := []) (aX12_meansFinished 55 rfl) wc_RX12_704 (by decide) rfl wi_yX12_does wv_yX12_does (c121 hS) (s121 hS) rfl rfl rfl (Nat.le_of_ble_eq_true rfl) (Nat.le_of_ble_eq_true rfl) (n_does (d := d) hS hF hI35 ) (fun v93 sv94 p95 => ?_)
              obtain ⟨r96, rfl, rfl, t98⟩ := p95
              show hw zk base _ _ _ _ _ [.int (r96)] _ _
              refine hw_ifeq (tgt := 115) (aX12_meansFinished 56 rfl) (by decide) rfl (fun cd99 => ?_) (fun cd99 => ?_)
              · refine hw_aloadn (aX12_meansFinished 63 rfl) rfl ?_
                refine hw_get (v := .ref (base + 173)) (aX12_meansFinished 64 rfl) wf_RX12_178 (c121 hS) (s121 hS) (by decide) (congrArg (fun r => va_rf (h_rf base r)) (r121_100 hF)) ?_
                refine hw_aloadn (aX12_meansFinished 65 rfl) rfl ?_
                refine hw_get (v := .int (x1)) (aX12_meansFinished 66 rfl) wf_RX12_683 (c121 hS) (s121 hS) (by decide) (congrArg Value.int (show FI32 121 101 = x1 from (up_k u33 (by decide) (kp12)))) ?_
                refine hw_ic (v := (1 : Int32)) (aX12_meansFinished 67 rfl) (by decide) ?_
                refine xw_isub (aX12_meansFinished 68 rfl) ?_
                refine hw_tie (A := ((x1).toInt) - (1)) (i_sub rfl (by decide : (1 : Int32).toInt = 1) (by omega) (by omega)) (fun x100 e101 => ?_)
                refine hw_aloadn (aX12_meansFinished 69 rfl) rfl ?_
                obtain ⟨x102, h103⟩ : ∃ y, FLv8 121 9 = y := ⟨_, rfl⟩
                have h103l := congrArg Int64.toInt h103
                have := l_rng x102
                refine hw_get (v := .long (x102)) (aX12_meansFinished 70 rfl) wf_RX12_212 (c121 hS) (s121 hS) (by decide) (congrArg Value.long (show FLv8 121 9 = x102 from h103)) ?_
                refine xw_lloadn (aX12_meansFinished 71 rfl) rfl ?_
                refine xw_ladd (aX12_meansFinished 72 rfl) ?_
                refine hw_tl (fun x104 => ?_)
                have b105 := l_rng x104
                refine hv_last (k := (x100).toNatClampNeg) (aX12_meansFinished 73 rfl) (c173 hS) (s173 hS) (h_in e101 (by omega) (by omega)) rfl (fun FL106 u107 => ?_)
                refine xw_goto (tgt := 195) (aX12_meansFinished 74 rfl) (by decide) ?_
                refine xw_goto (tgt := 0) (aX12_meansFinished 108 rfl) (by decide) ?_
                exact hw_L (ih FI32 FL106 (gf_f fr9 u33 (by decide)) (gf_a fr10 u107 (by decide)) hI35 (show FI32 121 101 = x1 from (up_k u33 (by decide) (kp12))) (show rl_wm (FI32 121 90) (FI32 165) (FI32 166) from rl34) (by have := congrArg Int32.toInt (show FI32 121 90 = x30 from up_eq u33); have := (e31 : (x30).toInt = ((x18).toInt) - (1)); omega) (by have := congrArg Int32.toInt (show FI32 121 90 = x30 from up_eq u33); have := (e31 : (x30).toInt = ((x18).toInt) - (1)); omega) (show au_fin (sk (FI 166) ((FI32 121 90).toInt).toNat) = au_fin (sk (FI 166) (FI 121 90).toInt.toNat) from (by have := congrArg Int32.toInt (show FI32 121 90 = x30 from up_eq u33); have := (e31 : (x30).toInt = ((x18).toInt) - (1)); exact (by have hh := u27 (by omega); rw [show FIv7 166 = FI 166 from rw16, show FIv7 121 90 = x18 from h19] at hh; have hi := xi0_0; rw [show FIv7 121 90 = x18 from h19, hh, show (r24).toInt = 9 by omega, au_fin_pop] at hi; rw [show ((FI32 121 90).toInt : Int) = (x18).toInt - 1 by omega]; exact hi))) (show FI32 166 = FI 166 from (up_row u33 (by decide) (rw16))) (by have := congrArg Int32.toInt (show FI32 121 90 = x30 from up_eq u33); have := (e31 : (x30).toInt = ((x18).toInt) - (1)); omega)) ⟨rfl, trivial⟩
              · refine hw_aloadn (aX12_meansFinished 57 rfl) rfl ?_
                obtain ⟨x108, h109⟩ : ∃ y, FI32 121 11 = y := ⟨_, rfl⟩
                have h109l := congrArg Int32.toInt h109
                have b110 := gI_121_11 hI35; rw [h109] at b110
                refine hw_get (v := .int (x108)) (aX12_meansFinished 58 rfl) wf_RX12_215 (c121 hS) (s121 hS) (by decide) (congrArg Value.int (show FI32 121 11 = x108 from h109)) ?_
                refine hw_ifne (tgt := 115) (aX12_meansFinished 59 rfl) (by decide) rfl (fun cd111 => ?_) (fun cd111 => ?_)
                · refine hw_aloadn (aX12_meansFinished 63 rfl) rfl ?_
                  refine hw_get (v := .ref (base + 173)) (aX12_meansFinished 64 rfl) wf_RX12_178 (c121 hS) (s121 hS) (by decide) (congrArg (fun r => va_rf (h_rf base r)) (r121_100 hF)) ?_
                  refine hw_aloadn (aX12_meansFinished 65 rfl) rfl ?_
                  refine hw_get (v := .int (x1)) (aX12_meansFinished 66 rfl) wf_RX12_683 (c121 hS) (s121 hS) (by decide) (congrArg Value.int (show FI32 121 101 = x1 from (up_k u33 (by decide) (kp12)))) ?_
                  refine hw_ic (v := (1 : Int32)) (aX12_meansFinished 67 rfl) (by decide) ?_
                  refine xw_isub (aX12_meansFinished 68 rfl) ?_
                  refine hw_tie (A := ((x1).toInt) - (1)) (i_sub rfl (by decide : (1 : Int32).toInt = 1) (by omega) (by omega)) (fun x112 e113 => ?_)
                  refine hw_aloadn (aX12_meansFinished 69 rfl) rfl ?_
                  obtain ⟨x114, h115⟩ : ∃ y, FLv8 121 9 = y := ⟨_, rfl⟩
                  have h115l := congrArg Int64.toInt h115
                  have := l_rng x114
                  refine hw_get (v := .long (x114)) (aX12_meansFinished 70 rfl) wf_RX12_212 (c121 hS) (s121 hS) (by decide) (congrArg Value.long (show FLv8 121 9 = x114 from h115)) ?_
                  refine xw_lloadn (aX12_meansFinished 71 rfl) rfl ?_
                  refine xw_ladd (aX12_meansFinished 72 rfl) ?_
                  refine hw_tl (fun x116 => ?_)
                  have b117 := l_rng x116
                  refine hv_last (k := (x112).toNatClampNeg) (aX12_meansFinished 73 rfl) (c173 hS) (s173 hS) (h_in e113 (by omega) (by omega)) rfl (fun FL118 u119 => ?_)
                  refine xw_goto (tgt := 195) (aX12_meansFinished 74 rfl) (by decide) ?_
                  refine xw_goto (tgt := 0) (aX12_meansFinished 108 rfl) (by decide) ?_
                  exact hw_L (ih FI32 FL118 (gf_f fr9 u33 (by decide)) (gf_a fr10 u119 (by decide)) hI35 (show FI32 121 101 = x1 from (up_k u33 (by decide) (kp12))) (show rl_wm (FI32 121 90) (FI32 165) (FI32 166) from rl34) (by have := congrArg Int32.toInt (show FI32 121 90 = x30 from up_eq u33); have := (e31 : (x30).toInt = ((x18).toInt) - (1)); omega) (by have := congrArg Int32.toInt (show FI32 121 90 = x30 from up_eq u33); have := (e31 : (x30).toInt = ((x18).toInt) - (1)); omega) (show au_fin (sk (FI 166) ((FI32 121 90).toInt).toNat) = au_fin (sk (FI 166) (FI 121 90).toInt.toNat) from (by have := congrArg Int32.toInt (show FI32 121 90 = x30 from up_eq u33); have := (e31 : (x30).toInt = ((x18).toInt) - (1)); exact (by have hh := u27 (by omega); rw [show FIv7 166 = FI 166 from rw16, show FIv7 121 90 = x18 from h19] at hh; have hi := xi0_0; rw [show FIv7 121 90 = x18 from h19, hh, show (r24).toInt = 9 by omega, au_fin_pop] at hi; rw [show ((FI32 121 90).toInt : Int) = (x18).toInt - 1 by omega]; exact hi))) (show FI32 166 = FI 166 from (up_row u33 (by decide) (rw16))) (by have := congrArg Int32.toInt (show FI32 121 90 = x30 from up_eq u33); have := (e31 : (x30).toInt = ((x18).toInt) - (1)); omega)) ⟨rfl, trivial⟩
                · refine hw_aloadn (aX12_meansFinished 60 rfl) rfl ?_
                  refine hw_bp (v := (11 : Int32)) (aX12_meansFinished 61 rfl) (by decide) ?_
                  refine hv_puti (aX12_meansFinished 62 rfl) wf_RX12_653 (c121 hS) (s121 hS) (by decide) rfl rfl (fun FI120 u121 => ?_)
                  have rl122 : rl_wm (FI120 121 90) (FI120 165) (FI120 166) := by rw [show FI120 165 = FI32 165 from up_row u121 (by decide) rfl, show FI120 166 = FI32 166 from up_row u121 (by decide) rfl, show FI120 121 90 = FI32 121 90 from up_k u121 (by decide) rfl]; exact rl34
                  have hI123 : g_I FI120 := gU_F hI35 u121 rfl
                  refine hw_aloadn (aX12_meansFinished 63 rfl) rfl ?_
                  refine hw_get (v := .ref (base + 173)) (aX12_meansFinished 64 rfl) wf_RX12_178 (c121 hS) (s121 hS) (by decide) (congrArg (fun r => va_rf (h_rf base r)) (r121_100 hF)) ?_
                  refine hw_aloadn (aX12_meansFinished 65 rfl) rfl ?_
                  refine hw_get (v := .int (x1)) (aX12_meansFinished 66 rfl) wf_RX12_683 (c121 hS) (s121 hS) (by decide) (congrArg Value.int (show FI120 121 101 = x1 from (up_k u121 (by decide) ((up_k u33 (by decide) (kp12)))))) ?_
                  refine hw_ic (v := (1 : Int32)) (aX12_meansFinished 67 rfl) (by decide) ?_
                  refine xw_isub (aX12_meansFinished 68 rfl) ?_
                  refine hw_tie (A := ((x1).toInt) - (1)) (i_sub rfl (by decide : (1 : Int32).toInt = 1) (by omega) (by omega)) (fun x124 e125 => ?_)
                  refine hw_aloadn (aX12_meansFinished 69 rfl) rfl ?_
                  obtain ⟨x126, h127⟩ : ∃ y, FLv8 121 9 = y := ⟨_, rfl⟩
                  have h127l := congrArg Int64.toInt h127
                  have := l_rng x126
                  refine hw_get (v := .long (x126)) (aX12_meansFinished 70 rfl) wf_RX12_212 (c121 hS) (s121 hS) (by decide) (congrArg Value.long (show FLv8 121 9 = x126 from h127)) ?_
                  refine xw_lloadn (aX12_meansFinished 71 rfl) rfl ?_
                  refine xw_ladd (aX12_meansFinished 72 rfl) ?_
                  refine hw_tl (fun x128 => ?_)
                  have b129 := l_rng x128
                  refine hv_last (k := (x124).toNatClampNeg) (aX12_meansFinished 73 rfl) (c173 hS) (s173 hS) (h_in e125 (by omega) (by omega)) rfl (fun FL130 u131 => ?_)
                  refine xw_goto (tgt := 195) (aX12_meansFinished 74 rfl) (by decide) ?_
                  refine xw_goto (tgt := 0) (aX12_meansFinished 108 rfl) (by decide) ?_
                  exact hw_L (ih FI120 FL130 (gf_f (gf_f fr9 u33 (by decide)) u121 (by decide)) (gf_a fr10 u131 (by decide)) hI123 (show FI120 121 101 = x1 from (up_k u121 (by decide) ((up_k u33 (by decide) (kp12))))) (show rl_wm (FI120 121 90) (FI120 165) (FI120 166) from rl122) (by have := congrArg Int32.toInt (show FI120 121 90 = x30 from (up_k u121 (by decide) (up_eq u33))); have := (e31 : (x30).toInt = ((x18).toInt) - (1)); omega) (by have := congrArg Int32.toInt (show FI120 121 90 = x30 from (up_k u121 (by decide) (up_eq u33))); have := (e31 : (x30).toInt = ((x18).toInt) - (1)); omega) (show au_fin (sk (FI 166) ((FI120 121 90).toInt).toNat) = au_fin (sk (FI 166) (FI 121 90).toInt.toNat) from (by have := congrArg Int32.toInt (show FI120 121 90 = x30 from (up_k u121 (by decide) (up_eq u33))); have := (e31 : (x30).toInt = ((x18).toInt) - (1)); exact (by have hh := u27 (by omega); rw [show FIv7 166 = FI 166 from rw16, show FIv7 121 90 = x18 from h19] at hh; have hi := xi0_0; rw [show FIv7 121 90 = x18 from h19, hh, show (r24).toInt = 9 by omega, au_fin_pop] at hi; rw [show ((FI120 121 90).toInt : Int) = (x18).toInt - 1 by omega]; exact hi))) (show FI120 166 = FI 166 from (up_row u121 (by decide) ((up_row u33 (by decide) (rw16))))) (by have := congrArg Int32.toInt (show FI120 121 90 = x30 from (up_k u121 (by decide) (up_eq u33))); have := (e31 : (x30).toInt = ((x18).toInt) - (1)); omega)) ⟨rfl, trivial⟩
          · refine hw_aloadn (aX12_meansFinished 40 rfl) rfl ?_
            refine hw_get (v := .ref (base + 173)) (aX12_meansFinished 41 rfl) wf_RX12_178 (c121 hS) (s121 hS) (by decide) (congrArg (fun r => va_rf (h_rf base r)) (r121_100 hF)) ?_
            refine hw_aloadn (aX12_meansFinished 42 rfl) rfl ?_
            refine hw_get (v := .int (x1)) (aX12_meansFinished 43 rfl) wf_RX12_683 (c121 hS) (s121 hS) (by decide) (congrArg Value.int (show FI32 121 101 = x1 from (up_k u33 (by decide) (kp12)))) ?_
            refine hw_ic (v := (1 : Int32)) (aX12_meansFinished 44 rfl) (by decide) ?_
            refine xw_isub (aX12_meansFinished 45 rfl) ?_
            refine hw_tie (A := ((x1).toInt) - (1)) (i_sub rfl (by decide : (1 : Int32).toInt = 1) (by omega) (by omega)) (fun x132 e133 => ?_)
            refine xw_lloadn (aX12_meansFinished 46 rfl) rfl ?_
            refine xw_ldc2 (aX12_meansFinished 47 rfl) wk_RX12_226 ?_
            refine xw_lxor (aX12_meansFinished 48 rfl) ?_
            refine hw_tl (fun x134 => ?_)
            have b135 := l_rng x134
            refine hv_last (k := (x132).toNatClampNeg) (aX12_meansFinished 49 rfl) (c173 hS) (s173 hS) (h_in e133 (by omega) (by omega)) rfl (fun FL136 u137 => ?_)
            refine xw_goto (tgt := 195) (aX12_meansFinished 50 rfl) (by decide) ?_
            refine xw_goto (tgt := 0) (aX12_meansFinished 108 rfl) (by decide) ?_
            exact hw_L (ih FI32 FL136 (gf_f fr9 u33 (by decide)) (gf_a fr10 u137 (by decide)) hI35 (show FI32 121 101 = x1 from (up_k u33 (by decide) (kp12))) (show rl_wm (FI32 121 90) (FI32 165) (FI32 166) from rl34) (by have := congrArg Int32.toInt (show FI32 121 90 = x30 from up_eq u33); have := (e31 : (x30).toInt = ((x18).toInt) - (1)); omega) (by have := congrArg Int32.toInt (show FI32 121 90 = x30 from up_eq u33); have := (e31 : (x30).toInt = ((x18).toInt) - (1)); omega) (show au_fin (sk (FI 166) ((FI32 121 90).toInt).toNat) = au_fin (sk (FI 166) (FI 121 90).toInt.toNat) from (by have := congrArg Int32.toInt (show FI32 121 90 = x30 from up_eq u33); have := (e31 : (x30).toInt = ((x18).toInt) - (1)); exact (by have hh := u27 (by omega); rw [show FIv7 166 = FI 166 from rw16, show FIv7 121 90 = x18 from h19] at hh; have hi := xi0_0; rw [show FIv7 121 90 = x18 from h19, hh, show (r24).toInt = 9 by omega, au_fin_pop] at hi; rw [show ((FI32 121 90).toInt : Int) = (x18).toInt - 1 by omega]; exact hi))) (show FI32 166 = FI 166 from (up_row u33 (by decide) (rw16))) (by have := congrArg Int32.toInt (show FI32 121 90 = x30 from up_eq u33); have := (e31 : (x30).toInt = ((x18).toInt) - (1)); omega)) ⟨rfl, trivial⟩
        · refine hw_aloadn (aX12_meansFinished 27 rfl) rfl ?_
          refine hw_get (v := .ref (base + 173)) (aX12_meansFinished 28 rfl) wf_RX12_178 (c121 hS) (s121 hS) (by decide) (congrArg (fun r => va_rf (h_rf base r)) (r121_100 hF)) ?_
          refine hw_aloadn (aX12_meansFinished 29 rfl) rfl ?_
          refine hw_get (v := .int (x1)) (aX12_meansFinished 30 rfl) wf_RX12_683 (c121 hS) (s121 hS) (by decide) (congrArg Value.int (show FI32 121 101 = x1 from (up_k u33 (by decide) (kp12)))) ?_
          refine hw_ic (v := (1 : Int32)) (aX12_meansFinished 31 rfl) (by decide) ?_
          refine xw_isub (aX12_meansFinished 32 rfl) ?_
          refine hw_tie (A := ((x1).toInt) - (1)) (i_sub rfl (by decide : (1 : Int32).toInt = 1) (by omega) (by omega)) (fun x138 e139 => ?_)
          refine xw_lloadn (aX12_meansFinished 33 rfl) rfl ?_
          refine xw_lneg (aX12_meansFinished 34 rfl) ?_
          refine hw_tl (fun x140 => ?_)
          have b141 := l_rng x140
          refine hv_last (k := (x138).toNatClampNeg) (aX12_meansFinished 35 rfl) (c173 hS) (s173 hS) (h_in e139 (by omega) (by omega)) rfl (fun FL142 u143 => ?_)
          refine xw_goto (tgt := 195) (aX12_meansFinished 36 rfl) (by decide) ?_
          refine xw_goto (tgt := 0) (aX12_meansFinished 108 rfl) (by decide) ?_
          exact hw_L (ih FI32 FL142 (gf_f fr9 u33 (by decide)) (gf_a fr10 u143 (by decide)) hI35 (show FI32 121 101 = x1 from (up_k u33 (by decide) (kp12))) (show rl_wm (FI32 121 90) (FI32 165) (FI32 166) from rl34) (by have := congrArg Int32.toInt (show FI32 121 90 = x30 from up_eq u33); have := (e31 : (x30).toInt = ((x18).toInt) - (1)); omega) (by have := congrArg Int32.toInt (show FI32 121 90 = x30 from up_eq u33); have := (e31 : (x30).toInt = ((x18).toInt) - (1)); omega) (show au_fin (sk (FI 166) ((FI32 121 90).toInt).toNat) = au_fin (sk (FI 166) (FI 121 90).toInt.toNat) from (by have := congrArg Int32.toInt (show FI32 121 90 = x30 from up_eq u33); have := (e31 : (x30).toInt = ((x18).toInt) - (1)); exact (by have hh := u27 (by omega); rw [show FIv7 166 = FI 166 from rw16, show FIv7 121 90 = x18 from h19] at hh; have hi := xi0_0; rw [show FIv7 121 90 = x18 from h19, hh, show (r24).toInt = 9 by omega, au_fin_pop] at hi; rw [show ((FI32 121 90).toInt : Int) = (x18).toInt - 1 by omega]; exact hi))) (show FI32 166 = FI 166 from (up_row u33 (by decide) (rw16))) (by have := congrArg Int32.toInt (show FI32 121 90 = x30 from up_eq u33); have := (e31 : (x30).toInt = ((x18).toInt) - (1)); omega)) ⟨rfl, trivial⟩
  exact hw_L (lp17 (((x4).toInt : Int).toNat + 1) FI FL gf_rf gf_rf hI (show FI 121 101 = x1 from h2) (show rl_wm (FI 121 90) (FI 165) (FI 166) from rel_wm) (by have := congrArg Int32.toInt (show FI 121 90 = x4 from h5); omega) (by have := congrArg Int32.toInt (show FI 121 90 = x4 from h5); omega) (show au_fin (sk (FI 166) ((FI 121 90).toInt).toNat) = au_fin (sk (FI 166) (FI 121 90).toInt.toNat) from (by have := congrArg Int32.toInt (show FI 121 90 = x4 from h5); exact rfl)) (show FI 166 = FI 166 from rfl) (by have := congrArg Int32.toInt (show FI 121 90 = x4 from h5); omega)) ⟨rfl, trivial⟩
end
section
def nX12_meansReduced : Nat := 0xb17cffa7505a01b62105161c2a0b00a70907009907156404ab02b42ab200b42a8d02b506102a090099c002b62a10009907150736030400a70407009a9409210d00a01d101c09009f1b101c05372f6404ab02b42ab200b42a422fab02b42ab200b42aab02b56404ab02b42a2a3d2e2c02b42a9a00b42a2c02b564042c02b42a2a8200a11b2f02b62a
theorem bX12_meansReduced : cX12_meansReduced.data.toList.map UInt8.toNat = x_un nX12_meansReduced 136 := by decide +kernel
def iX12_meansReduced : List (Nat × Jvm.ClassFile.Instr × Nat) := [(0, .aload_n 0, 1), (1, .invokevirtual 559, 3), (4, .iload_n 1, 1), (5, .if_icmp .lt 130, 3), (8, .aload_n 0, 1), (9, .aload_n 0, 1), (10, .getfield 556, 3), (13, .iconst 1, 1), (14, .isub, 1), (15, .putfield 556, 3), (18, .aload_n 0, 1), (19, .getfield 154, 3), (22, .aload_n 0, 1), (23, .getfield 556, 3), (26, .iaload, 1), (27, .istore_n 2, 1), (28, .aload_n 0, 1), (29, .aload_n 0, 1), (30, .getfield 683, 3), (33, .iconst 1, 1), (34, .isub, 1), (35, .putfield 683, 3), (38, .aload_n 0, 1), (39, .getfield 178, 3), (42, .aload_n 0, 1), (43, .getfield 683, 3), (46, .laload, 1), (47, .lstore_n 3, 1), (48, .aload_n 0, 1), (49, .getfield 178, 3), (52, .aload_n 0, 1), (53, .getfield 683, 3), (56, .iconst 1, 1), (57, .isub, 1), (58, .laload, 1), (59, .lstore 5, 2), (61, .iload_n 2, 1), (62, .bipush 27, 2), (64, .if_icmp .eq 9, 3), (67, .iload_n 2, 1), (68, .bipush 29, 2), (70, .if_icmp .ne 13, 3), (73, .lload_n 3, 1), (74, .lconst 0, 1), (75, .lcmp, 1), (76, .ifCond .ne 7, 3), (79, .iconst 1, 1), (80, .goto 4, 3), (83, .iconst 0, 1), (84, .istore 7, 2), (86, .iload 7, 2), (88, .ifCond .eq 16, 3), (91, .aload_n 0, 1), (92, .invokevirtual 704, 3), (95, .ifCond .eq 9, 3), (98, .aload_n 0, 1), (99, .bipush 6, 2), (101, .putfield 653, 3), (104, .aload_n 0, 1), (105, .getfield 178, 3), (108, .aload_n 0, 1), (109, .getfield 683, 3), (112, .iconst 1, 1), (113, .isub, 1), (114, .iload 7, 2), (116, .ifCond .eq 7, 3), (119, .lconst 0, 1), (120, .goto 11, 3), (123, .aload_n 0, 1), (124, .iload_n 2, 1), (125, .lload 5, 2), (127, .lload_n 3, 1), (128, .invokevirtual 346, 3), (131, .lastore, 1), (132, .goto (-132), 3), (135, .return_, 1)]
theorem dX12_meansReduced : x_il nX12_meansReduced 136 iX12_meansReduced = true := by decide +kernel
theorem aX12_meansReduced (k : Nat) {pc : Nat} {i : Jvm.ClassFile.Instr} {len : Nat} (hk : iX12_meansReduced[k]? = some (pc, i, len)) : x_at xMM 264 pc i len yX12_meansReduced 8 none := ⟨cX12_meansReduced, rfl, x_il_ok bX12_meansReduced dX12_meansReduced k hk⟩
set_option maxHeartbeats 4000000 in
set_option maxRecDepth 100000 in
theorem n_meansReduced {zk : xK} {base d n sl : Nat} {SH : Nat → Nat × Nat} {FI : Nat → Nat → Int32} {FL : Nat → Nat → Int64} {FR : Nat → Nat → Option Nat} (hS : h_S n SH) (hF : h_FR FR) (hI : g_I FI) (a1 : Int32) (g0 : 1 ≤ (a1).toInt ∧ (a1).toInt ≤ 7) (gg0 : au_ok (sk (FI 166) (FI 121 90).toInt.toNat)) (gg1 : ∀ y r, (sk (FI 166) (FI 121 90).toInt.toNat) = y :: r → y ≠ 9) (gg2 : (au_vc (sk (FI 166) (FI 121 90).toInt.toNat) : Int) + 1 ≤ (FI 121 101).toInt) (rel_wm : rl_wm (FI 121 90) (FI 165) (FI 166)) : hw zk base (d + 3) none 264 0 [(0, .ref (base + 121)), (1, .int (a1))] [] (n, sl, SH, FI, FL, FR) (h_V (fun s => ∃ FI' FL', s = (n, sl, SH, FI', FL', FR) ∧ g_I FI' ∧ g_fr n SH [(121, 90), (121, 93), (121, 101)] [] [] FI FI' ∧ g_fr n SH [] [173] [] FL FL' ∧ ((FI' 121 90).toInt ≤ (FI 121 90).toInt) ∧ ((FI' 121 101).toInt ≤ (FI 121 101).toInt) ∧ (sk (FI 166) (FI' 121 90).toInt.toNat = au_red (a1).toInt (sk (FI 166) (FI 121 90).toInt.toNat)) ∧ ((FI' 121 101).toInt - (au_vc (sk (FI 166) (FI' 121 90).toInt.toNat) : Int) = (FI 121 101).toInt - (au_vc (sk (FI 166) (FI 121 90).toInt.toNat) : Int)) ∧ (rl_wm (FI' 121 90) (FI' 165) (FI' 166)))) := by
  have rg_a1 := i_rng a1
  obtain ⟨x1, h2⟩ : ∃ y, FI 121 90 = y := ⟨_, rfl⟩
  have h2l := congrArg Int32.toInt h2
  have b3 := gI_121_90 hI; rw [h2] at b3
  obtain ⟨x4, h5⟩ : ∃ y, FI 121 101 = y := ⟨_, rfl⟩
  have h5l := congrArg Int32.toInt h5
  have b6 := gI_121_101 hI; rw [h5] at b6
  have lp18 : ∀ (m : Nat) (FIv7 : Nat → Nat → Int32) (FLv8 : Nat → Nat → Int64), (g_fr n SH [(121, 90), (121, 93), (121, 101)] [] [] FI FIv7) → (g_fr n SH [] [173] [] FL FLv8) → (g_I FIv7) → (rl_wm (FIv7 121 90) (FIv7 165) (FIv7 166)) → (0 ≤ (FIv7 121 90).toInt ∧ (FIv7 121 90).toInt ≤ 256) → (0 ≤ (FIv7 121 101).toInt ∧ (FIv7 121 101).toInt ≤ 512) → ((FIv7 121 90).toInt ≤ (FI 121 90).toInt) → ((FIv7 121 101).toInt ≤ (FI 121 101).toInt) → (au_red (a1).toInt (sk (FI 166) ((FIv7 121 90).toInt).toNat) = au_red (a1).toInt (sk (FI 166) (FI 121 90).toInt.toNat)) → ((FIv7 121 101).toInt - (au_vc (sk (FI 166) ((FIv7 121 90).toInt).toNat) : Int) = (FI 121 101).toInt - (au_vc (sk (FI 166) (FI 121 90).toInt.toNat) : Int)) → (au_ok (sk (FI 166) ((FIv7 121 90).toInt).toNat)) → (∀ y r, (sk (FI 166) ((FIv7 121 90).toInt).toNat) = y :: r → y ≠ 9) → (FIv7 166 = FI 166) → (FIv7 121 90).toInt < m → hw zk base (d + 3) none 264 0 [(0, .ref (base + 121)), (1, .int (a1))] [] (n, sl, SH, FIv7, FLv8, FR) (h_V (fun s => ∃ FI' FL', s = (n, sl, SH, FI', FL', FR) ∧ g_I FI' ∧ g_fr n SH [(121, 90), (121, 93), (121, 101)] [] [] FI FI' ∧ g_fr n SH [] [173] [] FL FL' ∧ ((FI' 121 90).toInt ≤ (FI 121 90).toInt) ∧ ((FI' 121 101).toInt ≤ (FI 121 101).toInt) ∧ (sk (FI 166) (FI' 121 90).toInt.toNat = au_red (a1).toInt (sk (FI 166) (FI 121 90).toInt.toNat)) ∧ ((FI' 121 101).toInt - (au_vc (sk (FI 166) (FI' 121 90).toInt.toNat) : Int) = (FI 121 101).toInt - (au_vc (sk (FI 166) (FI 121 90).toInt.toNat) : Int)) ∧ (rl_wm (FI' 121 90) (FI' 165) (FI' 166)))) := by
    intro m
    induction m with
    | zero => intro FIv7 FLv8 fr9 fr10 hI11 rl12 iv13 iv14 iv15 iv16 xi0_0 xi0_1 xi0_2 xi0_3 rw17 hm; omega
    | succ m ih =>
      intro FIv7 FLv8 fr9 fr10 hI11 rl12 iv13 iv14 iv15 iv16 xi0_0 xi0_1 xi0_2 xi0_3 rw17 hm
      obtain ⟨x19, h20⟩ : ∃ y, FIv7 121 90 = y := ⟨_, rfl⟩
      have h20l := congrArg Int32.toInt h20
      have b21 := gI_121_90 hI11; rw [h20] at b21
      obtain ⟨x22, h23⟩ : ∃ y, FIv7 121 101 = y := ⟨_, rfl⟩
      have h23l := congrArg Int32.toInt h23
      have b24 := gI_121_101 hI11; rw [h23] at b24
      refine hw_aloadn (aX12_meansReduced 0 rfl) rfl ?_
      refine hw_callV (Bs := []) (rest := []) (aX12_meansReduced 1 rfl) wc_RX12_559 (by decide) rfl wi_yX12_tops wv_yX12_tops (c121 hS) (s121 hS) rfl rfl rfl (Nat.le_of_ble_eq_true rfl) (Nat.le_of_ble_eq_true rfl) (n_tops (d := d + 2) hS hF hI11 ) (fun v25 sv26 p27 => ?_)
      have := congrArg Int32.toInt (show FIv7 121 90 = x19 from h20)
      obtain ⟨r28, rfl, rfl, t30, u31, u32⟩ := p27
      have rg_r28 := i_rng r28
      show hw zk base _ _ _ _ _ [.int (r28)] _ _
      refine xw_iloadn (aX12_meansReduced 2 rfl) rfl ?_
      refine hw_iclt (tgt := 135) (aX12_meansReduced 3 rfl) (by decide) rfl rfl (fun cd33 => ?_) (fun cd33 => ?_)
      · refine xw_vret (aX12_meansReduced 75 rfl) rfl ?_
        exact ⟨rfl, FIv7, FLv8, rfl, hI11, fr9, fr10, (by have := congrArg Int32.toInt (show FIv7 121 90 = x19 from h20); omega), (by have := congrArg Int32.toInt (show FIv7 121 101 = x22 from h23); omega), (by have hi := xi0_0; rw [show FIv7 121 90 = x19 from h20] at hi; rw [show FIv7 121 90 = x19 from h20]; rcases Int.lt_or_le 0 (x19).toInt with h0 | h0; { have hh := u31 (by omega); rw [show FIv7 166 = FI 166 from rw17, show FIv7 121 90 = x19 from h20] at hh; rw [hh, au_red_stop (by omega)] at hi; rw [← hi, ← hh] }; { rw [show (x19).toInt.toNat = 0 by omega] at hi ⊢; exact hi }), (by exact xi0_1), (show rl_wm (FIv7 121 90) (FIv7 165) (FIv7 166) from rl12)⟩
      · have := congrArg Int32.toInt (show FIv7 121 101 = x22 from h23)
        have hh := u31 (by omega); rw [show FIv7 166 = FI 166 from rw17] at hh
        have hx1 := xi0_1; have hx2 := xi0_2; have hx3 := xi0_3; rw [hh] at hx1 hx2 hx3
        have hp := au_pop1 (b := (a1).toInt) (by omega) (by omega) hx2 hx3
        have h2v : 2 ≤ (FIv7 121 101).toInt := by have := hp.2.2.2; have := gg2; omega
        refine hw_aloadn (aX12_meansReduced 4 rfl) rfl ?_
        refine hw_aloadn (aX12_meansReduced 5 rfl) rfl ?_
        refine hw_get (v := .int (x19)) (aX12_meansReduced 6 rfl) wf_RX12_556 (c121 hS) (s121 hS) (by decide) (congrArg Value.int (show FIv7 121 90 = x19 from h20)) ?_
        refine hw_ic (v := (1 : Int32)) (aX12_meansReduced 7 rfl) (by decide) ?_
        refine xw_isub (aX12_meansReduced 8 rfl) ?_
        refine hw_tie (A := ((x19).toInt) - (1)) (i_sub rfl (by decide : (1 : Int32).toInt = 1) (by omega) (by omega)) (fun x34 e35 => ?_)
        refine hv_puti (aX12_meansReduced 9 rfl) wf_RX12_556 (c121 hS) (s121 hS) (by decide) rfl rfl (fun FI36 u37 => ?_)
        have rl38 : rl_wm (FI36 121 90) (FI36 165) (FI36 166) := by have z0 := congrArg Int32.toInt (show FIv7 121 90 = x19 from h20); have z1 := congrArg Int32.toInt (show FI36 121 90 = x34 from up_eq u37); have := (e35 : (x34).toInt = ((x19).toInt) - (1)); rw [show FI36 165 = FIv7 165 from up_row u37 (by decide) rfl, show FI36 166 = FIv7 166 from up_row u37 (by decide) rfl]; exact rl_wm_mono rl12 (by omega)
        have hI39 : g_I FI36 := gU_121_90 hI11 u37 (by have := (e35 : (x34).toInt = ((x19).toInt) - (1)); omega) (by have := (e35 : (x34).toInt = ((x19).toInt) - (1)); omega)
        refine hw_aloadn (aX12_meansReduced 10 rfl) rfl ?_
        refine hw_get (v := .ref (base + 165)) (aX12_meansReduced 11 rfl) wf_RX12_154 (c121 hS) (s121 hS) (by decide) (congrArg (fun r => va_rf (h_rf base r)) (r121_86 hF)) ?_
        refine hw_aloadn (aX12_meansReduced 12 rfl) rfl ?_
        refine hw_get (v := .int (x34)) (aX12_meansReduced 13 rfl) wf_RX12_556 (c121 hS) (s121 hS) (by decide) (congrArg Value.int (show FI36 121 90 = x34 from up_eq u37)) ?_
        obtain ⟨x40, h41⟩ : ∃ y, FI36 165 (x34).toNatClampNeg = y := ⟨_, rfl⟩
        have h41l := congrArg Int32.toInt h41
        have := i_rng x40
        refine hw_iald (v := x40) (aX12_meansReduced 14 rfl) (c165 hS) (s165 hS) (h_in e35 (by omega) (by omega)) (show FI36 165 (x34).toNatClampNeg = x40 from h41) ?_
        refine xw_istoren (L2 := [(2, .int (x40)), (0, .ref (base + 121)), (1, .int (a1))]) (aX12_meansReduced 15 rfl) (by decide) rfl ?_
        refine hw_aloadn (aX12_meansReduced 16 rfl) rfl ?_
        refine hw_aloadn (aX12_meansReduced 17 rfl) rfl ?_
        refine hw_get (v := .int (x22)) (aX12_meansReduced 18 rfl) wf_RX12_683 (c121 hS) (s121 hS) (by decide) (congrArg Value.int (show FI36 121 101 = x22 from (up_k u37 (by decide) (h23)))) ?_
        refine hw_ic (v := (1 : Int32)) (aX12_meansReduced 19 rfl) (by decide) ?_
        refine xw_isub (aX12_meansReduced 20 rfl) ?_
        refine hw_tie (A := ((x22).toInt) - (1)) (i_sub rfl (by decide : (1 : Int32).toInt = 1) (by omega) (by omega)) (fun x42 e43 => ?_)
        refine hv_puti (aX12_meansReduced 21 rfl) wf_RX12_683 (c121 hS) (s121 hS) (by decide) rfl rfl (fun FI44 u45 => ?_)
        have rl46 : rl_wm (FI44 121 90) (FI44 165) (FI44 166) := by rw [show FI44 165 = FI36 165 from up_row u45 (by decide) rfl, show FI44 166 = FI36 166 from up_row u45 (by decide) rfl, show FI44 121 90 = FI36 121 90 from up_k u45 (by decide) rfl]; exact rl38
        have hI47 : g_I FI44 := gU_121_101 hI39 u45 (by have := (e43 : (x42).toInt = ((x22).toInt) - (1)); omega) (by have := (e43 : (x42).toInt = ((x22).toInt) - (1)); omega)
        refine hw_aloadn (aX12_meansReduced 22 rfl) rfl ?_
        refine hw_get (v := .ref (base + 173)) (aX12_meansReduced 23 rfl) wf_RX12_178 (c121 hS) (s121 hS) (by decide) (congrArg (fun r => va_rf (h_rf base r)) (r121_100 hF)) ?_
        refine hw_aloadn (aX12_meansReduced 24 rfl) rfl ?_
        refine hw_get (v := .int (x42)) (aX12_meansReduced 25 rfl) wf_RX12_683 (c121 hS) (s121 hS) (by decide) (congrArg Value.int (show FI44 121 101 = x42 from up_eq u45)) ?_
        obtain ⟨x48, h49⟩ : ∃ y, FLv8 173 (x42).toNatClampNeg = y := ⟨_, rfl⟩
        have h49l := congrArg Int64.toInt h49
        have := l_rng x48
        refine hw_lald (v := x48) (aX12_meansReduced 26 rfl) (c173 hS) (s173 hS) (h_in e43 (by omega) (by omega)) (show FLv8 173 (x42).toNatClampNeg = x48 from h49) ?_
        refine xw_lstoren (L2 := [(3, .long (x48)), (2, .int (x40)), (0, .ref (base + 121)), (1, .int (a1))]) (aX12_meansReduced 27 rfl) (by decide) rfl ?_
        refine hw_aloadn (aX12_meansReduced 28 rfl) rfl ?_
        refine hw_get (v := .ref (base + 173)) (aX12_meansReduced 29 rfl) wf_RX12_178 (c121 hS) (s121 hS) (by decide) (congrArg (fun r => va_rf (h_rf base r)) (r121_100 hF)) ?_
        refine hw_aloadn (aX12_meansReduced 30 rfl) rfl ?_
        refine hw_get (v := .int (x42)) (aX12_meansReduced 31 rfl) wf_RX12_683 (c121 hS) (s121 hS) (by decide) (congrArg Value.int (show FI44 121 101 = x42 from up_eq u45)) ?_
        refine hw_ic (v := (1 : Int32)) (aX12_meansReduced 32 rfl) (by decide) ?_
        refine xw_isub (aX12_meansReduced 33 rfl) ?_
        refine hw_tie (A := (((x22).toInt) - (1)) - (1)) (i_sub e43 (by decide : (1 : Int32).toInt = 1) (by omega) (by omega)) (fun x50 e51 => ?_)
        obtain ⟨x52, h53⟩ : ∃ y, FLv8 173 (x50).toNatClampNeg = y := ⟨_, rfl⟩
        have h53l := congrArg Int64.toInt h53
        have := l_rng x52
        refine hw_lald (v := x52) (aX12_meansReduced 34 rfl) (c173 hS) (s173 hS) (h_in e51 (by omega) (by omega)) (show FLv8 173 (x50).toNatClampNeg = x52 from h53) ?_
        refine xw_lstore (L2 := [(5, .long (x52)), (3, .long (x48)), (2, .int (x40)), (0, .ref (base + 121)), (1, .int (a1))]) (aX12_meansReduced 35 rfl) (by decide) rfl ?_
        refine xw_iloadn (aX12_meansReduced 36 rfl) rfl ?_
        refine hw_bp (v := (27 : Int32)) (aX12_meansReduced 37 rfl) (by decide) ?_
        refine hw_iceq (tgt := 73) (aX12_meansReduced 38 rfl) (by decide) rfl (by decide : (27 : Int32).toInt = 27) (fun cd54 => ?_) (fun cd54 => ?_)
        · refine xw_lloadn (aX12_meansReduced 42 rfl) rfl ?_
          refine hw_lc (v := (0 : Int64)) (aX12_meansReduced 43 rfl) (by decide) ?_
          refine hw_lcne (tgt := 83) (aX12_meansReduced 44 rfl) (aX12_meansReduced 45 rfl) (by decide) rfl (by decide : (0 : Int64).toInt = 0) (fun cd55 => ?_) (fun cd55 => ?_)
          · refine hw_ic (v := (0 : Int32)) (aX12_meansReduced 48 rfl) (by decide) ?_
            refine xw_istore (L2 := [(7, .int ((0 : Int32))), (5, .long (x52)), (3, .long (x48)), (2, .int (x40)), (0, .ref (base + 121)), (1, .int (a1))]) (aX12_meansReduced 49 rfl) (by decide) rfl ?_
            refine xw_iload (aX12_meansReduced 50 rfl) rfl ?_
            refine hw_ifeq (tgt := 104) (aX12_meansReduced 51 rfl) (by decide) (by decide : (0 : Int32).toInt = 0) (fun cd56 => ?_) (fun cd56 => ?_)
            · refine hw_aloadn (aX12_meansReduced 58 rfl) rfl ?_
              refine hw_get (v := .ref (base + 173)) (aX12_meansReduced 59 rfl) wf_RX12_178 (c121 hS) (s121 hS) (by decide) (congrArg (fun r => va_rf (h_rf base r)) (r121_100 hF)) ?_
              refine hw_aloadn (aX12_meansReduced 60 rfl) rfl ?_
              refine hw_get (v := .int (x42)) (aX12_meansReduced 61 rfl) wf_RX12_683 (c121 hS) (s121 hS) (by decide) (congrArg Value.int (show FI44 121 101 = x42 from up_eq u45)) ?_
              refine hw_ic (v := (1 : Int32)) (aX12_meansReduced 62 rfl) (by decide) ?_
              refine xw_isub (aX12_meansReduced 63 rfl) ?_
              refine hw_tie (A := (((x22).toInt) - (1)) - (1)) (i_sub e43 (by decide : (1 : Int32).toInt = 1) (by omega) (by omega)) (fun x57 e58 => ?_)
              refine xw_iload (aX12_meansReduced 64 rfl) rfl ?_
              refine hw_ifeq (tgt := 123) (aX12_meansReduced 65 rfl) (by decide) (by decide : (0 : Int32).toInt = 0) (fun cd59 => ?_) (fun cd59 => ?_)
              · refine hw_aloadn (aX12_meansReduced 68 rfl) rfl ?_
                refine xw_iloadn (aX12_meansReduced 69 rfl) rfl ?_
                refine xw_lload (aX12_meansReduced 70 rfl) rfl ?_
                refine xw_lloadn (aX12_meansReduced 71 rfl) rfl ?_
                refine hw_callV (Bs := [.int (x40), .long (x52), .long (x48)]) (rest := [.int (x57), .ref (base + 173)]) (aX12_meansReduced 72 rfl) wc_RX12_346 (by decide) rfl wi_yX12_worked wv_yX12_worked (c121 hS) (s121 hS) rfl rfl rfl (Nat.le_of_ble_eq_true rfl) (Nat.le_of_ble_eq_true rfl) (m_worked (d := d) hS hF (x40) (x52) (x48) (by omega)) (fun v60 sv61 p62 => ?_)
                obtain ⟨r63, rfl, FI64, FL65, rfl, rfl, rfl⟩ := p62
                have rg_r63 := l_rng r63
                show hw zk base _ _ _ _ _ [.long (r63), .int (x57), .ref (base + 173)] _ _
                refine hv_last (k := (x57).toNatClampNeg) (aX12_meansReduced 73 rfl) (c173 hS) (s173 hS) (h_in e58 (by omega) (by omega)) rfl (fun FL68 u69 => ?_)
                refine xw_goto (tgt := 0) (aX12_meansReduced 74 rfl) (by decide) ?_
                exact hw_L (ih FI44 FL68 (gf_f (gf_f fr9 u37 (by decide)) u45 (by decide)) (gf_a fr10 u69 (by decide)) hI47 (show rl_wm (FI44 121 90) (FI44 165) (FI44 166) from rl46) (by have := congrArg Int32.toInt (show FI44 121 90 = x34 from (up_k u45 (by decide) (up_eq u37))); have := (e35 : (x34).toInt = ((x19).toInt) - (1)); omega) (by have := congrArg Int32.toInt (show FI44 121 101 = x42 from up_eq u45); have := (e43 : (x42).toInt = ((x22).toInt) - (1)); omega) (by have := congrArg Int32.toInt (show FI44 121 90 = x34 from (up_k u45 (by decide) (up_eq u37))); have := (e35 : (x34).toInt = ((x19).toInt) - (1)); omega) (by have := congrArg Int32.toInt (show FI44 121 101 = x42 from up_eq u45); have := (e43 : (x42).toInt = ((x22).toInt) - (1)); omega) (show au_red (a1).toInt (sk (FI 166) ((FI44 121 90).toInt).toNat) = au_red (a1).toInt (sk (FI 166) (FI 121 90).toInt.toNat) from (by have := congrArg Int32.toInt (show FI44 121 90 = x34 from (up_k u45 (by decide) (up_eq u37))); have := (e35 : (x34).toInt = ((x19).toInt) - (1)); exact (by have hh := u31 (by omega); rw [show FIv7 166 = FI 166 from rw17, show FIv7 121 90 = x19 from h20] at hh; have hi := xi0_0; rw [show FIv7 121 90 = x19 from h20, hh, au_red_pop (by omega)] at hi; rw [show ((FI44 121 90).toInt : Int) = (x19).toInt - 1 by omega]; exact hi))) (show (FI44 121 101).toInt - (au_vc (sk (FI 166) ((FI44 121 90).toInt).toNat) : Int) = (FI 121 101).toInt - (au_vc (sk (FI 166) (FI 121 90).toInt.toNat) : Int) from (by have := congrArg Int32.toInt (show FI44 121 101 = x42 from up_eq u45); have := (e43 : (x42).toInt = ((x22).toInt) - (1)); have := congrArg Int32.toInt (show FI44 121 90 = x34 from (up_k u45 (by decide) (up_eq u37))); have := (e35 : (x34).toInt = ((x19).toInt) - (1)); exact (by rw [show ((FI44 121 90).toInt : Int).toNat = ((FIv7 121 90).toInt - 1).toNat by omega]; have := hp.2.2.2; have := congrArg Int32.toInt (show FI44 121 101 = x42 from up_eq u45); have := (e43 : (x42).toInt = ((x22).toInt) - (1)); omega))) (show au_ok (sk (FI 166) ((FI44 121 90).toInt).toNat) from (by have := congrArg Int32.toInt (show FI44 121 90 = x34 from (up_k u45 (by decide) (up_eq u37))); have := (e35 : (x34).toInt = ((x19).toInt) - (1)); exact (by rw [show ((FI44 121 90).toInt : Int).toNat = ((FIv7 121 90).toInt - 1).toNat by omega]; exact hp.2.1))) (show ∀ y r, (sk (FI 166) ((FI44 121 90).toInt).toNat) = y :: r → y ≠ 9 from (by have := congrArg Int32.toInt (show FI44 121 90 = x34 from (up_k u45 (by decide) (up_eq u37))); have := (e35 : (x34).toInt = ((x19).toInt) - (1)); exact (by rw [show ((FI44 121 90).toInt : Int).toNat = ((FIv7 121 90).toInt - 1).toNat by omega]; exact hp.2.2.1))) (show FI44 166 = FI 166 from (up_row u45 (by decide) ((up_row u37 (by decide) (rw17))))) (by have := congrArg Int32.toInt (show FI44 121 90 = x34 from (up_k u45 (by decide) (up_eq u37))); have := (e35 : (x34).toInt = ((x19).toInt) - (1)); omega)) ⟨rfl, rfl, trivial⟩
              · omega
            · omega
          · refine hw_ic (v := (1 : Int32)) (aX12_meansReduced 46 rfl) (by decide) ?_
            refine xw_goto (tgt := 84) (aX12_meansReduced 47 rfl) (by decide) ?_
            refine xw_istore (L2 := [(7, .int ((1 : Int32))), (5, .long (x52)), (3, .long (x48)), (2, .int (x40)), (0, .ref (base + 121)), (1, .int (a1))]) (aX12_meansReduced 49 rfl) (by decide) rfl ?_
            refine xw_iload (aX12_meansReduced 50 rfl) rfl ?_
            refine hw_ifeq (tgt := 104) (aX12_meansReduced 51 rfl) (by decide) (by decide : (1 : Int32).toInt = 1) (fun cd70 => ?_) (fun cd70 => ?_)
            · omega
            · refine hw_aloadn (aX12_meansReduced 52 rfl) rfl ?_
              refine hw_callV (Bs := []) (rest := []) (aX12_meansReduced 53 rfl) wc_RX12_704 (by decide) rfl wi_yX12_does wv_yX12_does (c121 hS) (s121 hS) rfl rfl rfl (Nat.le_of_ble_eq_true rfl) (Nat.le_of_ble_eq_true rfl) (n_does (d := d + 2) hS hF hI47 ) (fun v71 sv72 p73 => ?_)
              obtain ⟨r74, rfl, rfl, t76⟩ := p73
              show hw zk base _ _ _ _ _ [.int (r74)] _ _
              refine hw_ifeq (tgt := 104) (aX12_meansReduced 54 rfl) (by decide) rfl (fun cd77 => ?_) (fun cd77 => ?_)
              · refine hw_aloadn (aX12_meansReduced 58 rfl) rfl ?_
                refine hw_get (v := .ref (base + 173)) (aX12_meansReduced 59 rfl) wf_RX12_178 (c121 hS) (s121 hS) (by decide) (congrArg (fun r => va_rf (h_rf base r)) (r121_100 hF)) ?_
                refine hw_aloadn (aX12_meansReduced 60 rfl) rfl ?_
                refine hw_get (v := .int (x42)) (aX12_meansReduced 61 rfl) wf_RX12_683 (c121 hS) (s121 hS) (by decide) (congrArg Value.int (show FI44 121 101 = x42 from up_eq u45)) ?_
                refine hw_ic (v := (1 : Int32)) (aX12_meansReduced 62 rfl) (by decide) ?_
                refine xw_isub (aX12_meansReduced 63 rfl) ?_
                refine hw_tie (A := (((x22).toInt) - (1)) - (1)) (i_sub e43 (by decide : (1 : Int32).toInt = 1) (by omega) (by omega)) (fun x78 e79 => ?_)
                refine xw_iload (aX12_meansReduced 64 rfl) rfl ?_
                refine hw_ifeq (tgt := 123) (aX12_meansReduced 65 rfl) (by decide) (by decide : (1 : Int32).toInt = 1) (fun cd80 => ?_) (fun cd80 => ?_)
                · omega
                · refine hw_lc (v := (0 : Int64)) (aX12_meansReduced 66 rfl) (by decide) ?_
                  refine xw_goto (tgt := 131) (aX12_meansReduced 67 rfl) (by decide) ?_
                  refine hv_last (k := (x78).toNatClampNeg) (aX12_meansReduced 73 rfl) (c173 hS) (s173 hS) (h_in e79 (by omega) (by omega)) rfl (fun FL81 u82 => ?_)
                  refine xw_goto (tgt := 0) (aX12_meansReduced 74 rfl) (by decide) ?_
                  exact hw_L (ih FI44 FL81 (gf_f (gf_f fr9 u37 (by decide)) u45 (by decide)) (gf_a fr10 u82 (by decide)) hI47 (show rl_wm (FI44 121 90) (FI44 165) (FI44 166) from rl46) (by have := congrArg Int32.toInt (show FI44 121 90 = x34 from (up_k u45 (by decide) (up_eq u37))); have := (e35 : (x34).toInt = ((x19).toInt) - (1)); omega) (by have := congrArg Int32.toInt (show FI44 121 101 = x42 from up_eq u45); have := (e43 : (x42).toInt = ((x22).toInt) - (1)); omega) (by have := congrArg Int32.toInt (show FI44 121 90 = x34 from (up_k u45 (by decide) (up_eq u37))); have := (e35 : (x34).toInt = ((x19).toInt) - (1)); omega) (by have := congrArg Int32.toInt (show FI44 121 101 = x42 from up_eq u45); have := (e43 : (x42).toInt = ((x22).toInt) - (1)); omega) (show au_red (a1).toInt (sk (FI 166) ((FI44 121 90).toInt).toNat) = au_red (a1).toInt (sk (FI 166) (FI 121 90).toInt.toNat) from (by have := congrArg Int32.toInt (show FI44 121 90 = x34 from (up_k u45 (by decide) (up_eq u37))); have := (e35 : (x34).toInt = ((x19).toInt) - (1)); exact (by have hh := u31 (by omega); rw [show FIv7 166 = FI 166 from rw17, show FIv7 121 90 = x19 from h20] at hh; have hi := xi0_0; rw [show FIv7 121 90 = x19 from h20, hh, au_red_pop (by omega)] at hi; rw [show ((FI44 121 90).toInt : Int) = (x19).toInt - 1 by omega]; exact hi))) (show (FI44 121 101).toInt - (au_vc (sk (FI 166) ((FI44 121 90).toInt).toNat) : Int) = (FI 121 101).toInt - (au_vc (sk (FI 166) (FI 121 90).toInt.toNat) : Int) from (by have := congrArg Int32.toInt (show FI44 121 101 = x42 from up_eq u45); have := (e43 : (x42).toInt = ((x22).toInt) - (1)); have := congrArg Int32.toInt (show FI44 121 90 = x34 from (up_k u45 (by decide) (up_eq u37))); have := (e35 : (x34).toInt = ((x19).toInt) - (1)); exact (by rw [show ((FI44 121 90).toInt : Int).toNat = ((FIv7 121 90).toInt - 1).toNat by omega]; have := hp.2.2.2; have := congrArg Int32.toInt (show FI44 121 101 = x42 from up_eq u45); have := (e43 : (x42).toInt = ((x22).toInt) - (1)); omega))) (show au_ok (sk (FI 166) ((FI44 121 90).toInt).toNat) from (by have := congrArg Int32.toInt (show FI44 121 90 = x34 from (up_k u45 (by decide) (up_eq u37))); have := (e35 : (x34).toInt = ((x19).toInt) - (1)); exact (by rw [show ((FI44 121 90).toInt : Int).toNat = ((FIv7 121 90).toInt - 1).toNat by omega]; exact hp.2.1))) (show ∀ y r, (sk (FI 166) ((FI44 121 90).toInt).toNat) = y :: r → y ≠ 9 from (by have := congrArg Int32.toInt (show FI44 121 90 = x34 from (up_k u45 (by decide) (up_eq u37))); have := (e35 : (x34).toInt = ((x19).toInt) - (1)); exact (by rw [show ((FI44 121 90).toInt : Int).toNat = ((FIv7 121 90).toInt - 1).toNat by omega]; exact hp.2.2.1))) (show FI44 166 = FI 166 from (up_row u45 (by decide) ((up_row u37 (by decide) (rw17))))) (by have := congrArg Int32.toInt (show FI44 121 90 = x34 from (up_k u45 (by decide) (up_eq u37))); have := (e35 : (x34).toInt = ((x19).toInt) - (1)); omega)) ⟨rfl, rfl, trivial⟩
              · refine hw_aloadn (aX12_meansReduced 55 rfl) rfl ?_
                refine hw_bp (v := (6 : Int32)) (aX12_meansReduced 56 rfl) (by decide) ?_
                refine hv_puti (aX12_meansReduced 57 rfl) wf_RX12_653 (c121 hS) (s121 hS) (by decide) rfl rfl (fun FI83 u84 => ?_)
                have rl85 : rl_wm (FI83 121 90) (FI83 165) (FI83 166) := by rw [show FI83 165 = FI44 165 from up_row u84 (by decide) rfl, show FI83 166 = FI44 166 from up_row u84 (by decide) rfl, show FI83 121 90 = FI44 121 90 from up_k u84 (by decide) rfl]; exact rl46
                have hI86 : g_I FI83 := gU_F hI47 u84 rfl
                refine hw_aloadn (aX12_meansReduced 58 rfl) rfl ?_
                refine hw_get (v := .ref (base + 173)) (aX12_meansReduced 59 rfl) wf_RX12_178 (c121 hS) (s121 hS) (by decide) (congrArg (fun r => va_rf (h_rf base r)) (r121_100 hF)) ?_
                refine hw_aloadn (aX12_meansReduced 60 rfl) rfl ?_
                refine hw_get (v := .int (x42)) (aX12_meansReduced 61 rfl) wf_RX12_683 (c121 hS) (s121 hS) (by decide) (congrArg Value.int (show FI83 121 101 = x42 from (up_k u84 (by decide) (up_eq u45)))) ?_
                refine hw_ic (v := (1 : Int32)) (aX12_meansReduced 62 rfl) (by decide) ?_
                refine xw_isub (aX12_meansReduced 63 rfl) ?_
                refine hw_tie (A := (((x22).toInt) - (1)) - (1)) (i_sub e43 (by decide : (1 : Int32).toInt = 1) (by omega) (by omega)) (fun x87 e88 => ?_)
                refine xw_iload (aX12_meansReduced 64 rfl) rfl ?_
                refine hw_ifeq (tgt := 123) (aX12_meansReduced 65 rfl) (by decide) (by decide : (1 : Int32).toInt = 1) (fun cd89 => ?_) (fun cd89 => ?_)
                · omega
                · refine hw_lc (v := (0 : Int64)) (aX12_meansReduced 66 rfl) (by decide) ?_
                  refine xw_goto (tgt := 131) (aX12_meansReduced 67 rfl) (by decide) ?_
                  refine hv_last (k := (x87).toNatClampNeg) (aX12_meansReduced 73 rfl) (c173 hS) (s173 hS) (h_in e88 (by omega) (by omega)) rfl (fun FL90 u91 => ?_)
                  refine xw_goto (tgt := 0) (aX12_meansReduced 74 rfl) (by decide) ?_
                  exact hw_L (ih FI83 FL90 (gf_f (gf_f (gf_f fr9 u37 (by decide)) u45 (by decide)) u84 (by decide)) (gf_a fr10 u91 (by decide)) hI86 (show rl_wm (FI83 121 90) (FI83 165) (FI83 166) from rl85) (by have := congrArg Int32.toInt (show FI83 121 90 = x34 from (up_k u84 (by decide) ((up_k u45 (by decide) (up_eq u37))))); have := (e35 : (x34).toInt = ((x19).toInt) - (1)); omega) (by have := congrArg Int32.toInt (show FI83 121 101 = x42 from (up_k u84 (by decide) (up_eq u45))); have := (e43 : (x42).toInt = ((x22).toInt) - (1)); omega) (by have := congrArg Int32.toInt (show FI83 121 90 = x34 from (up_k u84 (by decide) ((up_k u45 (by decide) (up_eq u37))))); have := (e35 : (x34).toInt = ((x19).toInt) - (1)); omega) (by have := congrArg Int32.toInt (show FI83 121 101 = x42 from (up_k u84 (by decide) (up_eq u45))); have := (e43 : (x42).toInt = ((x22).toInt) - (1)); omega) (show au_red (a1).toInt (sk (FI 166) ((FI83 121 90).toInt).toNat) = au_red (a1).toInt (sk (FI 166) (FI 121 90).toInt.toNat) from (by have := congrArg Int32.toInt (show FI83 121 90 = x34 from (up_k u84 (by decide) ((up_k u45 (by decide) (up_eq u37))))); have := (e35 : (x34).toInt = ((x19).toInt) - (1)); exact (by have hh := u31 (by omega); rw [show FIv7 166 = FI 166 from rw17, show FIv7 121 90 = x19 from h20] at hh; have hi := xi0_0; rw [show FIv7 121 90 = x19 from h20, hh, au_red_pop (by omega)] at hi; rw [show ((FI83 121 90).toInt : Int) = (x19).toInt - 1 by omega]; exact hi))) (show (FI83 121 101).toInt - (au_vc (sk (FI 166) ((FI83 121 90).toInt).toNat) : Int) = (FI 121 101).toInt - (au_vc (sk (FI 166) (FI 121 90).toInt.toNat) : Int) from (by have := congrArg Int32.toInt (show FI83 121 101 = x42 from (up_k u84 (by decide) (up_eq u45))); have := (e43 : (x42).toInt = ((x22).toInt) - (1)); have := congrArg Int32.toInt (show FI83 121 90 = x34 from (up_k u84 (by decide) ((up_k u45 (by decide) (up_eq u37))))); have := (e35 : (x34).toInt = ((x19).toInt) - (1)); exact (by rw [show ((FI83 121 90).toInt : Int).toNat = ((FIv7 121 90).toInt - 1).toNat by omega]; have := hp.2.2.2; have := congrArg Int32.toInt (show FI83 121 101 = x42 from (up_k u84 (by decide) (up_eq u45))); have := (e43 : (x42).toInt = ((x22).toInt) - (1)); omega))) (show au_ok (sk (FI 166) ((FI83 121 90).toInt).toNat) from (by have := congrArg Int32.toInt (show FI83 121 90 = x34 from (up_k u84 (by decide) ((up_k u45 (by decide) (up_eq u37))))); have := (e35 : (x34).toInt = ((x19).toInt) - (1)); exact (by rw [show ((FI83 121 90).toInt : Int).toNat = ((FIv7 121 90).toInt - 1).toNat by omega]; exact hp.2.1))) (show ∀ y r, (sk (FI 166) ((FI83 121 90).toInt).toNat) = y :: r → y ≠ 9 from (by have := congrArg Int32.toInt (show FI83 121 90 = x34 from (up_k u84 (by decide) ((up_k u45 (by decide) (up_eq u37))))); have := (e35 : (x34).toInt = ((x19).toInt) - (1)); exact (by rw [show ((FI83 121 90).toInt : Int).toNat = ((FIv7 121 90).toInt - 1).toNat by omega]; exact hp.2.2.1))) (show FI83 166 = FI 166 from (up_row u84 (by decide) ((up_row u45 (by decide) ((up_row u37 (by decide) (rw17))))))) (by have := congrArg Int32.toInt (show FI83 121 90 = x34 from (up_k u84 (by decide) ((up_k u45 (by decide) (up_eq u37))))); have := (e35 : (x34).toInt = ((x19).toInt) - (1)); omega)) ⟨rfl, rfl, trivial⟩
        · refine xw_iloadn (aX12_meansReduced 39 rfl) rfl ?_
          refine hw_bp (v := (29 : Int32)) (aX12_meansReduced 40 rfl) (by decide) ?_
          refine hw_icne (tgt := 83) (aX12_meansReduced 41 rfl) (by decide) rfl (by decide : (29 : Int32).toInt = 29) (fun cd92 => ?_) (fun cd92 => ?_)
          · refine hw_ic (v := (0 : Int32)) (aX12_meansReduced 48 rfl) (by decide) ?_
            refine xw_istore (L2 := [(7, .int ((0 : Int32))), (5, .long (x52)), (3, .long (x48)), (2, .int (x40)), (0, .ref (base + 121)), (1, .int (a1))]) (aX12_meansReduced 49 rfl) (by decide) rfl ?_
            refine xw_iload (aX12_meansReduced 50 rfl) rfl ?_
            refine hw_ifeq (tgt := 104) (aX12_meansReduced 51 rfl) (by decide) (by decide : (0 : Int32).toInt = 0) (fun cd93 => ?_) (fun cd93 => ?_)
            · refine hw_aloadn (aX12_meansReduced 58 rfl) rfl ?_
              refine hw_get (v := .ref (base + 173)) (aX12_meansReduced 59 rfl) wf_RX12_178 (c121 hS) (s121 hS) (by decide) (congrArg (fun r => va_rf (h_rf base r)) (r121_100 hF)) ?_
              refine hw_aloadn (aX12_meansReduced 60 rfl) rfl ?_
              refine hw_get (v := .int (x42)) (aX12_meansReduced 61 rfl) wf_RX12_683 (c121 hS) (s121 hS) (by decide) (congrArg Value.int (show FI44 121 101 = x42 from up_eq u45)) ?_
              refine hw_ic (v := (1 : Int32)) (aX12_meansReduced 62 rfl) (by decide) ?_
              refine xw_isub (aX12_meansReduced 63 rfl) ?_
              refine hw_tie (A := (((x22).toInt) - (1)) - (1)) (i_sub e43 (by decide : (1 : Int32).toInt = 1) (by omega) (by omega)) (fun x94 e95 => ?_)
              refine xw_iload (aX12_meansReduced 64 rfl) rfl ?_
              refine hw_ifeq (tgt := 123) (aX12_meansReduced 65 rfl) (by decide) (by decide : (0 : Int32).toInt = 0) (fun cd96 => ?_) (fun cd96 => ?_)
              · refine hw_aloadn (aX12_meansReduced 68 rfl) rfl ?_
                refine xw_iloadn (aX12_meansReduced 69 rfl) rfl ?_
                refine xw_lload (aX12_meansReduced 70 rfl) rfl ?_
                refine xw_lloadn (aX12_meansReduced 71 rfl) rfl ?_
                refine hw_callV (Bs := [.int (x40), .long (x52), .long (x48)]) (rest := [.int (x94), .ref (base + 173)]) (aX12_meansReduced 72 rfl) wc_RX12_346 (by decide) rfl wi_yX12_worked wv_yX12_worked (c121 hS) (s121 hS) rfl rfl rfl (Nat.le_of_ble_eq_true rfl) (Nat.le_of_ble_eq_true rfl) (m_worked (d := d) hS hF (x40) (x52) (x48) (by omega)) (fun v97 sv98 p99 => ?_)
                obtain ⟨r100, rfl, FI101, FL102, rfl, rfl, rfl⟩ := p99
                have rg_r100 := l_rng r100
                show hw zk base _ _ _ _ _ [.long (r100), .int (x94), .ref (base + 173)] _ _
                refine hv_last (k := (x94).toNatClampNeg) (aX12_meansReduced 73 rfl) (c173 hS) (s173 hS) (h_in e95 (by omega) (by omega)) rfl (fun FL105 u106 => ?_)
                refine xw_goto (tgt := 0) (aX12_meansReduced 74 rfl) (by decide) ?_
                exact hw_L (ih FI44 FL105 (gf_f (gf_f fr9 u37 (by decide)) u45 (by decide)) (gf_a fr10 u106 (by decide)) hI47 (show rl_wm (FI44 121 90) (FI44 165) (FI44 166) from rl46) (by have := congrArg Int32.toInt (show FI44 121 90 = x34 from (up_k u45 (by decide) (up_eq u37))); have := (e35 : (x34).toInt = ((x19).toInt) - (1)); omega) (by have := congrArg Int32.toInt (show FI44 121 101 = x42 from up_eq u45); have := (e43 : (x42).toInt = ((x22).toInt) - (1)); omega) (by have := congrArg Int32.toInt (show FI44 121 90 = x34 from (up_k u45 (by decide) (up_eq u37))); have := (e35 : (x34).toInt = ((x19).toInt) - (1)); omega) (by have := congrArg Int32.toInt (show FI44 121 101 = x42 from up_eq u45); have := (e43 : (x42).toInt = ((x22).toInt) - (1)); omega) (show au_red (a1).toInt (sk (FI 166) ((FI44 121 90).toInt).toNat) = au_red (a1).toInt (sk (FI 166) (FI 121 90).toInt.toNat) from (by have := congrArg Int32.toInt (show FI44 121 90 = x34 from (up_k u45 (by decide) (up_eq u37))); have := (e35 : (x34).toInt = ((x19).toInt) - (1)); exact (by have hh := u31 (by omega); rw [show FIv7 166 = FI 166 from rw17, show FIv7 121 90 = x19 from h20] at hh; have hi := xi0_0; rw [show FIv7 121 90 = x19 from h20, hh, au_red_pop (by omega)] at hi; rw [show ((FI44 121 90).toInt : Int) = (x19).toInt - 1 by omega]; exact hi))) (show (FI44 121 101).toInt - (au_vc (sk (FI 166) ((FI44 121 90).toInt).toNat) : Int) = (FI 121 101).toInt - (au_vc (sk (FI 166) (FI 121 90).toInt.toNat) : Int) from (by have := congrArg Int32.toInt (show FI44 121 101 = x42 from up_eq u45); have := (e43 : (x42).toInt = ((x22).toInt) - (1)); have := congrArg Int32.toInt (show FI44 121 90 = x34 from (up_k u45 (by decide) (up_eq u37))); have := (e35 : (x34).toInt = ((x19).toInt) - (1)); exact (by rw [show ((FI44 121 90).toInt : Int).toNat = ((FIv7 121 90).toInt - 1).toNat by omega]; have := hp.2.2.2; have := congrArg Int32.toInt (show FI44 121 101 = x42 from up_eq u45); have := (e43 : (x42).toInt = ((x22).toInt) - (1)); omega))) (show au_ok (sk (FI 166) ((FI44 121 90).toInt).toNat) from (by have := congrArg Int32.toInt (show FI44 121 90 = x34 from (up_k u45 (by decide) (up_eq u37))); have := (e35 : (x34).toInt = ((x19).toInt) - (1)); exact (by rw [show ((FI44 121 90).toInt : Int).toNat = ((FIv7 121 90).toInt - 1).toNat by omega]; exact hp.2.1))) (show ∀ y r, (sk (FI 166) ((FI44 121 90).toInt).toNat) = y :: r → y ≠ 9 from (by have := congrArg Int32.toInt (show FI44 121 90 = x34 from (up_k u45 (by decide) (up_eq u37))); have := (e35 : (x34).toInt = ((x19).toInt) - (1)); exact (by rw [show ((FI44 121 90).toInt : Int).toNat = ((FIv7 121 90).toInt - 1).toNat by omega]; exact hp.2.2.1))) (show FI44 166 = FI 166 from (up_row u45 (by decide) ((up_row u37 (by decide) (rw17))))) (by have := congrArg Int32.toInt (show FI44 121 90 = x34 from (up_k u45 (by decide) (up_eq u37))); have := (e35 : (x34).toInt = ((x19).toInt) - (1)); omega)) ⟨rfl, rfl, trivial⟩
              · omega
            · omega
          · refine xw_lloadn (aX12_meansReduced 42 rfl) rfl ?_
            refine hw_lc (v := (0 : Int64)) (aX12_meansReduced 43 rfl) (by decide) ?_
            refine hw_lcne (tgt := 83) (aX12_meansReduced 44 rfl) (aX12_meansReduced 45 rfl) (by decide) rfl (by decide : (0 : Int64).toInt = 0) (fun cd107 => ?_) (fun cd107 => ?_)
            · refine hw_ic (v := (0 : Int32)) (aX12_meansReduced 48 rfl) (by decide) ?_
              refine xw_istore (L2 := [(7, .int ((0 : Int32))), (5, .long (x52)), (3, .long (x48)), (2, .int (x40)), (0, .ref (base + 121)), (1, .int (a1))]) (aX12_meansReduced 49 rfl) (by decide) rfl ?_
              refine xw_iload (aX12_meansReduced 50 rfl) rfl ?_
              refine hw_ifeq (tgt := 104) (aX12_meansReduced 51 rfl) (by decide) (by decide : (0 : Int32).toInt = 0) (fun cd108 => ?_) (fun cd108 => ?_)
              · refine hw_aloadn (aX12_meansReduced 58 rfl) rfl ?_
                refine hw_get (v := .ref (base + 173)) (aX12_meansReduced 59 rfl) wf_RX12_178 (c121 hS) (s121 hS) (by decide) (congrArg (fun r => va_rf (h_rf base r)) (r121_100 hF)) ?_
                refine hw_aloadn (aX12_meansReduced 60 rfl) rfl ?_
                refine hw_get (v := .int (x42)) (aX12_meansReduced 61 rfl) wf_RX12_683 (c121 hS) (s121 hS) (by decide) (congrArg Value.int (show FI44 121 101 = x42 from up_eq u45)) ?_
                refine hw_ic (v := (1 : Int32)) (aX12_meansReduced 62 rfl) (by decide) ?_
                refine xw_isub (aX12_meansReduced 63 rfl) ?_
                refine hw_tie (A := (((x22).toInt) - (1)) - (1)) (i_sub e43 (by decide : (1 : Int32).toInt = 1) (by omega) (by omega)) (fun x109 e110 => ?_)
                refine xw_iload (aX12_meansReduced 64 rfl) rfl ?_
                refine hw_ifeq (tgt := 123) (aX12_meansReduced 65 rfl) (by decide) (by decide : (0 : Int32).toInt = 0) (fun cd111 => ?_) (fun cd111 => ?_)
                · refine hw_aloadn (aX12_meansReduced 68 rfl) rfl ?_
                  refine xw_iloadn (aX12_meansReduced 69 rfl) rfl ?_
                  refine xw_lload (aX12_meansReduced 70 rfl) rfl ?_
                  refine xw_lloadn (aX12_meansReduced 71 rfl) rfl ?_
                  refine hw_callV (Bs := [.int (x40), .long (x52), .long (x48)]) (rest := [.int (x109), .ref (base + 173)]) (aX12_meansReduced 72 rfl) wc_RX12_346 (by decide) rfl wi_yX12_worked wv_yX12_worked (c121 hS) (s121 hS) rfl rfl rfl (Nat.le_of_ble_eq_true rfl) (Nat.le_of_ble_eq_true rfl) (m_worked (d := d) hS hF (x40) (x52) (x48) (by omega)) (fun v112 sv113 p114 => ?_)
                  obtain ⟨r115, rfl, FI116, FL117, rfl, rfl, rfl⟩ := p114
                  have rg_r115 := l_rng r115
                  show hw zk base _ _ _ _ _ [.long (r115), .int (x109), .ref (base + 173)] _ _
                  refine hv_last (k := (x109).toNatClampNeg) (aX12_meansReduced 73 rfl) (c173 hS) (s173 hS) (h_in e110 (by omega) (by omega)) rfl (fun FL120 u121 => ?_)
                  refine xw_goto (tgt := 0) (aX12_meansReduced 74 rfl) (by decide) ?_
                  exact hw_L (ih FI44 FL120 (gf_f (gf_f fr9 u37 (by decide)) u45 (by decide)) (gf_a fr10 u121 (by decide)) hI47 (show rl_wm (FI44 121 90) (FI44 165) (FI44 166) from rl46) (by have := congrArg Int32.toInt (show FI44 121 90 = x34 from (up_k u45 (by decide) (up_eq u37))); have := (e35 : (x34).toInt = ((x19).toInt) - (1)); omega) (by have := congrArg Int32.toInt (show FI44 121 101 = x42 from up_eq u45); have := (e43 : (x42).toInt = ((x22).toInt) - (1)); omega) (by have := congrArg Int32.toInt (show FI44 121 90 = x34 from (up_k u45 (by decide) (up_eq u37))); have := (e35 : (x34).toInt = ((x19).toInt) - (1)); omega) (by have := congrArg Int32.toInt (show FI44 121 101 = x42 from up_eq u45); have := (e43 : (x42).toInt = ((x22).toInt) - (1)); omega) (show au_red (a1).toInt (sk (FI 166) ((FI44 121 90).toInt).toNat) = au_red (a1).toInt (sk (FI 166) (FI 121 90).toInt.toNat) from (by have := congrArg Int32.toInt (show FI44 121 90 = x34 from (up_k u45 (by decide) (up_eq u37))); have := (e35 : (x34).toInt = ((x19).toInt) - (1)); exact (by have hh := u31 (by omega); rw [show FIv7 166 = FI 166 from rw17, show FIv7 121 90 = x19 from h20] at hh; have hi := xi0_0; rw [show FIv7 121 90 = x19 from h20, hh, au_red_pop (by omega)] at hi; rw [show ((FI44 121 90).toInt : Int) = (x19).toInt - 1 by omega]; exact hi))) (show (FI44 121 101).toInt - (au_vc (sk (FI 166) ((FI44 121 90).toInt).toNat) : Int) = (FI 121 101).toInt - (au_vc (sk (FI 166) (FI 121 90).toInt.toNat) : Int) from (by have := congrArg Int32.toInt (show FI44 121 101 = x42 from up_eq u45); have := (e43 : (x42).toInt = ((x22).toInt) - (1)); have := congrArg Int32.toInt (show FI44 121 90 = x34 from (up_k u45 (by decide) (up_eq u37))); have := (e35 : (x34).toInt = ((x19).toInt) - (1)); exact (by rw [show ((FI44 121 90).toInt : Int).toNat = ((FIv7 121 90).toInt - 1).toNat by omega]; have := hp.2.2.2; have := congrArg Int32.toInt (show FI44 121 101 = x42 from up_eq u45); have := (e43 : (x42).toInt = ((x22).toInt) - (1)); omega))) (show au_ok (sk (FI 166) ((FI44 121 90).toInt).toNat) from (by have := congrArg Int32.toInt (show FI44 121 90 = x34 from (up_k u45 (by decide) (up_eq u37))); have := (e35 : (x34).toInt = ((x19).toInt) - (1)); exact (by rw [show ((FI44 121 90).toInt : Int).toNat = ((FIv7 121 90).toInt - 1).toNat by omega]; exact hp.2.1))) (show ∀ y r, (sk (FI 166) ((FI44 121 90).toInt).toNat) = y :: r → y ≠ 9 from (by have := congrArg Int32.toInt (show FI44 121 90 = x34 from (up_k u45 (by decide) (up_eq u37))); have := (e35 : (x34).toInt = ((x19).toInt) - (1)); exact (by rw [show ((FI44 121 90).toInt : Int).toNat = ((FIv7 121 90).toInt - 1).toNat by omega]; exact hp.2.2.1))) (show FI44 166 = FI 166 from (up_row u45 (by decide) ((up_row u37 (by decide) (rw17))))) (by have := congrArg Int32.toInt (show FI44 121 90 = x34 from (up_k u45 (by decide) (up_eq u37))); have := (e35 : (x34).toInt = ((x19).toInt) - (1)); omega)) ⟨rfl, rfl, trivial⟩
                · omega
              · omega
            · refine hw_ic (v := (1 : Int32)) (aX12_meansReduced 46 rfl) (by decide) ?_
              refine xw_goto (tgt := 84) (aX12_meansReduced 47 rfl) (by decide) ?_
              refine xw_istore (L2 := [(7, .int ((1 : Int32))), (5, .long (x52)), (3, .long (x48)), (2, .int (x40)), (0, .ref (base + 121)), (1, .int (a1))]) (aX12_meansReduced 49 rfl) (by decide) rfl ?_
              refine xw_iload (aX12_meansReduced 50 rfl) rfl ?_
              refine hw_ifeq (tgt := 104) (aX12_meansReduced 51 rfl) (by decide) (by decide : (1 : Int32).toInt = 1) (fun cd122 => ?_) (fun cd122 => ?_)
              · omega
              · refine hw_aloadn (aX12_meansReduced 52 rfl) rfl ?_
                refine hw_callV (Bs := []) (rest := []) (aX12_meansReduced 53 rfl) wc_RX12_704 (by decide) rfl wi_yX12_does wv_yX12_does (c121 hS) (s121 hS) rfl rfl rfl (Nat.le_of_ble_eq_true rfl) (Nat.le_of_ble_eq_true rfl) (n_does (d := d + 2) hS hF hI47 ) (fun v123 sv124 p125 => ?_)
                obtain ⟨r126, rfl, rfl, t128⟩ := p125
                show hw zk base _ _ _ _ _ [.int (r126)] _ _
                refine hw_ifeq (tgt := 104) (aX12_meansReduced 54 rfl) (by decide) rfl (fun cd129 => ?_) (fun cd129 => ?_)
                · refine hw_aloadn (aX12_meansReduced 58 rfl) rfl ?_
                  refine hw_get (v := .ref (base + 173)) (aX12_meansReduced 59 rfl) wf_RX12_178 (c121 hS) (s121 hS) (by decide) (congrArg (fun r => va_rf (h_rf base r)) (r121_100 hF)) ?_
                  refine hw_aloadn (aX12_meansReduced 60 rfl) rfl ?_
                  refine hw_get (v := .int (x42)) (aX12_meansReduced 61 rfl) wf_RX12_683 (c121 hS) (s121 hS) (by decide) (congrArg Value.int (show FI44 121 101 = x42 from up_eq u45)) ?_
                  refine hw_ic (v := (1 : Int32)) (aX12_meansReduced 62 rfl) (by decide) ?_
                  refine xw_isub (aX12_meansReduced 63 rfl) ?_
                  refine hw_tie (A := (((x22).toInt) - (1)) - (1)) (i_sub e43 (by decide : (1 : Int32).toInt = 1) (by omega) (by omega)) (fun x130 e131 => ?_)
                  refine xw_iload (aX12_meansReduced 64 rfl) rfl ?_
                  refine hw_ifeq (tgt := 123) (aX12_meansReduced 65 rfl) (by decide) (by decide : (1 : Int32).toInt = 1) (fun cd132 => ?_) (fun cd132 => ?_)
                  · omega
                  · refine hw_lc (v := (0 : Int64)) (aX12_meansReduced 66 rfl) (by decide) ?_
                    refine xw_goto (tgt := 131) (aX12_meansReduced 67 rfl) (by decide) ?_
                    refine hv_last (k := (x130).toNatClampNeg) (aX12_meansReduced 73 rfl) (c173 hS) (s173 hS) (h_in e131 (by omega) (by omega)) rfl (fun FL133 u134 => ?_)
                    refine xw_goto (tgt := 0) (aX12_meansReduced 74 rfl) (by decide) ?_
                    exact hw_L (ih FI44 FL133 (gf_f (gf_f fr9 u37 (by decide)) u45 (by decide)) (gf_a fr10 u134 (by decide)) hI47 (show rl_wm (FI44 121 90) (FI44 165) (FI44 166) from rl46) (by have := congrArg Int32.toInt (show FI44 121 90 = x34 from (up_k u45 (by decide) (up_eq u37))); have := (e35 : (x34).toInt = ((x19).toInt) - (1)); omega) (by have := congrArg Int32.toInt (show FI44 121 101 = x42 from up_eq u45); have := (e43 : (x42).toInt = ((x22).toInt) - (1)); omega) (by have := congrArg Int32.toInt (show FI44 121 90 = x34 from (up_k u45 (by decide) (up_eq u37))); have := (e35 : (x34).toInt = ((x19).toInt) - (1)); omega) (by have := congrArg Int32.toInt (show FI44 121 101 = x42 from up_eq u45); have := (e43 : (x42).toInt = ((x22).toInt) - (1)); omega) (show au_red (a1).toInt (sk (FI 166) ((FI44 121 90).toInt).toNat) = au_red (a1).toInt (sk (FI 166) (FI 121 90).toInt.toNat) from (by have := congrArg Int32.toInt (show FI44 121 90 = x34 from (up_k u45 (by decide) (up_eq u37))); have := (e35 : (x34).toInt = ((x19).toInt) - (1)); exact (by have hh := u31 (by omega); rw [show FIv7 166 = FI 166 from rw17, show FIv7 121 90 = x19 from h20] at hh; have hi := xi0_0; rw [show FIv7 121 90 = x19 from h20, hh, au_red_pop (by omega)] at hi; rw [show ((FI44 121 90).toInt : Int) = (x19).toInt - 1 by omega]; exact hi))) (show (FI44 121 101).toInt - (au_vc (sk (FI 166) ((FI44 121 90).toInt).toNat) : Int) = (FI 121 101).toInt - (au_vc (sk (FI 166) (FI 121 90).toInt.toNat) : Int) from (by have := congrArg Int32.toInt (show FI44 121 101 = x42 from up_eq u45); have := (e43 : (x42).toInt = ((x22).toInt) - (1)); have := congrArg Int32.toInt (show FI44 121 90 = x34 from (up_k u45 (by decide) (up_eq u37))); have := (e35 : (x34).toInt = ((x19).toInt) - (1)); exact (by rw [show ((FI44 121 90).toInt : Int).toNat = ((FIv7 121 90).toInt - 1).toNat by omega]; have := hp.2.2.2; have := congrArg Int32.toInt (show FI44 121 101 = x42 from up_eq u45); have := (e43 : (x42).toInt = ((x22).toInt) - (1)); omega))) (show au_ok (sk (FI 166) ((FI44 121 90).toInt).toNat) from (by have := congrArg Int32.toInt (show FI44 121 90 = x34 from (up_k u45 (by decide) (up_eq u37))); have := (e35 : (x34).toInt = ((x19).toInt) - (1)); exact (by rw [show ((FI44 121 90).toInt : Int).toNat = ((FIv7 121 90).toInt - 1).toNat by omega]; exact hp.2.1))) (show ∀ y r, (sk (FI 166) ((FI44 121 90).toInt).toNat) = y :: r → y ≠ 9 from (by have := congrArg Int32.toInt (show FI44 121 90 = x34 from (up_k u45 (by decide) (up_eq u37))); have := (e35 : (x34).toInt = ((x19).toInt) - (1)); exact (by rw [show ((FI44 121 90).toInt : Int).toNat = ((FIv7 121 90).toInt - 1).toNat by omega]; exact hp.2.2.1))) (show FI44 166 = FI 166 from (up_row u45 (by decide) ((up_row u37 (by decide) (rw17))))) (by have := congrArg Int32.toInt (show FI44 121 90 = x34 from (up_k u45 (by decide) (up_eq u37))); have := (e35 : (x34).toInt = ((x19).toInt) - (1)); omega)) ⟨rfl, rfl, trivial⟩
                · refine hw_aloadn (aX12_meansReduced 55 rfl) rfl ?_
                  refine hw_bp (v := (6 : Int32)) (aX12_meansReduced 56 rfl) (by decide) ?_
                  refine hv_puti (aX12_meansReduced 57 rfl) wf_RX12_653 (c121 hS) (s121 hS) (by decide) rfl rfl (fun FI135 u136 => ?_)
                  have rl137 : rl_wm (FI135 121 90) (FI135 165) (FI135 166) := by rw [show FI135 165 = FI44 165 from up_row u136 (by decide) rfl, show FI135 166 = FI44 166 from up_row u136 (by decide) rfl, show FI135 121 90 = FI44 121 90 from up_k u136 (by decide) rfl]; exact rl46
                  have hI138 : g_I FI135 := gU_F hI47 u136 rfl
                  refine hw_aloadn (aX12_meansReduced 58 rfl) rfl ?_
                  refine hw_get (v := .ref (base + 173)) (aX12_meansReduced 59 rfl) wf_RX12_178 (c121 hS) (s121 hS) (by decide) (congrArg (fun r => va_rf (h_rf base r)) (r121_100 hF)) ?_
                  refine hw_aloadn (aX12_meansReduced 60 rfl) rfl ?_
                  refine hw_get (v := .int (x42)) (aX12_meansReduced 61 rfl) wf_RX12_683 (c121 hS) (s121 hS) (by decide) (congrArg Value.int (show FI135 121 101 = x42 from (up_k u136 (by decide) (up_eq u45)))) ?_
                  refine hw_ic (v := (1 : Int32)) (aX12_meansReduced 62 rfl) (by decide) ?_
                  refine xw_isub (aX12_meansReduced 63 rfl) ?_
                  refine hw_tie (A := (((x22).toInt) - (1)) - (1)) (i_sub e43 (by decide : (1 : Int32).toInt = 1) (by omega) (by omega)) (fun x139 e140 => ?_)
                  refine xw_iload (aX12_meansReduced 64 rfl) rfl ?_
                  refine hw_ifeq (tgt := 123) (aX12_meansReduced 65 rfl) (by decide) (by decide : (1 : Int32).toInt = 1) (fun cd141 => ?_) (fun cd141 => ?_)
                  · omega
                  · refine hw_lc (v := (0 : Int64)) (aX12_meansReduced 66 rfl) (by decide) ?_
                    refine xw_goto (tgt := 131) (aX12_meansReduced 67 rfl) (by decide) ?_
                    refine hv_last (k := (x139).toNatClampNeg) (aX12_meansReduced 73 rfl) (c173 hS) (s173 hS) (h_in e140 (by omega) (by omega)) rfl (fun FL142 u143 => ?_)
                    refine xw_goto (tgt := 0) (aX12_meansReduced 74 rfl) (by decide) ?_
                    exact hw_L (ih FI135 FL142 (gf_f (gf_f (gf_f fr9 u37 (by decide)) u45 (by decide)) u136 (by decide)) (gf_a fr10 u143 (by decide)) hI138 (show rl_wm (FI135 121 90) (FI135 165) (FI135 166) from rl137) (by have := congrArg Int32.toInt (show FI135 121 90 = x34 from (up_k u136 (by decide) ((up_k u45 (by decide) (up_eq u37))))); have := (e35 : (x34).toInt = ((x19).toInt) - (1)); omega) (by have := congrArg Int32.toInt (show FI135 121 101 = x42 from (up_k u136 (by decide) (up_eq u45))); have := (e43 : (x42).toInt = ((x22).toInt) - (1)); omega) (by have := congrArg Int32.toInt (show FI135 121 90 = x34 from (up_k u136 (by decide) ((up_k u45 (by decide) (up_eq u37))))); have := (e35 : (x34).toInt = ((x19).toInt) - (1)); omega) (by have := congrArg Int32.toInt (show FI135 121 101 = x42 from (up_k u136 (by decide) (up_eq u45))); have := (e43 : (x42).toInt = ((x22).toInt) - (1)); omega) (show au_red (a1).toInt (sk (FI 166) ((FI135 121 90).toInt).toNat) = au_red (a1).toInt (sk (FI 166) (FI 121 90).toInt.toNat) from (by have := congrArg Int32.toInt (show FI135 121 90 = x34 from (up_k u136 (by decide) ((up_k u45 (by decide) (up_eq u37))))); have := (e35 : (x34).toInt = ((x19).toInt) - (1)); exact (by have hh := u31 (by omega); rw [show FIv7 166 = FI 166 from rw17, show FIv7 121 90 = x19 from h20] at hh; have hi := xi0_0; rw [show FIv7 121 90 = x19 from h20, hh, au_red_pop (by omega)] at hi; rw [show ((FI135 121 90).toInt : Int) = (x19).toInt - 1 by omega]; exact hi))) (show (FI135 121 101).toInt - (au_vc (sk (FI 166) ((FI135 121 90).toInt).toNat) : Int) = (FI 121 101).toInt - (au_vc (sk (FI 166) (FI 121 90).toInt.toNat) : Int) from (by have := congrArg Int32.toInt (show FI135 121 101 = x42 from (up_k u136 (by decide) (up_eq u45))); have := (e43 : (x42).toInt = ((x22).toInt) - (1)); have := congrArg Int32.toInt (show FI135 121 90 = x34 from (up_k u136 (by decide) ((up_k u45 (by decide) (up_eq u37))))); have := (e35 : (x34).toInt = ((x19).toInt) - (1)); exact (by rw [show ((FI135 121 90).toInt : Int).toNat = ((FIv7 121 90).toInt - 1).toNat by omega]; have := hp.2.2.2; have := congrArg Int32.toInt (show FI135 121 101 = x42 from (up_k u136 (by decide) (up_eq u45))); have := (e43 : (x42).toInt = ((x22).toInt) - (1)); omega))) (show au_ok (sk (FI 166) ((FI135 121 90).toInt).toNat) from (by have := congrArg Int32.toInt (show FI135 121 90 = x34 from (up_k u136 (by decide) ((up_k u45 (by decide) (up_eq u37))))); have := (e35 : (x34).toInt = ((x19).toInt) - (1)); exact (by rw [show ((FI135 121 90).toInt : Int).toNat = ((FIv7 121 90).toInt - 1).toNat by omega]; exact hp.2.1))) (show ∀ y r, (sk (FI 166) ((FI135 121 90).toInt).toNat) = y :: r → y ≠ 9 from (by have := congrArg Int32.toInt (show FI135 121 90 = x34 from (up_k u136 (by decide) ((up_k u45 (by decide) (up_eq u37))))); have := (e35 : (x34).toInt = ((x19).toInt) - (1)); exact (by rw [show ((FI135 121 90).toInt : Int).toNat = ((FIv7 121 90).toInt - 1).toNat by omega]; exact hp.2.2.1))) (show FI135 166 = FI 166 from (up_row u136 (by decide) ((up_row u45 (by decide) ((up_row u37 (by decide) (rw17))))))) (by have := congrArg Int32.toInt (show FI135 121 90 = x34 from (up_k u136 (by decide) ((up_k u45 (by decide) (up_eq u37))))); have := (e35 : (x34).toInt = ((x19).toInt) - (1)); omega)) ⟨rfl, rfl, trivial⟩
  exact hw_L (lp18 (((x1).toInt : Int).toNat + 1) FI FL gf_rf gf_rf hI (show rl_wm (FI 121 90) (FI 165) (FI 166) from rel_wm) (by have := congrArg Int32.toInt (show FI 121 90 = x1 from h2); omega) (by have := congrArg Int32.toInt (show FI 121 101 = x4 from h5); omega) (by have := congrArg Int32.toInt (show FI 121 90 = x1 from h2); omega) (by have := congrArg Int32.toInt (show FI 121 101 = x4 from h5); omega) (show au_red (a1).toInt (sk (FI 166) ((FI 121 90).toInt).toNat) = au_red (a1).toInt (sk (FI 166) (FI 121 90).toInt.toNat) from (by have := congrArg Int32.toInt (show FI 121 90 = x1 from h2); exact rfl)) (show (FI 121 101).toInt - (au_vc (sk (FI 166) ((FI 121 90).toInt).toNat) : Int) = (FI 121 101).toInt - (au_vc (sk (FI 166) (FI 121 90).toInt.toNat) : Int) from (by have := congrArg Int32.toInt (show FI 121 101 = x4 from h5); have := congrArg Int32.toInt (show FI 121 90 = x1 from h2); exact rfl)) (show au_ok (sk (FI 166) ((FI 121 90).toInt).toNat) from (by have := congrArg Int32.toInt (show FI 121 90 = x1 from h2); exact gg0)) (show ∀ y r, (sk (FI 166) ((FI 121 90).toInt).toNat) = y :: r → y ≠ 9 from (by have := congrArg Int32.toInt (show FI 121 90 = x1 from h2); exact gg1)) (show FI 166 = FI 166 from rfl) (by have := congrArg Int32.toInt (show FI 121 90 = x1 from h2); omega)) ⟨rfl, rfl, trivial⟩
end
section
def nX12_meansReducedAll : Nat := 0xb1b1ffa7cb02b6042aa802b5332c02b42ab500b42a2a502fab02b42ab200b42a6404ab02b42ab200b42a17009a332c02b42ab800b42aab02b56404ab02b42a2a2c02b564042c02b42a2a4c00a0fd102f02b62acb02b6042a
theorem bX12_meansReducedAll : cX12_meansReducedAll.data.toList.map UInt8.toNat = x_un nX12_meansReducedAll 88 := by decide +kernel
def iX12_meansReducedAll : List (Nat × Jvm.ClassFile.Instr × Nat) := [(0, .aload_n 0, 1), (1, .iconst 1, 1), (2, .invokevirtual 715, 3), (5, .aload_n 0, 1), (6, .invokevirtual 559, 3), (9, .bipush (-3), 2), (11, .if_icmp .ne 76, 3), (14, .aload_n 0, 1), (15, .aload_n 0, 1), (16, .getfield 556, 3), (19, .iconst 1, 1), (20, .isub, 1), (21, .putfield 556, 3), (24, .aload_n 0, 1), (25, .aload_n 0, 1), (26, .getfield 683, 3), (29, .iconst 1, 1), (30, .isub, 1), (31, .putfield 683, 3), (34, .aload_n 0, 1), (35, .getfield 184, 3), (38, .aload_n 0, 1), (39, .getfield 556, 3), (42, .baload, 1), (43, .ifCond .ne 23, 3), (46, .aload_n 0, 1), (47, .getfield 178, 3), (50, .aload_n 0, 1), (51, .getfield 683, 3), (54, .iconst 1, 1), (55, .isub, 1), (56, .aload_n 0, 1), (57, .getfield 178, 3), (60, .aload_n 0, 1), (61, .getfield 683, 3), (64, .laload, 1), (65, .lastore, 1), (66, .aload_n 0, 1), (67, .aload_n 0, 1), (68, .getfield 181, 3), (71, .aload_n 0, 1), (72, .getfield 556, 3), (75, .baload, 1), (76, .putfield 680, 3), (79, .aload_n 0, 1), (80, .iconst 1, 1), (81, .invokevirtual 715, 3), (84, .goto (-79), 3), (87, .return_, 1)]
theorem dX12_meansReducedAll : x_il nX12_meansReducedAll 88 iX12_meansReducedAll = true := by decide +kernel
theorem aX12_meansReducedAll (k : Nat) {pc : Nat} {i : Jvm.ClassFile.Instr} {len : Nat} (hk : iX12_meansReducedAll[k]? = some (pc, i, len)) : x_at xMM 265 pc i len yX12_meansReducedAll 1 none := ⟨cX12_meansReducedAll, rfl, x_il_ok bX12_meansReducedAll dX12_meansReducedAll k hk⟩
set_option maxHeartbeats 4000000 in
set_option maxRecDepth 100000 in
theorem n_meansReducedAll {zk : xK} {base d n sl : Nat} {SH : Nat → Nat × Nat} {FI : Nat → Nat → Int32} {FL : Nat → Nat → Int64} {FR : Nat → Nat → Option Nat} (hS : h_S n SH) (hF : h_FR FR) (hI : g_I FI) (gg0 : au_ok (sk (FI 166) (FI 121 90).toInt.toNat)) (gg1 : ∀ y r, (sk (FI 166) (FI 121 90).toInt.toNat) = y :: r → y ≠ 9) (gg2 : (au_vc (sk (FI 166) (FI 121 90).toInt.toNat) : Int) + 1 ≤ (FI 121 101).toInt) (rel_wm : rl_wm (FI 121 90) (FI 165) (FI 166)) : hw zk base (d + 4) none 265 0 [(0, .ref (base + 121))] [] (n, sl, SH, FI, FL, FR) (h_V (fun s => ∃ FI' FL', s = (n, sl, SH, FI', FL', FR) ∧ g_I FI' ∧ g_fr n SH [(121, 90), (121, 93), (121, 101), (121, 104)] [] [] FI FI' ∧ g_fr n SH [] [173] [] FL FL' ∧ ((FI' 121 90).toInt ≤ (FI 121 90).toInt) ∧ ((FI' 121 101).toInt ≤ (FI 121 101).toInt) ∧ (sk (FI 166) (FI' 121 90).toInt.toNat = au_all (sk (FI 166) (FI 121 90).toInt.toNat)) ∧ ((FI' 121 101).toInt - (au_vc (sk (FI 166) (FI' 121 90).toInt.toNat) : Int) = (FI 121 101).toInt - (au_vc (sk (FI 166) (FI 121 90).toInt.toNat) : Int)) ∧ (rl_wm (FI' 121 90) (FI' 165) (FI' 166)))) := by
  obtain ⟨x1, h2⟩ : ∃ y, FI 121 90 = y := ⟨_, rfl⟩
  have h2l := congrArg Int32.toInt h2
  have b3 := gI_121_90 hI; rw [h2] at b3
  obtain ⟨x4, h5⟩ : ∃ y, FI 121 101 = y := ⟨_, rfl⟩
  have h5l := congrArg Int32.toInt h5
  have b6 := gI_121_101 hI; rw [h5] at b6
  refine hw_aloadn (aX12_meansReducedAll 0 rfl) rfl ?_
  refine hw_ic (v := (1 : Int32)) (aX12_meansReducedAll 1 rfl) (by decide) ?_
  refine hw_callV (Bs := [.int ((1 : Int32))]) (rest := []) (aX12_meansReducedAll 2 rfl) wc_RX12_715 (by decide) rfl wi_yX12_meansReduced wv_yX12_meansReduced (c121 hS) (s121 hS) rfl rfl rfl (Nat.le_of_ble_eq_true rfl) (Nat.le_of_ble_eq_true rfl) (n_meansReduced (d := d) hS hF hI ((1 : Int32)) (by have := ((by decide : (1 : Int32).toInt = 1) : ((1 : Int32)).toInt = 1); have := ((by decide : (1 : Int32).toInt = 1) : ((1 : Int32)).toInt = 1); omega) (gg0) (gg1) (gg2) (show rl_wm (FI 121 90) (FI 165) (FI 166) from rel_wm)) (fun v7 sv8 p9 => ?_)
  have := congrArg Int32.toInt (show FI 121 90 = x1 from h2)
  have := congrArg Int32.toInt (show FI 121 101 = x4 from h5)
  obtain ⟨rfl, FI11, FL12, rfl, hI13, f14, f15, t16, t17, u18, u19, rl20⟩ := p9
  obtain ⟨x21, h22⟩ : ∃ y, FI11 121 90 = y := ⟨_, rfl⟩
  have h22l := congrArg Int32.toInt h22
  have b23 := gI_121_90 hI13; rw [h22] at b23
  obtain ⟨x24, h25⟩ : ∃ y, FI11 121 101 = y := ⟨_, rfl⟩
  have h25l := congrArg Int32.toInt h25
  have b26 := gI_121_101 hI13; rw [h25] at b26
  show hw zk base _ _ _ _ _ [] _ _
  have hR := u18; rw [show ((1 : Int32)).toInt = (1 : Int) from by decide] at hR; have hV := u19; have hma := ma_0 gg0 gg1
  have := congrArg Int32.toInt (show FI11 121 101 = x24 from h25)
  have lp38 : ∀ (m : Nat) (FIv27 : Nat → Nat → Int32) (FLv28 : Nat → Nat → Int64), (g_fr n SH [(121, 90), (121, 93), (121, 101), (121, 104)] [] [] FI FIv27) → (g_fr n SH [] [173] [] FL FLv28) → (g_I FIv27) → (rl_wm (FIv27 121 90) (FIv27 165) (FIv27 166)) → (0 ≤ (FIv27 121 90).toInt ∧ (FIv27 121 90).toInt ≤ 256) → (0 ≤ (FIv27 121 101).toInt ∧ (FIv27 121 101).toInt ≤ 512) → ((FIv27 121 90).toInt ≤ (FI 121 90).toInt) → ((FIv27 121 101).toInt ≤ (FI 121 101).toInt) → (au_all (sk (FI 166) ((FIv27 121 90).toInt).toNat) = au_all (sk (FI 166) (FI 121 90).toInt.toNat)) → ((FIv27 121 101).toInt - (au_vc (sk (FI 166) ((FIv27 121 90).toInt).toNat) : Int) = (FI 121 101).toInt - (au_vc (sk (FI 166) (FI 121 90).toInt.toNat) : Int)) → (au_ok (sk (FI 166) ((FIv27 121 90).toInt).toNat)) → (∀ y r, (sk (FI 166) ((FIv27 121 90).toInt).toNat) = y :: r → y < 1) → (FIv27 166 = FI 166) → (FIv27 121 90).toInt < m → hw zk base (d + 4) none 265 5 [(0, .ref (base + 121))] [] (n, sl, SH, FIv27, FLv28, FR) (h_V (fun s => ∃ FI' FL', s = (n, sl, SH, FI', FL', FR) ∧ g_I FI' ∧ g_fr n SH [(121, 90), (121, 93), (121, 101), (121, 104)] [] [] FI FI' ∧ g_fr n SH [] [173] [] FL FL' ∧ ((FI' 121 90).toInt ≤ (FI 121 90).toInt) ∧ ((FI' 121 101).toInt ≤ (FI 121 101).toInt) ∧ (sk (FI 166) (FI' 121 90).toInt.toNat = au_all (sk (FI 166) (FI 121 90).toInt.toNat)) ∧ ((FI' 121 101).toInt - (au_vc (sk (FI 166) (FI' 121 90).toInt.toNat) : Int) = (FI 121 101).toInt - (au_vc (sk (FI 166) (FI 121 90).toInt.toNat) : Int)) ∧ (rl_wm (FI' 121 90) (FI' 165) (FI' 166)))) := by
    intro m
    induction m with
    | zero => intro FIv27 FLv28 fr29 fr30 hI31 rl32 iv33 iv34 iv35 iv36 xi5_0 xi5_1 xi5_2 xi5_3 rw37 hm; omega
    | succ m ih =>
      intro FIv27 FLv28 fr29 fr30 hI31 rl32 iv33 iv34 iv35 iv36 xi5_0 xi5_1 xi5_2 xi5_3 rw37 hm
      obtain ⟨x39, h40⟩ : ∃ y, FIv27 121 90 = y := ⟨_, rfl⟩
      have h40l := congrArg Int32.toInt h40
      have b41 := gI_121_90 hI31; rw [h40] at b41
      obtain ⟨x42, h43⟩ : ∃ y, FIv27 121 101 = y := ⟨_, rfl⟩
      have h43l := congrArg Int32.toInt h43
      have b44 := gI_121_101 hI31; rw [h43] at b44
      refine hw_aloadn (aX12_meansReducedAll 3 rfl) rfl ?_
      refine hw_callV (Bs := []) (rest := []) (aX12_meansReducedAll 4 rfl) wc_RX12_559 (by decide) rfl wi_yX12_tops wv_yX12_tops (c121 hS) (s121 hS) rfl rfl rfl (Nat.le_of_ble_eq_true rfl) (Nat.le_of_ble_eq_true rfl) (n_tops (d := d + 3) hS hF hI31 ) (fun v45 sv46 p47 => ?_)
      have := congrArg Int32.toInt (show FIv27 121 90 = x39 from h40)
      obtain ⟨r48, rfl, rfl, t50, u51, u52⟩ := p47
      have rg_r48 := i_rng r48
      show hw zk base _ _ _ _ _ [.int (r48)] _ _
      refine hw_bp (v := ((-3) : Int32)) (aX12_meansReducedAll 5 rfl) (by decide) ?_
      refine hw_icne (tgt := 87) (aX12_meansReducedAll 6 rfl) (by decide) rfl (by decide : ((-3) : Int32).toInt = (-3)) (fun cd53 => ?_) (fun cd53 => ?_)
      · refine xw_vret (aX12_meansReducedAll 48 rfl) rfl ?_
        exact ⟨rfl, FIv27, FLv28, rfl, hI31, fr29, fr30, (by have := congrArg Int32.toInt (show FIv27 121 90 = x39 from h40); omega), (by have := congrArg Int32.toInt (show FIv27 121 101 = x42 from h43); omega), (by have e := ra_e xi5_3 (fun y q e => by { rcases Int.lt_or_le 0 (FIv27 121 90).toInt with h0 | h0; { have hh := u51 (by omega); rw [show FIv27 166 = FI 166 from rw37, e] at hh; cases hh; omega }; { rw [show (FIv27 121 90).toInt.toNat = 0 by omega] at e; cases e } }); rw [← xi5_0, e]), (by exact xi5_1), (show rl_wm (FIv27 121 90) (FIv27 165) (FIv27 166) from rl32)⟩
      · have := congrArg Int32.toInt (show FIv27 121 101 = x42 from h43)
        have hh := u51 (by omega); rw [show FIv27 166 = FI 166 from rw37, show (r48).toInt = (-3 : Int) by omega] at hh
        have hms := ma_s hh xi5_2
        have hx1 := xi5_1
        have h2v : 2 ≤ (FIv27 121 101).toInt := by have := hms.2.2.2.2.2; have := gg2; omega
        refine hw_aloadn (aX12_meansReducedAll 7 rfl) rfl ?_
        refine hw_aloadn (aX12_meansReducedAll 8 rfl) rfl ?_
        refine hw_get (v := .int (x39)) (aX12_meansReducedAll 9 rfl) wf_RX12_556 (c121 hS) (s121 hS) (by decide) (congrArg Value.int (show FIv27 121 90 = x39 from h40)) ?_
        refine hw_ic (v := (1 : Int32)) (aX12_meansReducedAll 10 rfl) (by decide) ?_
        refine xw_isub (aX12_meansReducedAll 11 rfl) ?_
        refine hw_tie (A := ((x39).toInt) - (1)) (i_sub rfl (by decide : (1 : Int32).toInt = 1) (by omega) (by omega)) (fun x54 e55 => ?_)
        refine hv_puti (aX12_meansReducedAll 12 rfl) wf_RX12_556 (c121 hS) (s121 hS) (by decide) rfl rfl (fun FI56 u57 => ?_)
        have rl58 : rl_wm (FI56 121 90) (FI56 165) (FI56 166) := by have z0 := congrArg Int32.toInt (show FIv27 121 90 = x39 from h40); have z1 := congrArg Int32.toInt (show FI56 121 90 = x54 from up_eq u57); have := (e55 : (x54).toInt = ((x39).toInt) - (1)); rw [show FI56 165 = FIv27 165 from up_row u57 (by decide) rfl, show FI56 166 = FIv27 166 from up_row u57 (by decide) rfl]; exact rl_wm_mono rl32 (by omega)
        have hI59 : g_I FI56 := gU_121_90 hI31 u57 (by have := (e55 : (x54).toInt = ((x39).toInt) - (1)); omega) (by have := (e55 : (x54).toInt = ((x39).toInt) - (1)); omega)
        refine hw_aloadn (aX12_meansReducedAll 13 rfl) rfl ?_
        refine hw_aloadn (aX12_meansReducedAll 14 rfl) rfl ?_
        refine hw_get (v := .int (x42)) (aX12_meansReducedAll 15 rfl) wf_RX12_683 (c121 hS) (s121 hS) (by decide) (congrArg Value.int (show FI56 121 101 = x42 from (up_k u57 (by decide) (h43)))) ?_
        refine hw_ic (v := (1 : Int32)) (aX12_meansReducedAll 16 rfl) (by decide) ?_
        refine xw_isub (aX12_meansReducedAll 17 rfl) ?_
        refine hw_tie (A := ((x42).toInt) - (1)) (i_sub rfl (by decide : (1 : Int32).toInt = 1) (by omega) (by omega)) (fun x60 e61 => ?_)
        refine hv_puti (aX12_meansReducedAll 18 rfl) wf_RX12_683 (c121 hS) (s121 hS) (by decide) rfl rfl (fun FI62 u63 => ?_)
        have rl64 : rl_wm (FI62 121 90) (FI62 165) (FI62 166) := by rw [show FI62 165 = FI56 165 from up_row u63 (by decide) rfl, show FI62 166 = FI56 166 from up_row u63 (by decide) rfl, show FI62 121 90 = FI56 121 90 from up_k u63 (by decide) rfl]; exact rl58
        have hI65 : g_I FI62 := gU_121_101 hI59 u63 (by have := (e61 : (x60).toInt = ((x42).toInt) - (1)); omega) (by have := (e61 : (x60).toInt = ((x42).toInt) - (1)); omega)
        refine hw_aloadn (aX12_meansReducedAll 19 rfl) rfl ?_
        refine hw_get (v := .ref (base + 175)) (aX12_meansReducedAll 20 rfl) wf_RX12_184 (c121 hS) (s121 hS) (by decide) (congrArg (fun r => va_rf (h_rf base r)) (r121_103 hF)) ?_
        refine hw_aloadn (aX12_meansReducedAll 21 rfl) rfl ?_
        refine hw_get (v := .int (x54)) (aX12_meansReducedAll 22 rfl) wf_RX12_556 (c121 hS) (s121 hS) (by decide) (congrArg Value.int (show FI62 121 90 = x54 from (up_k u63 (by decide) (up_eq u57)))) ?_
        obtain ⟨x66, h67⟩ : ∃ y, FI62 175 (x54).toNatClampNeg = y := ⟨_, rfl⟩
        have h67l := congrArg Int32.toInt h67
        have := i_rng x66
        refine hw_zald (v := x66) (aX12_meansReducedAll 23 rfl) (c175 hS) (s175 hS) (h_in e55 (by omega) (by omega)) (show FI62 175 (x54).toNatClampNeg = x66 from h67) ?_
        have b68 := gI_175 hI65 (i_lt (x := x54) e55 (by omega) (by omega)); rw [h67] at b68
        refine hw_ifne (tgt := 66) (aX12_meansReducedAll 24 rfl) (by decide) rfl (fun cd69 => ?_) (fun cd69 => ?_)
        · refine hw_aloadn (aX12_meansReducedAll 37 rfl) rfl ?_
          refine hw_aloadn (aX12_meansReducedAll 38 rfl) rfl ?_
          refine hw_get (v := .ref (base + 174)) (aX12_meansReducedAll 39 rfl) wf_RX12_181 (c121 hS) (s121 hS) (by decide) (congrArg (fun r => va_rf (h_rf base r)) (r121_102 hF)) ?_
          refine hw_aloadn (aX12_meansReducedAll 40 rfl) rfl ?_
          refine hw_get (v := .int (x54)) (aX12_meansReducedAll 41 rfl) wf_RX12_556 (c121 hS) (s121 hS) (by decide) (congrArg Value.int (show FI62 121 90 = x54 from (up_k u63 (by decide) (up_eq u57)))) ?_
          obtain ⟨x70, h71⟩ : ∃ y, FI62 174 (x54).toNatClampNeg = y := ⟨_, rfl⟩
          have h71l := congrArg Int32.toInt h71
          have := i_rng x70
          refine hw_zald (v := x70) (aX12_meansReducedAll 42 rfl) (c174 hS) (s174 hS) (h_in e55 (by omega) (by omega)) (show FI62 174 (x54).toNatClampNeg = x70 from h71) ?_
          have b72 := gI_174 hI65 (i_lt (x := x54) e55 (by omega) (by omega)); rw [h71] at b72
          refine hv_putz (aX12_meansReducedAll 43 rfl) wf_RX12_680 (c121 hS) (s121 hS) (by decide) rfl rfl (i_01 rfl (by omega) (by omega)) (fun FI73 u74 => ?_)
          have rl75 : rl_wm (FI73 121 90) (FI73 165) (FI73 166) := by rw [show FI73 165 = FI62 165 from up_row u74 (by decide) rfl, show FI73 166 = FI62 166 from up_row u74 (by decide) rfl, show FI73 121 90 = FI62 121 90 from up_k u74 (by decide) rfl]; exact rl64
          have hI76 : g_I FI73 := gU_121_104 hI65 u74 (by omega) (by omega)
          refine hw_aloadn (aX12_meansReducedAll 44 rfl) rfl ?_
          refine hw_ic (v := (1 : Int32)) (aX12_meansReducedAll 45 rfl) (by decide) ?_
          have := congrArg Int32.toInt (show FI73 121 90 = x54 from (up_k u74 (by decide) ((up_k u63 (by decide) (up_eq u57)))))
          have := congrArg Int32.toInt (show FI73 121 101 = x60 from (up_k u74 (by decide) (up_eq u63)))
          have := (e55 : (x54).toInt = ((x39).toInt) - (1))
          have := (e61 : (x60).toInt = ((x42).toInt) - (1))
          have hl81 : sk (FI73 166) (FI73 121 90).toInt.toNat = sk (FI 166) ((FIv27 121 90).toInt - 1).toNat := by rw [show FI73 166 = FI 166 from (up_row u74 (by decide) ((up_row u63 (by decide) ((up_row u57 (by decide) (rw37)))))), show (FI73 121 90).toInt.toNat = ((FIv27 121 90).toInt - 1).toNat by omega]
          refine hw_callV (Bs := [.int ((1 : Int32))]) (rest := []) (aX12_meansReducedAll 46 rfl) wc_RX12_715 (by decide) rfl wi_yX12_meansReduced wv_yX12_meansReduced (c121 hS) (s121 hS) rfl rfl rfl (Nat.le_of_ble_eq_true rfl) (Nat.le_of_ble_eq_true rfl) (n_meansReduced (d := d) hS hF hI76 ((1 : Int32)) (by have := ((by decide : (1 : Int32).toInt = 1) : ((1 : Int32)).toInt = 1); have := ((by decide : (1 : Int32).toInt = 1) : ((1 : Int32)).toInt = 1); omega) (by rw [hl81]; exact hms.2.2.2.1) (by rw [hl81]; exact hms.2.2.2.2.1) (by rw [hl81]; have := hms.2.2.2.2.2; have := gg2; omega) (show rl_wm (FI73 121 90) (FI73 165) (FI73 166) from rl75)) (fun v77 sv78 p79 => ?_)
          have := congrArg Int32.toInt (show FI73 121 90 = x54 from (up_k u74 (by decide) ((up_k u63 (by decide) (up_eq u57)))))
          have := (e55 : (x54).toInt = ((x39).toInt) - (1))
          have := congrArg Int32.toInt (show FI73 121 101 = x60 from (up_k u74 (by decide) (up_eq u63)))
          have := (e61 : (x60).toInt = ((x42).toInt) - (1))
          obtain ⟨rfl, FI81, FL82, rfl, hI83, f84, f85, t86, t87, u88, u89, rl90⟩ := p79
          obtain ⟨x91, h92⟩ : ∃ y, FI81 121 90 = y := ⟨_, rfl⟩
          have h92l := congrArg Int32.toInt h92
          have b93 := gI_121_90 hI83; rw [h92] at b93
          obtain ⟨x94, h95⟩ : ∃ y, FI81 121 101 = y := ⟨_, rfl⟩
          have h95l := congrArg Int32.toInt h95
          have b96 := gI_121_101 hI83; rw [h95] at b96
          show hw zk base _ _ _ _ _ [] _ _
          have hR := u88; rw [show ((1 : Int32)).toInt = (1 : Int) from by decide, hl81] at hR; have hV := u89; rw [hl81] at hV
          have := congrArg Int32.toInt (show FI81 121 101 = x94 from h95)
          refine xw_goto (tgt := 5) (aX12_meansReducedAll 47 rfl) (by decide) ?_
          exact hw_L (ih FI81 FL82 (gf_tr ex_rf (gf_f (gf_f (gf_f fr29 u57 (by decide)) u63 (by decide)) u74 (by decide)) f84 rfl rfl rfl) (gf_tr ex_rf fr30 f85 rfl rfl rfl) hI83 (show rl_wm (FI81 121 90) (FI81 165) (FI81 166) from rl90) (by have := congrArg Int32.toInt (show FI81 121 90 = x91 from h92); omega) (by have := congrArg Int32.toInt (show FI81 121 101 = x94 from h95); omega) (by have := congrArg Int32.toInt (show FI81 121 90 = x91 from h92); omega) (by have := congrArg Int32.toInt (show FI81 121 101 = x94 from h95); omega) (show au_all (sk (FI 166) ((FI81 121 90).toInt).toNat) = au_all (sk (FI 166) (FI 121 90).toInt.toNat) from (by have := congrArg Int32.toInt (show FI81 121 90 = x91 from h92); exact (by have hR2 := hR; rw [show FI73 166 = FI 166 from (up_row u74 (by decide) ((up_row u63 (by decide) ((up_row u57 (by decide) (rw37))))))] at hR2; rw [hR2, hms.1]; exact xi5_0))) (show (FI81 121 101).toInt - (au_vc (sk (FI 166) ((FI81 121 90).toInt).toNat) : Int) = (FI 121 101).toInt - (au_vc (sk (FI 166) (FI 121 90).toInt.toNat) : Int) from (by have := congrArg Int32.toInt (show FI81 121 101 = x94 from h95); have := congrArg Int32.toInt (show FI81 121 90 = x91 from h92); exact (by have h3 := hV; rw [show FI73 166 = FI 166 from (up_row u74 (by decide) ((up_row u63 (by decide) ((up_row u57 (by decide) (rw37))))))] at h3; have := hms.2.2.2.2.2; omega))) (show au_ok (sk (FI 166) ((FI81 121 90).toInt).toNat) from (by have := congrArg Int32.toInt (show FI81 121 90 = x91 from h92); exact (by have hR2 := hR; rw [show FI73 166 = FI 166 from (up_row u74 (by decide) ((up_row u63 (by decide) ((up_row u57 (by decide) (rw37))))))] at hR2; rw [hR2]; exact hms.2.1))) (show ∀ y r, (sk (FI 166) ((FI81 121 90).toInt).toNat) = y :: r → y < 1 from (by have := congrArg Int32.toInt (show FI81 121 90 = x91 from h92); exact (by have hR2 := hR; rw [show FI73 166 = FI 166 from (up_row u74 (by decide) ((up_row u63 (by decide) ((up_row u57 (by decide) (rw37))))))] at hR2; rw [hR2]; exact hms.2.2.1))) (show FI81 166 = FI 166 from (gf_row f84 (c166 hS) (s166 hS) rfl ((up_row u74 (by decide) ((up_row u63 (by decide) ((up_row u57 (by decide) (rw37))))))))) (by have := congrArg Int32.toInt (show FI81 121 90 = x91 from h92); omega)) ⟨rfl, trivial⟩
        · refine hw_aloadn (aX12_meansReducedAll 25 rfl) rfl ?_
          refine hw_get (v := .ref (base + 173)) (aX12_meansReducedAll 26 rfl) wf_RX12_178 (c121 hS) (s121 hS) (by decide) (congrArg (fun r => va_rf (h_rf base r)) (r121_100 hF)) ?_
          refine hw_aloadn (aX12_meansReducedAll 27 rfl) rfl ?_
          refine hw_get (v := .int (x60)) (aX12_meansReducedAll 28 rfl) wf_RX12_683 (c121 hS) (s121 hS) (by decide) (congrArg Value.int (show FI62 121 101 = x60 from up_eq u63)) ?_
          refine hw_ic (v := (1 : Int32)) (aX12_meansReducedAll 29 rfl) (by decide) ?_
          refine xw_isub (aX12_meansReducedAll 30 rfl) ?_
          refine hw_tie (A := (((x42).toInt) - (1)) - (1)) (i_sub e61 (by decide : (1 : Int32).toInt = 1) (by omega) (by omega)) (fun x97 e98 => ?_)
          refine hw_aloadn (aX12_meansReducedAll 31 rfl) rfl ?_
          refine hw_get (v := .ref (base + 173)) (aX12_meansReducedAll 32 rfl) wf_RX12_178 (c121 hS) (s121 hS) (by decide) (congrArg (fun r => va_rf (h_rf base r)) (r121_100 hF)) ?_
          refine hw_aloadn (aX12_meansReducedAll 33 rfl) rfl ?_
          refine hw_get (v := .int (x60)) (aX12_meansReducedAll 34 rfl) wf_RX12_683 (c121 hS) (s121 hS) (by decide) (congrArg Value.int (show FI62 121 101 = x60 from up_eq u63)) ?_
          obtain ⟨x99, h100⟩ : ∃ y, FLv28 173 (x60).toNatClampNeg = y := ⟨_, rfl⟩
          have h100l := congrArg Int64.toInt h100
          have := l_rng x99
          refine hw_lald (v := x99) (aX12_meansReducedAll 35 rfl) (c173 hS) (s173 hS) (h_in e61 (by omega) (by omega)) (show FLv28 173 (x60).toNatClampNeg = x99 from h100) ?_
          refine hv_last (k := (x97).toNatClampNeg) (aX12_meansReducedAll 36 rfl) (c173 hS) (s173 hS) (h_in e98 (by omega) (by omega)) rfl (fun FL101 u102 => ?_)
          refine hw_aloadn (aX12_meansReducedAll 37 rfl) rfl ?_
          refine hw_aloadn (aX12_meansReducedAll 38 rfl) rfl ?_
          refine hw_get (v := .ref (base + 174)) (aX12_meansReducedAll 39 rfl) wf_RX12_181 (c121 hS) (s121 hS) (by decide) (congrArg (fun r => va_rf (h_rf base r)) (r121_102 hF)) ?_
          refine hw_aloadn (aX12_meansReducedAll 40 rfl) rfl ?_
          refine hw_get (v := .int (x54)) (aX12_meansReducedAll 41 rfl) wf_RX12_556 (c121 hS) (s121 hS) (by decide) (congrArg Value.int (show FI62 121 90 = x54 from (up_k u63 (by decide) (up_eq u57)))) ?_
          obtain ⟨x103, h104⟩ : ∃ y, FI62 174 (x54).toNatClampNeg = y := ⟨_, rfl⟩
          have h104l := congrArg Int32.toInt h104
          have := i_rng x103
          refine hw_zald (v := x103) (aX12_meansReducedAll 42 rfl) (c174 hS) (s174 hS) (h_in e55 (by omega) (by omega)) (show FI62 174 (x54).toNatClampNeg = x103 from h104) ?_
          have b105 := gI_174 hI65 (i_lt (x := x54) e55 (by omega) (by omega)); rw [h104] at b105
          refine hv_putz (aX12_meansReducedAll 43 rfl) wf_RX12_680 (c121 hS) (s121 hS) (by decide) rfl rfl (i_01 rfl (by omega) (by omega)) (fun FI106 u107 => ?_)
          have rl108 : rl_wm (FI106 121 90) (FI106 165) (FI106 166) := by rw [show FI106 165 = FI62 165 from up_row u107 (by decide) rfl, show FI106 166 = FI62 166 from up_row u107 (by decide) rfl, show FI106 121 90 = FI62 121 90 from up_k u107 (by decide) rfl]; exact rl64
          have hI109 : g_I FI106 := gU_121_104 hI65 u107 (by omega) (by omega)
          refine hw_aloadn (aX12_meansReducedAll 44 rfl) rfl ?_
          refine hw_ic (v := (1 : Int32)) (aX12_meansReducedAll 45 rfl) (by decide) ?_
          have := congrArg Int32.toInt (show FI106 121 90 = x54 from (up_k u107 (by decide) ((up_k u63 (by decide) (up_eq u57)))))
          have := congrArg Int32.toInt (show FI106 121 101 = x60 from (up_k u107 (by decide) (up_eq u63)))
          have := (e55 : (x54).toInt = ((x39).toInt) - (1))
          have := (e61 : (x60).toInt = ((x42).toInt) - (1))
          have hl81 : sk (FI106 166) (FI106 121 90).toInt.toNat = sk (FI 166) ((FIv27 121 90).toInt - 1).toNat := by rw [show FI106 166 = FI 166 from (up_row u107 (by decide) ((up_row u63 (by decide) ((up_row u57 (by decide) (rw37)))))), show (FI106 121 90).toInt.toNat = ((FIv27 121 90).toInt - 1).toNat by omega]
          refine hw_callV (Bs := [.int ((1 : Int32))]) (rest := []) (aX12_meansReducedAll 46 rfl) wc_RX12_715 (by decide) rfl wi_yX12_meansReduced wv_yX12_meansReduced (c121 hS) (s121 hS) rfl rfl rfl (Nat.le_of_ble_eq_true rfl) (Nat.le_of_ble_eq_true rfl) (n_meansReduced (d := d) hS hF hI109 ((1 : Int32)) (by have := ((by decide : (1 : Int32).toInt = 1) : ((1 : Int32)).toInt = 1); have := ((by decide : (1 : Int32).toInt = 1) : ((1 : Int32)).toInt = 1); omega) (by rw [hl81]; exact hms.2.2.2.1) (by rw [hl81]; exact hms.2.2.2.2.1) (by rw [hl81]; have := hms.2.2.2.2.2; have := gg2; omega) (show rl_wm (FI106 121 90) (FI106 165) (FI106 166) from rl108)) (fun v110 sv111 p112 => ?_)
          have := congrArg Int32.toInt (show FI106 121 90 = x54 from (up_k u107 (by decide) ((up_k u63 (by decide) (up_eq u57)))))
          have := (e55 : (x54).toInt = ((x39).toInt) - (1))
          have := congrArg Int32.toInt (show FI106 121 101 = x60 from (up_k u107 (by decide) (up_eq u63)))
          have := (e61 : (x60).toInt = ((x42).toInt) - (1))
          obtain ⟨rfl, FI114, FL115, rfl, hI116, f117, f118, t119, t120, u121, u122, rl123⟩ := p112
          obtain ⟨x124, h125⟩ : ∃ y, FI114 121 90 = y := ⟨_, rfl⟩
          have h125l := congrArg Int32.toInt h125
          have b126 := gI_121_90 hI116; rw [h125] at b126
          obtain ⟨x127, h128⟩ : ∃ y, FI114 121 101 = y := ⟨_, rfl⟩
          have h128l := congrArg Int32.toInt h128
          have b129 := gI_121_101 hI116; rw [h128] at b129
          show hw zk base _ _ _ _ _ [] _ _
          have hR := u121; rw [show ((1 : Int32)).toInt = (1 : Int) from by decide, hl81] at hR; have hV := u122; rw [hl81] at hV
          have := congrArg Int32.toInt (show FI114 121 101 = x127 from h128)
          refine xw_goto (tgt := 5) (aX12_meansReducedAll 47 rfl) (by decide) ?_
          exact hw_L (ih FI114 FL115 (gf_tr ex_rf (gf_f (gf_f (gf_f fr29 u57 (by decide)) u63 (by decide)) u107 (by decide)) f117 rfl rfl rfl) (gf_tr ex_rf (gf_a fr30 u102 (by decide)) f118 rfl rfl rfl) hI116 (show rl_wm (FI114 121 90) (FI114 165) (FI114 166) from rl123) (by have := congrArg Int32.toInt (show FI114 121 90 = x124 from h125); omega) (by have := congrArg Int32.toInt (show FI114 121 101 = x127 from h128); omega) (by have := congrArg Int32.toInt (show FI114 121 90 = x124 from h125); omega) (by have := congrArg Int32.toInt (show FI114 121 101 = x127 from h128); omega) (show au_all (sk (FI 166) ((FI114 121 90).toInt).toNat) = au_all (sk (FI 166) (FI 121 90).toInt.toNat) from (by have := congrArg Int32.toInt (show FI114 121 90 = x124 from h125); exact (by have hR2 := hR; rw [show FI106 166 = FI 166 from (up_row u107 (by decide) ((up_row u63 (by decide) ((up_row u57 (by decide) (rw37))))))] at hR2; rw [hR2, hms.1]; exact xi5_0))) (show (FI114 121 101).toInt - (au_vc (sk (FI 166) ((FI114 121 90).toInt).toNat) : Int) = (FI 121 101).toInt - (au_vc (sk (FI 166) (FI 121 90).toInt.toNat) : Int) from (by have := congrArg Int32.toInt (show FI114 121 101 = x127 from h128); have := congrArg Int32.toInt (show FI114 121 90 = x124 from h125); exact (by have h3 := hV; rw [show FI106 166 = FI 166 from (up_row u107 (by decide) ((up_row u63 (by decide) ((up_row u57 (by decide) (rw37))))))] at h3; have := hms.2.2.2.2.2; omega))) (show au_ok (sk (FI 166) ((FI114 121 90).toInt).toNat) from (by have := congrArg Int32.toInt (show FI114 121 90 = x124 from h125); exact (by have hR2 := hR; rw [show FI106 166 = FI 166 from (up_row u107 (by decide) ((up_row u63 (by decide) ((up_row u57 (by decide) (rw37))))))] at hR2; rw [hR2]; exact hms.2.1))) (show ∀ y r, (sk (FI 166) ((FI114 121 90).toInt).toNat) = y :: r → y < 1 from (by have := congrArg Int32.toInt (show FI114 121 90 = x124 from h125); exact (by have hR2 := hR; rw [show FI106 166 = FI 166 from (up_row u107 (by decide) ((up_row u63 (by decide) ((up_row u57 (by decide) (rw37))))))] at hR2; rw [hR2]; exact hms.2.2.1))) (show FI114 166 = FI 166 from (gf_row f117 (c166 hS) (s166 hS) rfl ((up_row u107 (by decide) ((up_row u63 (by decide) ((up_row u57 (by decide) (rw37))))))))) (by have := congrArg Int32.toInt (show FI114 121 90 = x124 from h125); omega)) ⟨rfl, trivial⟩
  exact hw_L (lp38 (((x21).toInt : Int).toNat + 1) FI11 FL12 (gf_tr ex_rf gf_rf f14 rfl rfl rfl) (gf_tr ex_rf gf_rf f15 rfl rfl rfl) hI13 (show rl_wm (FI11 121 90) (FI11 165) (FI11 166) from rl20) (by have := congrArg Int32.toInt (show FI11 121 90 = x21 from h22); omega) (by have := congrArg Int32.toInt (show FI11 121 101 = x24 from h25); omega) (by have := congrArg Int32.toInt (show FI11 121 90 = x21 from h22); omega) (by have := congrArg Int32.toInt (show FI11 121 101 = x24 from h25); omega) (show au_all (sk (FI 166) ((FI11 121 90).toInt).toNat) = au_all (sk (FI 166) (FI 121 90).toInt.toNat) from (by have := congrArg Int32.toInt (show FI11 121 90 = x21 from h22); exact (by rw [hR]; exact hma.1))) (show (FI11 121 101).toInt - (au_vc (sk (FI 166) ((FI11 121 90).toInt).toNat) : Int) = (FI 121 101).toInt - (au_vc (sk (FI 166) (FI 121 90).toInt.toNat) : Int) from (by have := congrArg Int32.toInt (show FI11 121 101 = x24 from h25); have := congrArg Int32.toInt (show FI11 121 90 = x21 from h22); exact hV)) (show au_ok (sk (FI 166) ((FI11 121 90).toInt).toNat) from (by have := congrArg Int32.toInt (show FI11 121 90 = x21 from h22); exact (by rw [hR]; exact hma.2.1))) (show ∀ y r, (sk (FI 166) ((FI11 121 90).toInt).toNat) = y :: r → y < 1 from (by have := congrArg Int32.toInt (show FI11 121 90 = x21 from h22); exact (by rw [hR]; exact hma.2.2))) (show FI11 166 = FI 166 from (gf_row f14 (c166 hS) (s166 hS) rfl (rfl))) (by have := congrArg Int32.toInt (show FI11 121 90 = x21 from h22); omega)) ⟨rfl, trivial⟩
end
