section
set_option maxHeartbeats 4000000 in
set_option maxRecDepth 100000 in
theorem k_letter2 {sk : xK} {base d n sl : Nat} {SH : Nat → Nat × Nat} {FI : Nat → Nat → Int32} {FL : Nat → Nat → Int64} {FR : Nat → Nat → Option Nat} (hS : h_S n SH) (hF : h_FR FR) (hI : g_I FI) (hR : g_R n SH FR) (a1 : Int32) : hw sk base d none 67 0 [(0, .ref (base + 111)), (1, .int (a1))] [] (n, sl, SH, FI, FL, FR) (h_I (fun r s => s = (n, sl, SH, FI, FL, FR) ∧ (r.toInt = -1 ∨ (0 ≤ (a1).toInt ∧ (a1).toInt < (FI 111 6).toInt)) ∧ (r = g_let SH FI FR a1))) := by
  have rg_a1 := i_rng a1
  obtain ⟨x1, h2⟩ : ∃ y, FI 111 6 = y := ⟨_, rfl⟩
  have h2l := congrArg Int32.toInt h2
  have b3 := gI_111_6 hI; rw [h2] at b3
  refine xw_iloadn (aX7_letter 0 rfl) rfl ?_
  refine hw_iflt (tgt := 21) (aX7_letter 1 rfl) (by decide) rfl (fun cd4 => ?_) (fun cd4 => ?_)
  · refine hw_ic (v := ((-1) : Int32)) (aX7_letter 11 rfl) (by decide) ?_
    refine xw_goto (tgt := 31) (aX7_letter 12 rfl) (by decide) ?_
    refine xw_iret (aX7_letter 17 rfl) rfl rfl ?_
    have e5 : (((-1) : Int32)).toInt = (-1) := (by decide : ((-1) : Int32).toInt = (-1))
    exact ⟨((-1) : Int32), rfl, rfl, (by have : (((-1) : Int32)).toInt = (-1) := (by decide); omega), (by obtain ⟨t9, e9⟩ := Option.ne_none_iff_exists'.mp (hR.2.2.1 111 5 (by unfold g_nn; omega)); refine (g_let_n e9 ?_).symm; have := congrArg Int32.toInt (show FI 111 6 = x1 from h2); skip; omega)⟩
  · refine xw_iloadn (aX7_letter 2 rfl) rfl ?_
    refine hw_aloadn (aX7_letter 3 rfl) rfl ?_
    refine hw_get (v := .int (x1)) (aX7_letter 4 rfl) wf_RX7_34 (c111 hS) (s111 hS) (by decide) (congrArg Value.int (show FI 111 6 = x1 from h2)) ?_
    refine hw_icge (tgt := 21) (aX7_letter 5 rfl) (by decide) rfl rfl (fun cd6 => ?_) (fun cd6 => ?_)
    · refine hw_ic (v := ((-1) : Int32)) (aX7_letter 11 rfl) (by decide) ?_
      refine xw_goto (tgt := 31) (aX7_letter 12 rfl) (by decide) ?_
      refine xw_iret (aX7_letter 17 rfl) rfl rfl ?_
      have e7 : (((-1) : Int32)).toInt = (-1) := (by decide : ((-1) : Int32).toInt = (-1))
      exact ⟨((-1) : Int32), rfl, rfl, (by have : (((-1) : Int32)).toInt = (-1) := (by decide); omega), (by obtain ⟨t9, e9⟩ := Option.ne_none_iff_exists'.mp (hR.2.2.1 111 5 (by unfold g_nn; omega)); refine (g_let_n e9 ?_).symm; have := congrArg Int32.toInt (show FI 111 6 = x1 from h2); skip; omega)⟩
    · refine xw_iloadn (aX7_letter 6 rfl) rfl ?_
      refine hw_aloadn (aX7_letter 7 rfl) rfl ?_
      obtain ⟨o8, h9⟩ : ∃ y, FR 111 5 = y := ⟨_, rfl⟩
      have ht10 : ∀ r, o8 = some r → r < n ∧ own r ∧ SH r = (100, (SH r).2) := fun r e => gR_get hR (c111 hS) (Or.inl (by decide)) (s111 hS) (h9.trans e)
      obtain ⟨r11, rfl⟩ := gR_nn hR (by unfold g_nn; omega) h9
      obtain ⟨lt12, ow13, sh14⟩ := ht10 r11 rfl
      refine hw_get (v := .ref (base + r11)) (aX7_letter 8 rfl) wf_RX7_25 (c111 hS) (s111 hS) (by decide) (congrArg (fun r => va_rf (h_rf base r)) (show FR 111 5 = some r11 from h9)) ?_
      obtain ⟨x15, h16⟩ : ∃ y, Int32.ofNat (SH r11).2 = y := ⟨_, rfl⟩
      have b17 : (x15).toInt ≤ (((SH r11).2 : Nat) : Int) := by rw [← h16]; exact i_len
      have := i_rng x15
      have h16l := congrArg Int32.toInt h16
      refine hw_alen (k := 0) (v := x15) (aX7_letter 9 rfl) lt12 sh14 (by decide) h16 ?_
      refine hw_iclt (tgt := 25) (aX7_letter 10 rfl) (by decide) rfl rfl (fun cd18 => ?_) (fun cd18 => ?_)
      · refine hw_aloadn (aX7_letter 13 rfl) rfl ?_
        refine hw_get (v := .ref (base + r11)) (aX7_letter 14 rfl) wf_RX7_25 (c111 hS) (s111 hS) (by decide) (congrArg (fun r => va_rf (h_rf base r)) (show FR 111 5 = some r11 from h9)) ?_
        refine xw_iloadn (aX7_letter 15 rfl) rfl ?_
        obtain ⟨x19, h20⟩ : ∃ y, FI r11 (a1).toNatClampNeg = y := ⟨_, rfl⟩
        have h20l := congrArg Int32.toInt h20
        have := i_rng x19
        refine hw_iald (v := x19) (aX7_letter 16 rfl) lt12 sh14 (h_in rfl (by omega) (by omega)) (show FI r11 (a1).toNatClampNeg = x19 from h20) ?_
        refine xw_iret (aX7_letter 17 rfl) rfl rfl ?_
        exact ⟨x19, rfl, rfl, (by omega), (by refine (g_let_s (show FR 111 5 = some (r11) from h9) ?_ (by assumption)).symm; have := congrArg Int32.toInt (show FI 111 6 = x1 from h2); skip; refine ⟨by omega, by omega, by omega⟩)⟩
      · refine hw_ic (v := ((-1) : Int32)) (aX7_letter 11 rfl) (by decide) ?_
        refine xw_goto (tgt := 31) (aX7_letter 12 rfl) (by decide) ?_
        refine xw_iret (aX7_letter 17 rfl) rfl rfl ?_
        have e21 : (((-1) : Int32)).toInt = (-1) := (by decide : ((-1) : Int32).toInt = (-1))
        exact ⟨((-1) : Int32), rfl, rfl, (by have : (((-1) : Int32)).toInt = (-1) := (by decide); omega), (by refine (g_let_n (show FR 111 5 = some (r11) from h9) ?_).symm; have := congrArg Int32.toInt (show FI 111 6 = x1 from h2); skip; omega)⟩
set_option maxHeartbeats 4000000 in
set_option maxRecDepth 100000 in
theorem k_isSmall2 {sk : xK} {base d n sl : Nat} {SH : Nat → Nat × Nat} {FI : Nat → Nat → Int32} {FL : Nat → Nat → Int64} {FR : Nat → Nat → Option Nat} (hS : h_S n SH) (hF : h_FR FR) (hI : g_I FI) (hR : g_R n SH FR) (a1 : Int32) : hw sk base d none 68 0 [(0, .int (a1))] [] (n, sl, SH, FI, FL, FR) (h_I (fun r s => s = (n, sl, SH, FI, FL, FR) ∧ (r.toInt = 1 → (97 ≤ (a1).toInt ∧ (a1).toInt ≤ 122)) ∧ (r.toInt = 0 → ((a1).toInt < 97 ∨ 122 < (a1).toInt)) ∧ (0 ≤ r.toInt ∧ r.toInt ≤ 1))) := by
  have rg_a1 := i_rng a1
  refine xw_iloadn (aX7_isSmall 0 rfl) rfl ?_
  refine hw_bp (v := (97 : Int32)) (aX7_isSmall 1 rfl) (by decide) ?_
  refine hw_iclt (tgt := 16) (aX7_isSmall 2 rfl) (by decide) rfl (by decide : (97 : Int32).toInt = 97) (fun cd1 => ?_) (fun cd1 => ?_)
  · refine hw_ic (v := (0 : Int32)) (aX7_isSmall 8 rfl) (by decide) ?_
    refine xw_iret (aX7_isSmall 9 rfl) rfl (by decide) ?_
    have e2 : ((0 : Int32)).toInt = 0 := (by decide : (0 : Int32).toInt = 0)
    exact ⟨(0 : Int32), rfl, rfl, (by have : ((0 : Int32)).toInt = 0 := (by decide); omega), (by have : ((0 : Int32)).toInt = 0 := (by decide); omega), (by have : ((0 : Int32)).toInt = 0 := (by decide); omega)⟩
  · refine xw_iloadn (aX7_isSmall 3 rfl) rfl ?_
    refine hw_bp (v := (122 : Int32)) (aX7_isSmall 4 rfl) (by decide) ?_
    refine hw_icgt (tgt := 16) (aX7_isSmall 5 rfl) (by decide) rfl (by decide : (122 : Int32).toInt = 122) (fun cd3 => ?_) (fun cd3 => ?_)
    · refine hw_ic (v := (0 : Int32)) (aX7_isSmall 8 rfl) (by decide) ?_
      refine xw_iret (aX7_isSmall 9 rfl) rfl (by decide) ?_
      have e4 : ((0 : Int32)).toInt = 0 := (by decide : (0 : Int32).toInt = 0)
      exact ⟨(0 : Int32), rfl, rfl, (by have : ((0 : Int32)).toInt = 0 := (by decide); omega), (by have : ((0 : Int32)).toInt = 0 := (by decide); omega), (by have : ((0 : Int32)).toInt = 0 := (by decide); omega)⟩
    · refine hw_ic (v := (1 : Int32)) (aX7_isSmall 6 rfl) (by decide) ?_
      refine xw_goto (tgt := 17) (aX7_isSmall 7 rfl) (by decide) ?_
      refine xw_iret (aX7_isSmall 9 rfl) rfl (by decide) ?_
      have e5 : ((1 : Int32)).toInt = 1 := (by decide : (1 : Int32).toInt = 1)
      exact ⟨(1 : Int32), rfl, rfl, (by have : ((1 : Int32)).toInt = 1 := (by decide); omega), (by have : ((1 : Int32)).toInt = 1 := (by decide); omega), (by have : ((1 : Int32)).toInt = 1 := (by decide); omega)⟩
set_option maxHeartbeats 4000000 in
set_option maxRecDepth 100000 in
theorem k_isDigit2 {sk : xK} {base d n sl : Nat} {SH : Nat → Nat × Nat} {FI : Nat → Nat → Int32} {FL : Nat → Nat → Int64} {FR : Nat → Nat → Option Nat} (hS : h_S n SH) (hF : h_FR FR) (hI : g_I FI) (hR : g_R n SH FR) (a1 : Int32) : hw sk base d none 69 0 [(0, .int (a1))] [] (n, sl, SH, FI, FL, FR) (h_I (fun r s => s = (n, sl, SH, FI, FL, FR) ∧ (r.toInt = 1 → (48 ≤ (a1).toInt ∧ (a1).toInt ≤ 57)) ∧ (r.toInt = 0 → ((a1).toInt < 48 ∨ 57 < (a1).toInt)) ∧ (0 ≤ r.toInt ∧ r.toInt ≤ 1))) := by
  have rg_a1 := i_rng a1
  refine xw_iloadn (aX7_isDigit 0 rfl) rfl ?_
  refine hw_bp (v := (48 : Int32)) (aX7_isDigit 1 rfl) (by decide) ?_
  refine hw_iclt (tgt := 16) (aX7_isDigit 2 rfl) (by decide) rfl (by decide : (48 : Int32).toInt = 48) (fun cd1 => ?_) (fun cd1 => ?_)
  · refine hw_ic (v := (0 : Int32)) (aX7_isDigit 8 rfl) (by decide) ?_
    refine xw_iret (aX7_isDigit 9 rfl) rfl (by decide) ?_
    have e2 : ((0 : Int32)).toInt = 0 := (by decide : (0 : Int32).toInt = 0)
    exact ⟨(0 : Int32), rfl, rfl, (by have : ((0 : Int32)).toInt = 0 := (by decide); omega), (by have : ((0 : Int32)).toInt = 0 := (by decide); omega), (by have : ((0 : Int32)).toInt = 0 := (by decide); omega)⟩
  · refine xw_iloadn (aX7_isDigit 3 rfl) rfl ?_
    refine hw_bp (v := (57 : Int32)) (aX7_isDigit 4 rfl) (by decide) ?_
    refine hw_icgt (tgt := 16) (aX7_isDigit 5 rfl) (by decide) rfl (by decide : (57 : Int32).toInt = 57) (fun cd3 => ?_) (fun cd3 => ?_)
    · refine hw_ic (v := (0 : Int32)) (aX7_isDigit 8 rfl) (by decide) ?_
      refine xw_iret (aX7_isDigit 9 rfl) rfl (by decide) ?_
      have e4 : ((0 : Int32)).toInt = 0 := (by decide : (0 : Int32).toInt = 0)
      exact ⟨(0 : Int32), rfl, rfl, (by have : ((0 : Int32)).toInt = 0 := (by decide); omega), (by have : ((0 : Int32)).toInt = 0 := (by decide); omega), (by have : ((0 : Int32)).toInt = 0 := (by decide); omega)⟩
    · refine hw_ic (v := (1 : Int32)) (aX7_isDigit 6 rfl) (by decide) ?_
      refine xw_goto (tgt := 17) (aX7_isDigit 7 rfl) (by decide) ?_
      refine xw_iret (aX7_isDigit 9 rfl) rfl (by decide) ?_
      have e5 : ((1 : Int32)).toInt = 1 := (by decide : (1 : Int32).toInt = 1)
      exact ⟨(1 : Int32), rfl, rfl, (by have : ((1 : Int32)).toInt = 1 := (by decide); omega), (by have : ((1 : Int32)).toInt = 1 := (by decide); omega), (by have : ((1 : Int32)).toInt = 1 := (by decide); omega)⟩
def nJ0_coder_7d493 : Nat := 0xac040400a70f00b42a0a00992600b2
theorem bJ0_coder_7d493 : cJ0_coder_7d493.data.toList.map UInt8.toNat = x_un nJ0_coder_7d493 15 := by decide +kernel
def iJ0_coder_7d493 : List (Nat × Jvm.ClassFile.Instr × Nat) := [(3, .ifCond .eq 10, 3), (6, .aload_n 0, 1), (7, .getfield 15, 3), (10, .goto 4, 3), (13, .iconst 1, 1), (14, .ireturn, 1)]
theorem dJ0_coder_7d493 : x_il nJ0_coder_7d493 15 iJ0_coder_7d493 = true := by decide +kernel
theorem aJ0_coder_7d493 (k : Nat) {pc : Nat} {i : Jvm.ClassFile.Instr} {len : Nat} (hk : iJ0_coder_7d493[k]? = some (pc, i, len)) : x_at xMM 271 pc i len yJ0_coder_7d493 1 (some .byte) := ⟨cJ0_coder_7d493, rfl, x_il_ok bJ0_coder_7d493 dJ0_coder_7d493 k hk⟩
theorem aJ0_coder_7d493_0 : x_at xMM 271 0 (.getstatic 38) 3 yJ0_coder_7d493 1 (some .byte) := ⟨cJ0_coder_7d493, rfl, by decide +kernel⟩
set_option maxHeartbeats 4000000 in
set_option maxRecDepth 100000 in
theorem k_J0_coder_7d493 {sk : xK} {base d n sl : Nat} {SH : Nat → Nat × Nat} {FI : Nat → Nat → Int32} {FL : Nat → Nat → Int64} {FR : Nat → Nat → Option Nat} (hS : h_S n SH) (hF : h_FR FR) (hI : g_I FI) (hR : g_R n SH FR) (c : Nat) (hck : c < 11) : hw sk base d none 271 0 [(0, .ref (sk.1 (c)))] [] (n, sl, SH, FI, FL, FR) (h_I (fun r s => s = (n, sl, SH, FI, FL, FR) ∧ (r.toInt = 0))) := by
  refine hw_sone aJ0_coder_7d493_0 (tin_4 (i := 43) rfl rfl) ?_
  refine hw_ifeq (tgt := 13) (aJ0_coder_7d493 0 rfl) (by decide) (by decide : (1 : Int32).toInt = 1) (fun cd1 => ?_) (fun cd1 => ?_)
  · omega
  · refine hw_aloadn (aJ0_coder_7d493 1 rfl) rfl ?_
    refine hw_scod (k := c) (aJ0_coder_7d493 2 rfl) hck (tin_9 (i := 154) rfl rfl) ?_
    refine xw_goto (tgt := 14) (aJ0_coder_7d493 3 rfl) (by decide) ?_
    refine xw_iret (aJ0_coder_7d493 5 rfl) rfl (by decide) ?_
    have e2 : ((0 : Int32)).toInt = 0 := (by decide : (0 : Int32).toInt = 0)
    exact ⟨(0 : Int32), rfl, rfl, (by have : ((0 : Int32)).toInt = 0 := (by decide); omega)⟩
def nJ0_isLatin1_aae02 : Nat := 0xac030400a70407009a0f00b42a0e00992600b2
theorem bJ0_isLatin1_aae02 : cJ0_isLatin1_aae02.data.toList.map UInt8.toNat = x_un nJ0_isLatin1_aae02 19 := by decide +kernel
def iJ0_isLatin1_aae02 : List (Nat × Jvm.ClassFile.Instr × Nat) := [(3, .ifCond .eq 14, 3), (6, .aload_n 0, 1), (7, .getfield 15, 3), (10, .ifCond .ne 7, 3), (13, .iconst 1, 1), (14, .goto 4, 3), (17, .iconst 0, 1), (18, .ireturn, 1)]
theorem dJ0_isLatin1_aae02 : x_il nJ0_isLatin1_aae02 19 iJ0_isLatin1_aae02 = true := by decide +kernel
theorem aJ0_isLatin1_aae02 (k : Nat) {pc : Nat} {i : Jvm.ClassFile.Instr} {len : Nat} (hk : iJ0_isLatin1_aae02[k]? = some (pc, i, len)) : x_at xMM 274 pc i len yJ0_isLatin1_aae02 1 (some .boolean) := ⟨cJ0_isLatin1_aae02, rfl, x_il_ok bJ0_isLatin1_aae02 dJ0_isLatin1_aae02 k hk⟩
theorem aJ0_isLatin1_aae02_0 : x_at xMM 274 0 (.getstatic 38) 3 yJ0_isLatin1_aae02 1 (some .boolean) := ⟨cJ0_isLatin1_aae02, rfl, by decide +kernel⟩
set_option maxHeartbeats 4000000 in
set_option maxRecDepth 100000 in
theorem k_J0_isLatin1_aae02 {sk : xK} {base d n sl : Nat} {SH : Nat → Nat × Nat} {FI : Nat → Nat → Int32} {FL : Nat → Nat → Int64} {FR : Nat → Nat → Option Nat} (hS : h_S n SH) (hF : h_FR FR) (hI : g_I FI) (hR : g_R n SH FR) (c : Nat) (hck : c < 11) : hw sk base d none 274 0 [(0, .ref (sk.1 (c)))] [] (n, sl, SH, FI, FL, FR) (h_I (fun r s => s = (n, sl, SH, FI, FL, FR) ∧ (r.toInt = 1) ∧ (0 ≤ r.toInt ∧ r.toInt ≤ 1))) := by
  refine hw_sone aJ0_isLatin1_aae02_0 (tin_4 (i := 43) rfl rfl) ?_
  refine hw_ifeq (tgt := 17) (aJ0_isLatin1_aae02 0 rfl) (by decide) (by decide : (1 : Int32).toInt = 1) (fun cd1 => ?_) (fun cd1 => ?_)
  · omega
  · refine hw_aloadn (aJ0_isLatin1_aae02 1 rfl) rfl ?_
    refine hw_scod (k := c) (aJ0_isLatin1_aae02 2 rfl) hck (tin_9 (i := 154) rfl rfl) ?_
    refine hw_ifne (tgt := 17) (aJ0_isLatin1_aae02 3 rfl) (by decide) (by decide : (0 : Int32).toInt = 0) (fun cd2 => ?_) (fun cd2 => ?_)
    · omega
    · refine hw_ic (v := (1 : Int32)) (aJ0_isLatin1_aae02 4 rfl) (by decide) ?_
      refine xw_goto (tgt := 18) (aJ0_isLatin1_aae02 5 rfl) (by decide) ?_
      refine xw_iret (aJ0_isLatin1_aae02 7 rfl) rfl (by decide) ?_
      have e3 : ((1 : Int32)).toInt = 1 := (by decide : (1 : Int32).toInt = 1)
      exact ⟨(1 : Int32), rfl, rfl, (by have : ((1 : Int32)).toInt = 1 := (by decide); omega), (by have : ((1 : Int32)).toInt = 1 := (by decide); omega)⟩
def nJ0_length_8abf5 : Nat := 0xac7a4f01b62abe0900b42a
theorem bJ0_length_8abf5 : cJ0_length_8abf5.data.toList.map UInt8.toNat = x_un nJ0_length_8abf5 11 := by decide +kernel
def iJ0_length_8abf5 : List (Nat × Jvm.ClassFile.Instr × Nat) := [(0, .aload_n 0, 1), (1, .getfield 9, 3), (4, .arraylength, 1), (5, .aload_n 0, 1), (6, .invokevirtual 335, 3), (9, .ishr, 1), (10, .ireturn, 1)]
theorem dJ0_length_8abf5 : x_il nJ0_length_8abf5 11 iJ0_length_8abf5 = true := by decide +kernel
theorem aJ0_length_8abf5 (k : Nat) {pc : Nat} {i : Jvm.ClassFile.Instr} {len : Nat} (hk : iJ0_length_8abf5[k]? = some (pc, i, len)) : x_at xMM 275 pc i len yJ0_length_8abf5 1 (some .int) := ⟨cJ0_length_8abf5, rfl, x_il_ok bJ0_length_8abf5 dJ0_length_8abf5 k hk⟩
set_option maxHeartbeats 4000000 in
set_option maxRecDepth 100000 in
theorem k_J0_length_8abf5 {sk : xK} {base d n sl : Nat} {SH : Nat → Nat × Nat} {FI : Nat → Nat → Int32} {FL : Nat → Nat → Int64} {FR : Nat → Nat → Option Nat} (hS : h_S n SH) (hF : h_FR FR) (hI : g_I FI) (hR : g_R n SH FR) (c : Nat) (hck : c < 11) : hw sk base (d + 1) none 275 0 [(0, .ref (sk.1 (c)))] [] (n, sl, SH, FI, FL, FR) (h_I (fun r s => s = (n, sl, SH, FI, FL, FR) ∧ (r.toInt = ((x_strN.getD c 0 : Nat) : Int)) ∧ (0 ≤ r.toInt ∧ r.toInt ≤ 22))) := by
  refine hw_aloadn (aJ0_length_8abf5 0 rfl) rfl ?_
  refine hw_sval (k := c) (aJ0_length_8abf5 1 rfl) hck (tin_9 (i := 153) rfl rfl) ?_
  obtain ⟨x1, h2⟩ : ∃ y, Int32.ofNat (x_strN.getD (c) 0) = y := ⟨_, rfl⟩
  have b3 : (x1).toInt = ((x_strN.getD (c) 0 : Nat) : Int) ∧ x_strN.getD (c) 0 ≤ 22 := by rw [← h2]; exact s_n _ hck
  refine hw_strl (k := c) (v := x1) (aJ0_length_8abf5 2 rfl) hck h2 ?_
  refine hw_aloadn (aJ0_length_8abf5 3 rfl) rfl ?_
  refine hw_callT (k := c) (Bs := []) (rest := [.int (x1)]) (aJ0_length_8abf5 4 rfl) wc_RJ0_335 (by decide) rfl wi_yJ0_coder_7d493 wv_yJ0_coder_7d493 hck rfl rfl rfl (Nat.le_of_ble_eq_true rfl) (Nat.le_of_ble_eq_true rfl) (k_J0_coder_7d493 (d := d) hS hF hI hR (c) hck ) (fun v4 sv5 p6 => ?_)
  obtain ⟨r7, rfl, rfl, t11⟩ := p6
  have rg_r7 := i_rng r7
  show hw sk base _ _ _ _ _ [.int (r7), .int (x1)] _ _
  refine xw_ishr (aJ0_length_8abf5 5 rfl) ?_
  refine hw_tie (A := (x1).toInt) (i_sh0 rfl (by omega)) (fun x14 e15 => ?_)
  refine xw_iret (aJ0_length_8abf5 6 rfl) rfl rfl ?_
  have e16 : (x14).toInt = (x1).toInt := e15
  exact ⟨x14, rfl, rfl, (by omega), (by omega)⟩
def nJ3_checkIndex_8e157 : Nat := 0xac1abf5f00b81b1a2c0a00a11b1a08009b1a
theorem bJ3_checkIndex_8e157 : cJ3_checkIndex_8e157.data.toList.map UInt8.toNat = x_un nJ3_checkIndex_8e157 18 := by decide +kernel
def iJ3_checkIndex_8e157 : List (Nat × Jvm.ClassFile.Instr × Nat) := [(0, .iload_n 0, 1), (1, .ifCond .lt 8, 3), (4, .iload_n 0, 1), (5, .iload_n 1, 1), (6, .if_icmp .lt 10, 3), (9, .aload_n 2, 1), (10, .iload_n 0, 1), (11, .iload_n 1, 1), (12, .invokestatic 95, 3), (16, .iload_n 0, 1), (17, .ireturn, 1)]
theorem dJ3_checkIndex_8e157 : x_il nJ3_checkIndex_8e157 18 iJ3_checkIndex_8e157 = true := by decide +kernel
theorem aJ3_checkIndex_8e157 (k : Nat) {pc : Nat} {i : Jvm.ClassFile.Instr} {len : Nat} (hk : iJ3_checkIndex_8e157[k]? = some (pc, i, len)) : x_at xMM 293 pc i len yJ3_checkIndex_8e157 3 (some .int) := ⟨cJ3_checkIndex_8e157, rfl, x_il_ok bJ3_checkIndex_8e157 dJ3_checkIndex_8e157 k hk⟩
set_option maxHeartbeats 4000000 in
set_option maxRecDepth 100000 in
theorem k_J3_checkIndex_8e157 {sk : xK} {base d n sl : Nat} {SH : Nat → Nat × Nat} {FI : Nat → Nat → Int32} {FL : Nat → Nat → Int64} {FR : Nat → Nat → Option Nat} (hS : h_S n SH) (hF : h_FR FR) (hI : g_I FI) (hR : g_R n SH FR) (a1 : Int32) (a2 : Int32) (g0 : 0 ≤ (a1).toInt ∧ (a1).toInt < (a2).toInt) : hw sk base d none 293 0 [(0, .int (a1)), (1, .int (a2)), (2, va_rf sk.2.2)] [] (n, sl, SH, FI, FL, FR) (h_I (fun r s => s = (n, sl, SH, FI, FL, FR))) := by
  have rg_a1 := i_rng a1
  have rg_a2 := i_rng a2
  refine xw_iloadn (aJ3_checkIndex_8e157 0 rfl) rfl ?_
  refine hw_iflt (tgt := 9) (aJ3_checkIndex_8e157 1 rfl) (by decide) rfl (fun cd1 => ?_) (fun cd1 => ?_)
  · omega
  · refine xw_iloadn (aJ3_checkIndex_8e157 2 rfl) rfl ?_
    refine xw_iloadn (aJ3_checkIndex_8e157 3 rfl) rfl ?_
    refine hw_iclt (tgt := 16) (aJ3_checkIndex_8e157 4 rfl) (by decide) rfl rfl (fun cd2 => ?_) (fun cd2 => ?_)
    · refine xw_iloadn (aJ3_checkIndex_8e157 9 rfl) rfl ?_
      refine xw_iret (aJ3_checkIndex_8e157 10 rfl) rfl rfl ?_
      exact ⟨a1, rfl, rfl⟩
    · omega
def nJ0_checkIndex_df160 : Nat := 0xb1572304b81d04b21b1a
theorem bJ0_checkIndex_df160 : cJ0_checkIndex_df160.data.toList.map UInt8.toNat = x_un nJ0_checkIndex_df160 10 := by decide +kernel
def iJ0_checkIndex_df160 : List (Nat × Jvm.ClassFile.Instr × Nat) := [(0, .iload_n 0, 1), (1, .iload_n 1, 1), (5, .invokestatic 1059, 3), (8, .pop, 1), (9, .return_, 1)]
theorem dJ0_checkIndex_df160 : x_il nJ0_checkIndex_df160 10 iJ0_checkIndex_df160 = true := by decide +kernel
theorem aJ0_checkIndex_df160 (k : Nat) {pc : Nat} {i : Jvm.ClassFile.Instr} {len : Nat} (hk : iJ0_checkIndex_df160[k]? = some (pc, i, len)) : x_at xMM 270 pc i len yJ0_checkIndex_df160 2 none := ⟨cJ0_checkIndex_df160, rfl, x_il_ok bJ0_checkIndex_df160 dJ0_checkIndex_df160 k hk⟩
theorem aJ0_checkIndex_df160_2 : x_at xMM 270 2 (.getstatic 1053) 3 yJ0_checkIndex_df160 2 none := ⟨cJ0_checkIndex_df160, rfl, by decide +kernel⟩
set_option maxHeartbeats 4000000 in
set_option maxRecDepth 100000 in
theorem k_J0_checkIndex_df160 {sk : xK} {base d n sl : Nat} {SH : Nat → Nat × Nat} {FI : Nat → Nat → Int32} {FL : Nat → Nat → Int64} {FR : Nat → Nat → Option Nat} (hS : h_S n SH) (hF : h_FR FR) (hI : g_I FI) (hR : g_R n SH FR) (a1 : Int32) (a2 : Int32) (g0 : 0 ≤ (a1).toInt ∧ (a1).toInt < (a2).toInt) : hw sk base (d + 1) none 270 0 [(0, .int (a1)), (1, .int (a2))] [] (n, sl, SH, FI, FL, FR) (h_V (fun s => s = (n, sl, SH, FI, FL, FR))) := by
  have rg_a1 := i_rng a1
  have rg_a2 := i_rng a2
  refine xw_iloadn (aJ0_checkIndex_df160 0 rfl) rfl ?_
  refine xw_iloadn (aJ0_checkIndex_df160 1 rfl) rfl ?_
  refine hw_sfmt aJ0_checkIndex_df160_2 (tin_4 (i := 59) rfl rfl) ?_
  refine hw_callSo (As := [.int (a1), .int (a2), va_rf sk.2.2]) (rest := []) (L2 := [(0, .int (a1)), (1, .int (a2)), (2, va_rf sk.2.2)]) (aJ0_checkIndex_df160 2 rfl) wc_RJ0_1059 (by decide) rfl wt_yJ3_checkIndex_8e157 rfl rfl (Nat.le_of_ble_eq_true rfl) (by simp [lg_sl, va_cat, va_ci, va_cl, va_cr, va_cn]) (by simp [lv_args, va_cat, va_ci, va_cl, va_cr, va_cn]) (k_J3_checkIndex_8e157 (d := d) hS hF hI hR (a1) (a2) (by omega)) (fun v1 sv2 p3 => ?_)
  obtain ⟨r4, rfl, rfl⟩ := p3
  have rg_r4 := i_rng r4
  show hw sk base _ _ _ _ _ [.int (r4)] _ _
  refine xw_pop (aJ0_checkIndex_df160 3 rfl) rfl ?_
  refine xw_vret (aJ0_checkIndex_df160 4 rfl) rfl ?_
  exact ⟨rfl, rfl⟩
def nJ1_charAt_3b067 : Nat := 0xac927eff0011331b2a0900b8be2a1b
theorem bJ1_charAt_3b067 : cJ1_charAt_3b067.data.toList.map UInt8.toNat = x_un nJ1_charAt_3b067 15 := by decide +kernel
def iJ1_charAt_3b067 : List (Nat × Jvm.ClassFile.Instr × Nat) := [(0, .iload_n 1, 1), (1, .aload_n 0, 1), (2, .arraylength, 1), (3, .invokestatic 9, 3), (6, .aload_n 0, 1), (7, .iload_n 1, 1), (8, .baload, 1), (9, .sipush 255, 3), (12, .iand, 1), (13, .i2c, 1), (14, .ireturn, 1)]
theorem dJ1_charAt_3b067 : x_il nJ1_charAt_3b067 15 iJ1_charAt_3b067 = true := by decide +kernel
theorem aJ1_charAt_3b067 (k : Nat) {pc : Nat} {i : Jvm.ClassFile.Instr} {len : Nat} (hk : iJ1_charAt_3b067[k]? = some (pc, i, len)) : x_at xMM 280 pc i len yJ1_charAt_3b067 2 (some .char) := ⟨cJ1_charAt_3b067, rfl, x_il_ok bJ1_charAt_3b067 dJ1_charAt_3b067 k hk⟩
set_option maxHeartbeats 4000000 in
set_option maxRecDepth 100000 in
theorem k_J1_charAt_3b067 {sk : xK} {base d n sl : Nat} {SH : Nat → Nat × Nat} {FI : Nat → Nat → Int32} {FL : Nat → Nat → Int64} {FR : Nat → Nat → Option Nat} (hS : h_S n SH) (hF : h_FR FR) (hI : g_I FI) (hR : g_R n SH FR) (a1 : Nat) (ha1k : a1 < 11) (a2 : Int32) (g0 : 0 ≤ (a2).toInt ∧ (a2).toInt < ((x_strN.getD a1 0 : Nat) : Int)) : hw sk base (d + 2) none 280 0 [(0, .ref (sk.2.1 (a1))), (1, .int (a2))] [] (n, sl, SH, FI, FL, FR) (h_I (fun r s => s = (n, sl, SH, FI, FL, FR) ∧ (narrow .char (.int r) = .int r))) := by
  have rg_a2 := i_rng a2
  refine xw_iloadn (aJ1_charAt_3b067 0 rfl) rfl ?_
  refine hw_aloadn (aJ1_charAt_3b067 1 rfl) rfl ?_
  obtain ⟨x1, h2⟩ : ∃ y, Int32.ofNat (x_strN.getD (a1) 0) = y := ⟨_, rfl⟩
  have b3 : (x1).toInt = ((x_strN.getD (a1) 0 : Nat) : Int) ∧ x_strN.getD (a1) 0 ≤ 22 := by rw [← h2]; exact s_n _ ha1k
  refine hw_strl (k := a1) (v := x1) (aJ1_charAt_3b067 2 rfl) ha1k h2 ?_
  refine hw_callS (As := [.int (a2), .int (x1)]) (rest := []) (aJ1_charAt_3b067 3 rfl) wc_RJ1_9 (by decide) rfl wt_yJ0_checkIndex_df160 rfl rfl (Nat.le_of_ble_eq_true rfl) (Nat.le_of_ble_eq_true rfl) (k_J0_checkIndex_df160 (d := d) hS hF hI hR (a2) (x1) (by omega)) (fun v4 sv5 p6 => ?_)
  obtain ⟨rfl, rfl⟩ := p6
  show hw sk base _ _ _ _ _ [] _ _
  refine hw_aloadn (aJ1_charAt_3b067 4 rfl) rfl ?_
  refine xw_iloadn (aJ1_charAt_3b067 5 rfl) rfl ?_
  refine hw_sbld (k := a1) (aJ1_charAt_3b067 6 rfl) ha1k (h_in rfl (by omega) (by omega)) rfl ?_
  refine hw_ti (fun x13 => ?_)
  have b14 := i_rng x13
  refine hw_sp (v := (255 : Int32)) (aJ1_charAt_3b067 7 rfl) (by decide) ?_
  refine xw_iand (aJ1_charAt_3b067 8 rfl) ?_
  refine hw_tib (lo := 0) (hi := 255) (i_and (x := x13) (m := (255 : Int32)) (M := 255) (by decide) (by decide)) (fun x15 b16 => ?_)
  refine xw_i2c (aJ1_charAt_3b067 9 rfl) ?_
  refine hw_tiP (P := fun x => narrow .char (.int x) = .int x) (pk_nc _) (fun x17 h18 => ?_)
  have b19 := i_rng x17
  refine xw_iret (aJ1_charAt_3b067 10 rfl) rfl h18 ?_
  exact ⟨x17, rfl, rfl, (by exact h18)⟩
def nJ0_charAt_5068e : Nat := 0xacf201b81b0900b42aacef01b81b0900b42a0c0099ec01b62a
theorem bJ0_charAt_5068e : cJ0_charAt_5068e.data.toList.map UInt8.toNat = x_un nJ0_charAt_5068e 25 := by decide +kernel
def iJ0_charAt_5068e : List (Nat × Jvm.ClassFile.Instr × Nat) := [(0, .aload_n 0, 1), (1, .invokevirtual 492, 3), (4, .ifCond .eq 12, 3), (7, .aload_n 0, 1), (8, .getfield 9, 3), (11, .iload_n 1, 1), (12, .invokestatic 495, 3), (15, .ireturn, 1), (16, .aload_n 0, 1), (17, .getfield 9, 3), (20, .iload_n 1, 1), (21, .invokestatic 498, 3), (24, .ireturn, 1)]
theorem dJ0_charAt_5068e : x_il nJ0_charAt_5068e 25 iJ0_charAt_5068e = true := by decide +kernel
theorem aJ0_charAt_5068e (k : Nat) {pc : Nat} {i : Jvm.ClassFile.Instr} {len : Nat} (hk : iJ0_charAt_5068e[k]? = some (pc, i, len)) : x_at xMM 268 pc i len yJ0_charAt_5068e 2 (some .char) := ⟨cJ0_charAt_5068e, rfl, x_il_ok bJ0_charAt_5068e dJ0_charAt_5068e k hk⟩
set_option maxHeartbeats 4000000 in
set_option maxRecDepth 100000 in
theorem k_J0_charAt_5068e {sk : xK} {base d n sl : Nat} {SH : Nat → Nat × Nat} {FI : Nat → Nat → Int32} {FL : Nat → Nat → Int64} {FR : Nat → Nat → Option Nat} (hS : h_S n SH) (hF : h_FR FR) (hI : g_I FI) (hR : g_R n SH FR) (c : Nat) (hck : c < 11) (a1 : Int32) (g0 : 0 ≤ (a1).toInt ∧ (a1).toInt < ((x_strN.getD c 0 : Nat) : Int)) : hw sk base (d + 3) none 268 0 [(0, .ref (sk.1 (c))), (1, .int (a1))] [] (n, sl, SH, FI, FL, FR) (h_I (fun r s => s = (n, sl, SH, FI, FL, FR))) := by
  have rg_a1 := i_rng a1
  refine hw_aloadn (aJ0_charAt_5068e 0 rfl) rfl ?_
  refine hw_callT (k := c) (Bs := []) (rest := []) (aJ0_charAt_5068e 1 rfl) wc_RJ0_492 (by decide) rfl wi_yJ0_isLatin1_aae02 wv_yJ0_isLatin1_aae02 hck rfl rfl rfl (Nat.le_of_ble_eq_true rfl) (Nat.le_of_ble_eq_true rfl) (k_J0_isLatin1_aae02 (d := d + 2) hS hF hI hR (c) hck ) (fun v1 sv2 p3 => ?_)
  obtain ⟨r4, rfl, rfl, t8, t9⟩ := p3
  show hw sk base _ _ _ _ _ [.int (r4)] _ _
  refine hw_ifeq (tgt := 16) (aJ0_charAt_5068e 2 rfl) (by decide) rfl (fun cd12 => ?_) (fun cd12 => ?_)
  · omega
  · refine hw_aloadn (aJ0_charAt_5068e 3 rfl) rfl ?_
    refine hw_sval (k := c) (aJ0_charAt_5068e 4 rfl) hck (tin_9 (i := 153) rfl rfl) ?_
    refine xw_iloadn (aJ0_charAt_5068e 5 rfl) rfl ?_
    refine hw_callS (As := [.ref (sk.2.1 (c)), .int (a1)]) (rest := []) (aJ0_charAt_5068e 6 rfl) wc_RJ0_495 (by decide) rfl wt_yJ1_charAt_3b067 rfl rfl (Nat.le_of_ble_eq_true rfl) (Nat.le_of_ble_eq_true rfl) (k_J1_charAt_3b067 (d := d) hS hF hI hR (c) hck (a1) (by omega)) (fun v13 sv14 p15 => ?_)
    obtain ⟨r16, rfl, rfl, u20⟩ := p15
    have rg_r16 := i_rng r16
    show hw sk base _ _ _ _ _ [.int (r16)] _ _
    refine xw_iret (aJ0_charAt_5068e 7 rfl) rfl u20 ?_
    exact ⟨r16, rfl, rfl⟩
def nJ1_canEncode_9a6ad : Nat := 0xac030400a7040700a3ff00111a0e009b1a
theorem bJ1_canEncode_9a6ad : cJ1_canEncode_9a6ad.data.toList.map UInt8.toNat = x_un nJ1_canEncode_9a6ad 17 := by decide +kernel
def iJ1_canEncode_9a6ad : List (Nat × Jvm.ClassFile.Instr × Nat) := [(0, .iload_n 0, 1), (1, .ifCond .lt 14, 3), (4, .iload_n 0, 1), (5, .sipush 255, 3), (8, .if_icmp .gt 7, 3), (11, .iconst 1, 1), (12, .goto 4, 3), (15, .iconst 0, 1), (16, .ireturn, 1)]
theorem dJ1_canEncode_9a6ad : x_il nJ1_canEncode_9a6ad 17 iJ1_canEncode_9a6ad = true := by decide +kernel
theorem aJ1_canEncode_9a6ad (k : Nat) {pc : Nat} {i : Jvm.ClassFile.Instr} {len : Nat} (hk : iJ1_canEncode_9a6ad[k]? = some (pc, i, len)) : x_at xMM 279 pc i len yJ1_canEncode_9a6ad 1 (some .boolean) := ⟨cJ1_canEncode_9a6ad, rfl, x_il_ok bJ1_canEncode_9a6ad dJ1_canEncode_9a6ad k hk⟩
set_option maxHeartbeats 4000000 in
set_option maxRecDepth 100000 in
theorem k_J1_canEncode_9a6ad {sk : xK} {base d n sl : Nat} {SH : Nat → Nat × Nat} {FI : Nat → Nat → Int32} {FL : Nat → Nat → Int64} {FR : Nat → Nat → Option Nat} (hS : h_S n SH) (hF : h_FR FR) (hI : g_I FI) (hR : g_R n SH FR) (a1 : Int32) : hw sk base d none 279 0 [(0, .int (a1))] [] (n, sl, SH, FI, FL, FR) (h_I (fun r s => s = (n, sl, SH, FI, FL, FR) ∧ (0 ≤ r.toInt ∧ r.toInt ≤ 1))) := by
  have rg_a1 := i_rng a1
  refine xw_iloadn (aJ1_canEncode_9a6ad 0 rfl) rfl ?_
  refine hw_iflt (tgt := 15) (aJ1_canEncode_9a6ad 1 rfl) (by decide) rfl (fun cd1 => ?_) (fun cd1 => ?_)
  · refine hw_ic (v := (0 : Int32)) (aJ1_canEncode_9a6ad 7 rfl) (by decide) ?_
    refine xw_iret (aJ1_canEncode_9a6ad 8 rfl) rfl (by decide) ?_
    have e2 : ((0 : Int32)).toInt = 0 := (by decide : (0 : Int32).toInt = 0)
    exact ⟨(0 : Int32), rfl, rfl, (by have : ((0 : Int32)).toInt = 0 := (by decide); omega)⟩
  · refine xw_iloadn (aJ1_canEncode_9a6ad 2 rfl) rfl ?_
    refine hw_sp (v := (255 : Int32)) (aJ1_canEncode_9a6ad 3 rfl) (by decide) ?_
    refine hw_icgt (tgt := 15) (aJ1_canEncode_9a6ad 4 rfl) (by decide) rfl (by decide : (255 : Int32).toInt = 255) (fun cd3 => ?_) (fun cd3 => ?_)
    · refine hw_ic (v := (0 : Int32)) (aJ1_canEncode_9a6ad 7 rfl) (by decide) ?_
      refine xw_iret (aJ1_canEncode_9a6ad 8 rfl) rfl (by decide) ?_
      have e4 : ((0 : Int32)).toInt = 0 := (by decide : (0 : Int32).toInt = 0)
      exact ⟨(0 : Int32), rfl, rfl, (by have : ((0 : Int32)).toInt = 0 := (by decide); omega)⟩
    · refine hw_ic (v := (1 : Int32)) (aJ1_canEncode_9a6ad 5 rfl) (by decide) ?_
      refine xw_goto (tgt := 16) (aJ1_canEncode_9a6ad 6 rfl) (by decide) ?_
      refine xw_iret (aJ1_canEncode_9a6ad 8 rfl) rfl (by decide) ?_
      have e5 : ((1 : Int32)).toInt = 1 := (by decide : (1 : Int32).toInt = 1)
      exact ⟨(1 : Int32), rfl, rfl, (by have : ((1 : Int32)).toInt = 1 := (by decide); omega)⟩
def nJ1_indexOfChar_4cfef : Nat := 0xac02ebffa7010584ac05150600a004153305152a1500a21d051505361c0436911b
theorem bJ1_indexOfChar_4cfef : cJ1_indexOfChar_4cfef.data.toList.map UInt8.toNat = x_un nJ1_indexOfChar_4cfef 33 := by decide +kernel
def iJ1_indexOfChar_4cfef : List (Nat × Jvm.ClassFile.Instr × Nat) := [(0, .iload_n 1, 1), (2, .istore 4, 2), (4, .iload_n 2, 1), (5, .istore 5, 2), (7, .iload 5, 2), (9, .iload_n 3, 1), (10, .if_icmp .ge 21, 3), (13, .aload_n 0, 1), (14, .iload 5, 2), (16, .baload, 1), (17, .iload 4, 2), (19, .if_icmp .ne 6, 3), (22, .iload 5, 2), (24, .ireturn, 1), (25, .iinc 5 1, 3), (28, .goto (-21), 3), (31, .iconst (-1), 1), (32, .ireturn, 1)]
theorem dJ1_indexOfChar_4cfef : x_il nJ1_indexOfChar_4cfef 33 iJ1_indexOfChar_4cfef = true := by decide +kernel
theorem aJ1_indexOfChar_4cfef (k : Nat) {pc : Nat} {i : Jvm.ClassFile.Instr} {len : Nat} (hk : iJ1_indexOfChar_4cfef[k]? = some (pc, i, len)) : x_at xMM 281 pc i len yJ1_indexOfChar_4cfef 6 (some .int) := ⟨cJ1_indexOfChar_4cfef, rfl, x_il_ok bJ1_indexOfChar_4cfef dJ1_indexOfChar_4cfef k hk⟩
theorem aJ1_indexOfChar_4cfef_1 : x_at xMM 281 1 (.i2b) 1 yJ1_indexOfChar_4cfef 6 (some .int) := ⟨cJ1_indexOfChar_4cfef, rfl, by decide +kernel⟩
set_option maxHeartbeats 4000000 in
set_option maxRecDepth 100000 in
theorem k_J1_indexOfChar_4cfef {sk : xK} {base d n sl : Nat} {SH : Nat → Nat × Nat} {FI : Nat → Nat → Int32} {FL : Nat → Nat → Int64} {FR : Nat → Nat → Option Nat} (hS : h_S n SH) (hF : h_FR FR) (hI : g_I FI) (hR : g_R n SH FR) (a1 : Nat) (ha1k : a1 < 11) (a2 : Int32) (a3 : Int32) (a4 : Int32) (g0 : 0 ≤ (a3).toInt) (g1 : (a4).toInt ≤ 22 ∧ (a4).toInt ≤ ((x_strN.getD a1 0 : Nat) : Int)) (g2 : 0 ≤ (a3).toInt ∧ (a3).toInt ≤ 2147483647) : hw sk base d none 281 0 [(0, .ref (sk.2.1 (a1))), (1, .int (a2)), (2, .int (a3)), (3, .int (a4))] [] (n, sl, SH, FI, FL, FR) (h_I (fun r s => s = (n, sl, SH, FI, FL, FR))) := by
  have rg_a2 := i_rng a2
  have rg_a3 := i_rng a3
  have rg_a4 := i_rng a4
  refine xw_iloadn (aJ1_indexOfChar_4cfef 0 rfl) rfl ?_
  refine hw_i2b aJ1_indexOfChar_4cfef_1 rfl ?_
  refine hw_ti (fun x1 => ?_)
  have b2 := i_rng x1
  refine xw_istore (L2 := [(4, .int (x1)), (0, .ref (sk.2.1 (a1))), (1, .int (a2)), (2, .int (a3)), (3, .int (a4))]) (aJ1_indexOfChar_4cfef 1 rfl) (by decide) rfl ?_
  refine xw_iloadn (aJ1_indexOfChar_4cfef 2 rfl) rfl ?_
  refine xw_istore (L2 := [(5, .int (a3)), (4, .int (x1)), (0, .ref (sk.2.1 (a1))), (1, .int (a2)), (2, .int (a3)), (3, .int (a4))]) (aJ1_indexOfChar_4cfef 3 rfl) (by decide) rfl ?_
  have lp4 : ∀ (m : Nat) (y5 : Int32), (0 ≤ (y5).toInt ∧ (y5).toInt ≤ 2147483647) → 2147483648 - (y5).toInt < m → hw sk base d none 281 7 [(5, .int (y5)), (4, .int (x1)), (0, .ref (sk.2.1 (a1))), (3, .int (a4))] [] (n, sl, SH, FI, FL, FR) (h_I (fun r s => s = (n, sl, SH, FI, FL, FR))) := by
    intro m
    induction m with
    | zero => intro y5 iv3 hm; omega
    | succ m ih =>
      intro y5 iv3 hm
      have rg_y5 := i_rng y5
      refine xw_iload (aJ1_indexOfChar_4cfef 4 rfl) rfl ?_
      refine xw_iloadn (aJ1_indexOfChar_4cfef 5 rfl) rfl ?_
      refine hw_icge (tgt := 31) (aJ1_indexOfChar_4cfef 6 rfl) (by decide) rfl rfl (fun cd5 => ?_) (fun cd5 => ?_)
      · refine hw_ic (v := ((-1) : Int32)) (aJ1_indexOfChar_4cfef 16 rfl) (by decide) ?_
        refine xw_iret (aJ1_indexOfChar_4cfef 17 rfl) rfl rfl ?_
        have e6 : (((-1) : Int32)).toInt = (-1) := (by decide : ((-1) : Int32).toInt = (-1))
        exact ⟨((-1) : Int32), rfl, rfl⟩
      · refine hw_aloadn (aJ1_indexOfChar_4cfef 7 rfl) rfl ?_
        refine xw_iload (aJ1_indexOfChar_4cfef 8 rfl) rfl ?_
        refine hw_sbld (k := a1) (aJ1_indexOfChar_4cfef 9 rfl) ha1k (h_in rfl (by omega) (by omega)) rfl ?_
        refine hw_ti (fun x7 => ?_)
        have b8 := i_rng x7
        refine xw_iload (aJ1_indexOfChar_4cfef 10 rfl) rfl ?_
        refine hw_icne (tgt := 25) (aJ1_indexOfChar_4cfef 11 rfl) (by decide) rfl rfl (fun cd9 => ?_) (fun cd9 => ?_)
        · obtain ⟨x10, q12⟩ : ∃ y : Int32, (y5) + Int32.ofInt (1) = y := ⟨_, rfl⟩
          have e11 : (x10).toInt = (y5).toInt + (1) := by rw [← q12]; exact i_add rfl (by decide) (by omega) (by omega)
          refine xw_iinc (L2 := [(5, .int (x10)), (4, .int (x1)), (0, .ref (sk.2.1 (a1))), (3, .int (a4))]) (aJ1_indexOfChar_4cfef 14 rfl) rfl (by decide) (by rw [q12]; rfl) ?_
          refine xw_goto (tgt := 7) (aJ1_indexOfChar_4cfef 15 rfl) (by decide) ?_
          exact hw_L (ih (x10) (by have := (e11 : (x10).toInt = (y5).toInt + (1)); omega) (by have := (e11 : (x10).toInt = (y5).toInt + (1)); omega)) ⟨rfl, rfl, rfl, rfl, trivial⟩
        · refine xw_iload (aJ1_indexOfChar_4cfef 12 rfl) rfl ?_
          refine xw_iret (aJ1_indexOfChar_4cfef 13 rfl) rfl rfl ?_
          exact ⟨y5, rfl, rfl⟩
  exact hw_L (lp4 ((2147483648 - (a3).toInt : Int).toNat + 1) (a3) (by omega) (by omega)) ⟨rfl, rfl, rfl, rfl, trivial⟩
def nJ1_indexOf_4cfef : Nat := 0xac5f00b81d1c1b2aac020500a11d1c3e2600b8be2a1d3d5c00b8031cac0205009a5800b81b
theorem bJ1_indexOf_4cfef : cJ1_indexOf_4cfef.data.toList.map UInt8.toNat = x_un nJ1_indexOf_4cfef 37 := by decide +kernel
def iJ1_indexOf_4cfef : List (Nat × Jvm.ClassFile.Instr × Nat) := [(0, .iload_n 1, 1), (1, .invokestatic 88, 3), (4, .ifCond .ne 5, 3), (7, .iconst (-1), 1), (8, .ireturn, 1), (9, .iload_n 2, 1), (10, .iconst 0, 1), (11, .invokestatic 92, 3), (14, .istore_n 2, 1), (15, .iload_n 3, 1), (16, .aload_n 0, 1), (17, .arraylength, 1), (18, .invokestatic 38, 3), (21, .istore_n 3, 1), (22, .iload_n 2, 1), (23, .iload_n 3, 1), (24, .if_icmp .lt 5, 3), (27, .iconst (-1), 1), (28, .ireturn, 1), (29, .aload_n 0, 1), (30, .iload_n 1, 1), (31, .iload_n 2, 1), (32, .iload_n 3, 1), (33, .invokestatic 95, 3), (36, .ireturn, 1)]
theorem dJ1_indexOf_4cfef : x_il nJ1_indexOf_4cfef 37 iJ1_indexOf_4cfef = true := by decide +kernel
theorem aJ1_indexOf_4cfef (k : Nat) {pc : Nat} {i : Jvm.ClassFile.Instr} {len : Nat} (hk : iJ1_indexOf_4cfef[k]? = some (pc, i, len)) : x_at xMM 282 pc i len yJ1_indexOf_4cfef 4 (some .int) := ⟨cJ1_indexOf_4cfef, rfl, x_il_ok bJ1_indexOf_4cfef dJ1_indexOf_4cfef k hk⟩
set_option maxHeartbeats 4000000 in
set_option maxRecDepth 100000 in
theorem k_J1_indexOf_4cfef {sk : xK} {base d n sl : Nat} {SH : Nat → Nat × Nat} {FI : Nat → Nat → Int32} {FL : Nat → Nat → Int64} {FR : Nat → Nat → Option Nat} (hS : h_S n SH) (hF : h_FR FR) (hI : g_I FI) (hR : g_R n SH FR) (a1 : Nat) (ha1k : a1 < 11) (a2 : Int32) (a3 : Int32) (a4 : Int32) (g0 : 0 ≤ (a3).toInt) (g1 : (a4).toInt ≤ 22) : hw sk base (d + 1) none 282 0 [(0, .ref (sk.2.1 (a1))), (1, .int (a2)), (2, .int (a3)), (3, .int (a4))] [] (n, sl, SH, FI, FL, FR) (h_I (fun r s => s = (n, sl, SH, FI, FL, FR))) := by
  have rg_a2 := i_rng a2
  have rg_a3 := i_rng a3
  have rg_a4 := i_rng a4
  refine xw_iloadn (aJ1_indexOf_4cfef 0 rfl) rfl ?_
  refine hw_callS (As := [.int (a2)]) (rest := []) (aJ1_indexOf_4cfef 1 rfl) wc_RJ1_88 (by decide) rfl wt_yJ1_canEncode_9a6ad rfl rfl (Nat.le_of_ble_eq_true rfl) (Nat.le_of_ble_eq_true rfl) (k_J1_canEncode_9a6ad (d := d) hS hF hI hR (a2) ) (fun v1 sv2 p3 => ?_)
  obtain ⟨r4, rfl, rfl, t8⟩ := p3
  show hw sk base _ _ _ _ _ [.int (r4)] _ _
  refine hw_ifne (tgt := 9) (aJ1_indexOf_4cfef 2 rfl) (by decide) rfl (fun cd11 => ?_) (fun cd11 => ?_)
  · refine xw_iloadn (aJ1_indexOf_4cfef 5 rfl) rfl ?_
    refine hw_ic (v := (0 : Int32)) (aJ1_indexOf_4cfef 6 rfl) (by decide) ?_
    refine hw_callS (As := [.int (a3), .int ((0 : Int32))]) (rest := []) (aJ1_indexOf_4cfef 7 rfl) wc_RJ1_92 (by decide) rfl wt_yJ9_max_7cf53 rfl rfl (Nat.le_of_ble_eq_true rfl) (Nat.le_of_ble_eq_true rfl) (k_J9_max_7cf53 (d := d) hS hF hI hR (a3) ((0 : Int32)) ) (fun v12 sv13 p14 => ?_)
    have := ((by decide : (0 : Int32).toInt = 0) : ((0 : Int32)).toInt = 0)
    have := ((by decide : (0 : Int32).toInt = 0) : ((0 : Int32)).toInt = 0)
    obtain ⟨r15, rfl, rfl, t19, t20⟩ := p14
    have rg_r15 := i_rng r15
    show hw sk base _ _ _ _ _ [.int (r15)] _ _
    have e23 : 0 ≤ (r15).toInt ∧ (r15).toInt ≤ 2147483647 := by omega
    refine xw_istoren (L2 := [(2, .int (r15)), (0, .ref (sk.2.1 (a1))), (1, .int (a2)), (3, .int (a4))]) (aJ1_indexOf_4cfef 8 rfl) (by decide) rfl ?_
    refine xw_iloadn (aJ1_indexOf_4cfef 9 rfl) rfl ?_
    refine hw_aloadn (aJ1_indexOf_4cfef 10 rfl) rfl ?_
    obtain ⟨x24, h25⟩ : ∃ y, Int32.ofNat (x_strN.getD (a1) 0) = y := ⟨_, rfl⟩
    have b26 : (x24).toInt = ((x_strN.getD (a1) 0 : Nat) : Int) ∧ x_strN.getD (a1) 0 ≤ 22 := by rw [← h25]; exact s_n _ ha1k
    refine hw_strl (k := a1) (v := x24) (aJ1_indexOf_4cfef 11 rfl) ha1k h25 ?_
    refine hw_callS (As := [.int (a4), .int (x24)]) (rest := []) (aJ1_indexOf_4cfef 12 rfl) wc_RJ1_38 (by decide) rfl wt_yJ9_min_7cf53 rfl rfl (Nat.le_of_ble_eq_true rfl) (Nat.le_of_ble_eq_true rfl) (k_J9_min_7cf53 (d := d) hS hF hI hR (a4) (x24) ) (fun v27 sv28 p29 => ?_)
    obtain ⟨r30, rfl, rfl, t34, t35⟩ := p29
    have rg_r30 := i_rng r30
    show hw sk base _ _ _ _ _ [.int (r30)] _ _
    have e38 : -2147483648 ≤ (r30).toInt ∧ (r30).toInt ≤ 22 := by omega
    refine xw_istoren (L2 := [(3, .int (r30)), (2, .int (r15)), (0, .ref (sk.2.1 (a1))), (1, .int (a2))]) (aJ1_indexOf_4cfef 13 rfl) (by decide) rfl ?_
    refine xw_iloadn (aJ1_indexOf_4cfef 14 rfl) rfl ?_
    refine xw_iloadn (aJ1_indexOf_4cfef 15 rfl) rfl ?_
    refine hw_iclt (tgt := 29) (aJ1_indexOf_4cfef 16 rfl) (by decide) rfl rfl (fun cd39 => ?_) (fun cd39 => ?_)
    · refine hw_aloadn (aJ1_indexOf_4cfef 19 rfl) rfl ?_
      refine xw_iloadn (aJ1_indexOf_4cfef 20 rfl) rfl ?_
      refine xw_iloadn (aJ1_indexOf_4cfef 21 rfl) rfl ?_
      refine xw_iloadn (aJ1_indexOf_4cfef 22 rfl) rfl ?_
      refine hw_callS (As := [.ref (sk.2.1 (a1)), .int (a2), .int (r15), .int (r30)]) (rest := []) (aJ1_indexOf_4cfef 23 rfl) wc_RJ1_95 (by decide) rfl wt_yJ1_indexOfChar_4cfef rfl rfl (Nat.le_of_ble_eq_true rfl) (Nat.le_of_ble_eq_true rfl) (k_J1_indexOfChar_4cfef (d := d) hS hF hI hR (a1) ha1k (a2) (r15) (r30) (by omega) (by omega) (by omega)) (fun v40 sv41 p42 => ?_)
      obtain ⟨r43, rfl, rfl⟩ := p42
      have rg_r43 := i_rng r43
      show hw sk base _ _ _ _ _ [.int (r43)] _ _
      refine xw_iret (aJ1_indexOf_4cfef 24 rfl) rfl rfl ?_
      exact ⟨r43, rfl, rfl⟩
    · refine hw_ic (v := ((-1) : Int32)) (aJ1_indexOf_4cfef 17 rfl) (by decide) ?_
      refine xw_iret (aJ1_indexOf_4cfef 18 rfl) rfl rfl ?_
      have e49 : (((-1) : Int32)).toInt = (-1) := (by decide : ((-1) : Int32).toInt = (-1))
      exact ⟨((-1) : Int32), rfl, rfl⟩
  · refine hw_ic (v := ((-1) : Int32)) (aJ1_indexOf_4cfef 3 rfl) (by decide) ?_
    refine xw_iret (aJ1_indexOf_4cfef 4 rfl) rfl rfl ?_
    have e50 : (((-1) : Int32)).toInt = (-1) := (by decide : ((-1) : Int32).toInt = (-1))
    exact ⟨((-1) : Int32), rfl, rfl⟩
def nJ0_indexOf_7cf53 : Nat := 0xac8002b8f901b62a1c1b0900b42a1000a77d02b8f901b62a1c1b0900b42a130099ec01b62a
theorem bJ0_indexOf_7cf53 : cJ0_indexOf_7cf53.data.toList.map UInt8.toNat = x_un nJ0_indexOf_7cf53 37 := by decide +kernel
def iJ0_indexOf_7cf53 : List (Nat × Jvm.ClassFile.Instr × Nat) := [(0, .aload_n 0, 1), (1, .invokevirtual 492, 3), (4, .ifCond .eq 19, 3), (7, .aload_n 0, 1), (8, .getfield 9, 3), (11, .iload_n 1, 1), (12, .iload_n 2, 1), (13, .aload_n 0, 1), (14, .invokevirtual 505, 3), (17, .invokestatic 637, 3), (20, .goto 16, 3), (23, .aload_n 0, 1), (24, .getfield 9, 3), (27, .iload_n 1, 1), (28, .iload_n 2, 1), (29, .aload_n 0, 1), (30, .invokevirtual 505, 3), (33, .invokestatic 640, 3), (36, .ireturn, 1)]
theorem dJ0_indexOf_7cf53 : x_il nJ0_indexOf_7cf53 37 iJ0_indexOf_7cf53 = true := by decide +kernel
theorem aJ0_indexOf_7cf53 (k : Nat) {pc : Nat} {i : Jvm.ClassFile.Instr} {len : Nat} (hk : iJ0_indexOf_7cf53[k]? = some (pc, i, len)) : x_at xMM 273 pc i len yJ0_indexOf_7cf53 3 (some .int) := ⟨cJ0_indexOf_7cf53, rfl, x_il_ok bJ0_indexOf_7cf53 dJ0_indexOf_7cf53 k hk⟩
set_option maxHeartbeats 4000000 in
set_option maxRecDepth 100000 in
theorem k_J0_indexOf_7cf53 {sk : xK} {base d n sl : Nat} {SH : Nat → Nat × Nat} {FI : Nat → Nat → Int32} {FL : Nat → Nat → Int64} {FR : Nat → Nat → Option Nat} (hS : h_S n SH) (hF : h_FR FR) (hI : g_I FI) (hR : g_R n SH FR) (c : Nat) (hck : c < 11) (a1 : Int32) (a2 : Int32) (g0 : 0 ≤ (a2).toInt) : hw sk base (d + 2) none 273 0 [(0, .ref (sk.1 (c))), (1, .int (a1)), (2, .int (a2))] [] (n, sl, SH, FI, FL, FR) (h_I (fun r s => s = (n, sl, SH, FI, FL, FR))) := by
  have rg_a1 := i_rng a1
  have rg_a2 := i_rng a2
  refine hw_aloadn (aJ0_indexOf_7cf53 0 rfl) rfl ?_
  refine hw_callT (k := c) (Bs := []) (rest := []) (aJ0_indexOf_7cf53 1 rfl) wc_RJ0_492 (by decide) rfl wi_yJ0_isLatin1_aae02 wv_yJ0_isLatin1_aae02 hck rfl rfl rfl (Nat.le_of_ble_eq_true rfl) (Nat.le_of_ble_eq_true rfl) (k_J0_isLatin1_aae02 (d := d + 1) hS hF hI hR (c) hck ) (fun v1 sv2 p3 => ?_)
  obtain ⟨r4, rfl, rfl, t8, t9⟩ := p3
  show hw sk base _ _ _ _ _ [.int (r4)] _ _
  refine hw_ifeq (tgt := 23) (aJ0_indexOf_7cf53 2 rfl) (by decide) rfl (fun cd12 => ?_) (fun cd12 => ?_)
  · omega
  · refine hw_aloadn (aJ0_indexOf_7cf53 3 rfl) rfl ?_
    refine hw_sval (k := c) (aJ0_indexOf_7cf53 4 rfl) hck (tin_9 (i := 153) rfl rfl) ?_
    refine xw_iloadn (aJ0_indexOf_7cf53 5 rfl) rfl ?_
    refine xw_iloadn (aJ0_indexOf_7cf53 6 rfl) rfl ?_
    refine hw_aloadn (aJ0_indexOf_7cf53 7 rfl) rfl ?_
    refine hw_callT (k := c) (Bs := []) (rest := [.int (a2), .int (a1), .ref (sk.2.1 (c))]) (aJ0_indexOf_7cf53 8 rfl) wc_RJ0_505 (by decide) rfl wi_yJ0_length_8abf5 wv_yJ0_length_8abf5 hck rfl rfl rfl (Nat.le_of_ble_eq_true rfl) (Nat.le_of_ble_eq_true rfl) (k_J0_length_8abf5 (d := d) hS hF hI hR (c) hck ) (fun v13 sv14 p15 => ?_)
    obtain ⟨r16, rfl, rfl, t20, t21⟩ := p15
    have rg_r16 := i_rng r16
    show hw sk base _ _ _ _ _ [.int (r16), .int (a2), .int (a1), .ref (sk.2.1 (c))] _ _
    refine hw_callS (As := [.ref (sk.2.1 (c)), .int (a1), .int (a2), .int (r16)]) (rest := []) (aJ0_indexOf_7cf53 9 rfl) wc_RJ0_637 (by decide) rfl wt_yJ1_indexOf_4cfef rfl rfl (Nat.le_of_ble_eq_true rfl) (Nat.le_of_ble_eq_true rfl) (k_J1_indexOf_4cfef (d := d) hS hF hI hR (c) hck (a1) (a2) (r16) (by omega) (by omega)) (fun v24 sv25 p26 => ?_)
    obtain ⟨r27, rfl, rfl⟩ := p26
    have rg_r27 := i_rng r27
    show hw sk base _ _ _ _ _ [.int (r27)] _ _
    refine xw_goto (tgt := 36) (aJ0_indexOf_7cf53 10 rfl) (by decide) ?_
    refine xw_iret (aJ0_indexOf_7cf53 18 rfl) rfl rfl ?_
    exact ⟨r27, rfl, rfl⟩
def nJ0_indexOf_0f7a4 : Nat := 0xac7902b6031b2a
theorem bJ0_indexOf_0f7a4 : cJ0_indexOf_0f7a4.data.toList.map UInt8.toNat = x_un nJ0_indexOf_0f7a4 7 := by decide +kernel
def iJ0_indexOf_0f7a4 : List (Nat × Jvm.ClassFile.Instr × Nat) := [(0, .aload_n 0, 1), (1, .iload_n 1, 1), (2, .iconst 0, 1), (3, .invokevirtual 633, 3), (6, .ireturn, 1)]
theorem dJ0_indexOf_0f7a4 : x_il nJ0_indexOf_0f7a4 7 iJ0_indexOf_0f7a4 = true := by decide +kernel
theorem aJ0_indexOf_0f7a4 (k : Nat) {pc : Nat} {i : Jvm.ClassFile.Instr} {len : Nat} (hk : iJ0_indexOf_0f7a4[k]? = some (pc, i, len)) : x_at xMM 272 pc i len yJ0_indexOf_0f7a4 2 (some .int) := ⟨cJ0_indexOf_0f7a4, rfl, x_il_ok bJ0_indexOf_0f7a4 dJ0_indexOf_0f7a4 k hk⟩
set_option maxHeartbeats 4000000 in
set_option maxRecDepth 100000 in
theorem k_J0_indexOf_0f7a4 {sk : xK} {base d n sl : Nat} {SH : Nat → Nat × Nat} {FI : Nat → Nat → Int32} {FL : Nat → Nat → Int64} {FR : Nat → Nat → Option Nat} (hS : h_S n SH) (hF : h_FR FR) (hI : g_I FI) (hR : g_R n SH FR) (c : Nat) (hck : c < 11) (a1 : Int32) : hw sk base (d + 3) none 272 0 [(0, .ref (sk.1 (c))), (1, .int (a1))] [] (n, sl, SH, FI, FL, FR) (h_I (fun r s => s = (n, sl, SH, FI, FL, FR))) := by
  have rg_a1 := i_rng a1
  refine hw_aloadn (aJ0_indexOf_0f7a4 0 rfl) rfl ?_
  refine xw_iloadn (aJ0_indexOf_0f7a4 1 rfl) rfl ?_
  refine hw_ic (v := (0 : Int32)) (aJ0_indexOf_0f7a4 2 rfl) (by decide) ?_
  refine hw_callT (k := c) (Bs := [.int (a1), .int ((0 : Int32))]) (rest := []) (aJ0_indexOf_0f7a4 3 rfl) wc_RJ0_633 (by decide) rfl wi_yJ0_indexOf_7cf53 wv_yJ0_indexOf_7cf53 hck rfl rfl rfl (Nat.le_of_ble_eq_true rfl) (Nat.le_of_ble_eq_true rfl) (k_J0_indexOf_7cf53 (d := d) hS hF hI hR (c) hck (a1) ((0 : Int32)) (by have := ((by decide : (0 : Int32).toInt = 0) : ((0 : Int32)).toInt = 0); omega)) (fun v1 sv2 p3 => ?_)
  obtain ⟨r4, rfl, rfl⟩ := p3
  have rg_r4 := i_rng r4
  show hw sk base _ _ _ _ _ [.int (r4)] _ _
  refine xw_iret (aJ0_indexOf_0f7a4 4 rfl) rfl rfl ?_
  exact ⟨r4, rfl, rfl⟩
def nX7_isWord : Nat := 0xac04e1ffa7010284ac0305009f7200b61c2b3900b6601c3600b42a2a1d00a26d00b62b1c3d03ac0305009f6d00b62b643600b42a2600b42a
theorem bX7_isWord : cX7_isWord.data.toList.map UInt8.toNat = x_un nX7_isWord 56 := by decide +kernel
def iX7_isWord : List (Nat × Jvm.ClassFile.Instr × Nat) := [(0, .aload_n 0, 1), (1, .getfield 38, 3), (4, .aload_n 0, 1), (5, .getfield 54, 3), (8, .isub, 1), (9, .aload_n 1, 1), (10, .invokevirtual 109, 3), (13, .if_icmp .eq 5, 3), (16, .iconst 0, 1), (17, .ireturn, 1), (18, .iconst 0, 1), (19, .istore_n 2, 1), (20, .iload_n 2, 1), (21, .aload_n 1, 1), (22, .invokevirtual 109, 3), (25, .if_icmp .ge 29, 3), (28, .aload_n 0, 1), (29, .aload_n 0, 1), (30, .getfield 54, 3), (33, .iload_n 2, 1), (34, .iadd, 1), (35, .invokevirtual 57, 3), (38, .aload_n 1, 1), (39, .iload_n 2, 1), (40, .invokevirtual 114, 3), (43, .if_icmp .eq 5, 3), (46, .iconst 0, 1), (47, .ireturn, 1), (48, .iinc 2 1, 3), (51, .goto (-31), 3), (54, .iconst 1, 1), (55, .ireturn, 1)]
theorem dX7_isWord : x_il nX7_isWord 56 iX7_isWord = true := by decide +kernel
theorem aX7_isWord (k : Nat) {pc : Nat} {i : Jvm.ClassFile.Instr} {len : Nat} (hk : iX7_isWord[k]? = some (pc, i, len)) : x_at xMM 72 pc i len yX7_isWord 3 (some .boolean) := ⟨cX7_isWord, rfl, x_il_ok bX7_isWord dX7_isWord k hk⟩
set_option maxHeartbeats 4000000 in
set_option maxRecDepth 100000 in
theorem k_X7_isWord {sk : xK} {base d n sl : Nat} {SH : Nat → Nat × Nat} {FI : Nat → Nat → Int32} {FL : Nat → Nat → Int64} {FR : Nat → Nat → Option Nat} (hS : h_S n SH) (hF : h_FR FR) (hI : g_I FI) (hR : g_R n SH FR) (a1 : Nat) (ha1k : a1 < 11) : hw sk base (d + 4) none 72 0 [(0, .ref (base + 111)), (1, .ref (sk.1 (a1)))] [] (n, sl, SH, FI, FL, FR) (h_I (fun r s => s = (n, sl, SH, FI, FL, FR) ∧ (0 ≤ r.toInt ∧ r.toInt ≤ 1))) := by
  refine hw_aloadn (aX7_isWord 0 rfl) rfl ?_
  obtain ⟨x1, h2⟩ : ∃ y, FI 111 8 = y := ⟨_, rfl⟩
  have h2l := congrArg Int32.toInt h2
  have b3 := gI_111_8 hI; rw [h2] at b3
  refine hw_get (v := .int (x1)) (aX7_isWord 1 rfl) wf_RX7_38 (c111 hS) (s111 hS) (by decide) (congrArg Value.int (show FI 111 8 = x1 from h2)) ?_
  refine hw_aloadn (aX7_isWord 2 rfl) rfl ?_
  obtain ⟨x4, h5⟩ : ∃ y, FI 111 7 = y := ⟨_, rfl⟩
  have h5l := congrArg Int32.toInt h5
  have b6 := gI_111_7 hI; rw [h5] at b6
  refine hw_get (v := .int (x4)) (aX7_isWord 3 rfl) wf_RX7_54 (c111 hS) (s111 hS) (by decide) (congrArg Value.int (show FI 111 7 = x4 from h5)) ?_
  refine xw_isub (aX7_isWord 4 rfl) ?_
  refine hw_tie (A := ((x1).toInt) - ((x4).toInt)) (i_sub rfl rfl (by omega) (by omega)) (fun x7 e8 => ?_)
  refine hw_aloadn (aX7_isWord 5 rfl) rfl ?_
  refine hw_callT (k := a1) (Bs := []) (rest := [.int (x7)]) (aX7_isWord 6 rfl) wc_RX7_109 (by decide) rfl wi_yJ0_length_8abf5 wv_yJ0_length_8abf5 ha1k rfl rfl rfl (Nat.le_of_ble_eq_true rfl) (Nat.le_of_ble_eq_true rfl) (k_J0_length_8abf5 (d := d + 2) hS hF hI hR (a1) ha1k ) (fun v9 sv10 p11 => ?_)
  obtain ⟨r12, rfl, rfl, t16, t17⟩ := p11
  have rg_r12 := i_rng r12
  show hw sk base _ _ _ _ _ [.int (r12), .int (x7)] _ _
  refine hw_iceq (tgt := 18) (aX7_isWord 7 rfl) (by decide) e8 rfl (fun cd20 => ?_) (fun cd20 => ?_)
  · refine hw_ic (v := (0 : Int32)) (aX7_isWord 10 rfl) (by decide) ?_
    refine xw_istoren (L2 := [(2, .int ((0 : Int32))), (0, .ref (base + 111)), (1, .ref (sk.1 (a1)))]) (aX7_isWord 11 rfl) (by decide) rfl ?_
    have lp22 : ∀ (m : Nat) (y2 : Int32), (0 ≤ (y2).toInt ∧ (y2).toInt ≤ 22) → 23 - (y2).toInt < m → hw sk base (d + 4) none 72 20 [(2, .int (y2)), (0, .ref (base + 111)), (1, .ref (sk.1 (a1)))] [] (n, sl, SH, FI, FL, FR) (h_I (fun r s => s = (n, sl, SH, FI, FL, FR) ∧ (0 ≤ r.toInt ∧ r.toInt ≤ 1))) := by
      intro m
      induction m with
      | zero => intro y2 iv21 hm; omega
      | succ m ih =>
        intro y2 iv21 hm
        have rg_y2 := i_rng y2
        refine xw_iloadn (aX7_isWord 12 rfl) rfl ?_
        refine hw_aloadn (aX7_isWord 13 rfl) rfl ?_
        refine hw_callT (k := a1) (Bs := []) (rest := [.int (y2)]) (aX7_isWord 14 rfl) wc_RX7_109 (by decide) rfl wi_yJ0_length_8abf5 wv_yJ0_length_8abf5 ha1k rfl rfl rfl (Nat.le_of_ble_eq_true rfl) (Nat.le_of_ble_eq_true rfl) (k_J0_length_8abf5 (d := d + 2) hS hF hI hR (a1) ha1k ) (fun v23 sv24 p25 => ?_)
        obtain ⟨r26, rfl, rfl, t30, t31⟩ := p25
        have rg_r26 := i_rng r26
        show hw sk base _ _ _ _ _ [.int (r26), .int (y2)] _ _
        refine hw_icge (tgt := 54) (aX7_isWord 15 rfl) (by decide) rfl rfl (fun cd34 => ?_) (fun cd34 => ?_)
        · refine hw_ic (v := (1 : Int32)) (aX7_isWord 30 rfl) (by decide) ?_
          refine xw_iret (aX7_isWord 31 rfl) rfl (by decide) ?_
          have e35 : ((1 : Int32)).toInt = 1 := (by decide : (1 : Int32).toInt = 1)
          exact ⟨(1 : Int32), rfl, rfl, (by have : ((1 : Int32)).toInt = 1 := (by decide); omega)⟩
        · refine hw_aloadn (aX7_isWord 16 rfl) rfl ?_
          refine hw_aloadn (aX7_isWord 17 rfl) rfl ?_
          refine hw_get (v := .int (x4)) (aX7_isWord 18 rfl) wf_RX7_54 (c111 hS) (s111 hS) (by decide) (congrArg Value.int (show FI 111 7 = x4 from h5)) ?_
          refine xw_iloadn (aX7_isWord 19 rfl) rfl ?_
          refine xw_iadd (aX7_isWord 20 rfl) ?_
          refine hw_tie (A := ((x4).toInt) + ((y2).toInt)) (i_add rfl rfl (by omega) (by omega)) (fun x36 e37 => ?_)
          refine hw_callV (Bs := [.int (x36)]) (rest := []) (aX7_isWord 21 rfl) wc_RX7_57 (by decide) rfl wi_yX7_letter wv_yX7_letter (c111 hS) (s111 hS) rfl rfl rfl (Nat.le_of_ble_eq_true rfl) (Nat.le_of_ble_eq_true rfl) (k_letter2 (d := d + 3) hS hF hI hR (x36) ) (fun v38 sv39 p40 => ?_)
          obtain ⟨x49, h50⟩ : ∃ y, FI 111 6 = y := ⟨_, rfl⟩
          have h50l := congrArg Int32.toInt h50
          have b51 := gI_111_6 hI; rw [h50] at b51
          have := (e37 : (x36).toInt = ((x4).toInt) + ((y2).toInt))
          have := (e37 : (x36).toInt = ((x4).toInt) + ((y2).toInt))
          have := congrArg Int32.toInt (show FI 111 6 = x49 from h50)
          obtain ⟨r41, rfl, rfl, t45, u46⟩ := p40
          have rg_r41 := i_rng r41
          show hw sk base _ _ _ _ _ [.int (r41)] _ _
          refine hw_aloadn (aX7_isWord 22 rfl) rfl ?_
          refine xw_iloadn (aX7_isWord 23 rfl) rfl ?_
          refine hw_callT (k := a1) (Bs := [.int (y2)]) (rest := [.int (r41)]) (aX7_isWord 24 rfl) wc_RX7_114 (by decide) rfl wi_yJ0_charAt_5068e wv_yJ0_charAt_5068e ha1k rfl rfl rfl (Nat.le_of_ble_eq_true rfl) (Nat.le_of_ble_eq_true rfl) (k_J0_charAt_5068e (d := d) hS hF hI hR (a1) ha1k (y2) (by omega)) (fun v52 sv53 p54 => ?_)
          obtain ⟨r55, rfl, rfl⟩ := p54
          have rg_r55 := i_rng r55
          show hw sk base _ _ _ _ _ [.int (r55), .int (r41)] _ _
          refine hw_iceq (tgt := 48) (aX7_isWord 25 rfl) (by decide) rfl rfl (fun cd61 => ?_) (fun cd61 => ?_)
          · obtain ⟨x62, q64⟩ : ∃ y : Int32, (y2) + Int32.ofInt (1) = y := ⟨_, rfl⟩
            have e63 : (x62).toInt = (y2).toInt + (1) := by rw [← q64]; exact i_add rfl (by decide) (by omega) (by omega)
            refine xw_iinc (L2 := [(2, .int (x62)), (0, .ref (base + 111)), (1, .ref (sk.1 (a1)))]) (aX7_isWord 28 rfl) rfl (by decide) (by rw [q64]; rfl) ?_
            refine xw_goto (tgt := 20) (aX7_isWord 29 rfl) (by decide) ?_
            exact hw_L (ih (x62) (by have := (e63 : (x62).toInt = (y2).toInt + (1)); omega) (by have := (e63 : (x62).toInt = (y2).toInt + (1)); omega)) ⟨rfl, rfl, rfl, trivial⟩
          · refine hw_ic (v := (0 : Int32)) (aX7_isWord 26 rfl) (by decide) ?_
            refine xw_iret (aX7_isWord 27 rfl) rfl (by decide) ?_
            have e65 : ((0 : Int32)).toInt = 0 := (by decide : (0 : Int32).toInt = 0)
            exact ⟨(0 : Int32), rfl, rfl, (by have : ((0 : Int32)).toInt = 0 := (by decide); omega)⟩
    exact hw_L (lp22 ((23 - 0 : Int).toNat + 1) ((0 : Int32)) (by have := ((by decide : (0 : Int32).toInt = 0) : ((0 : Int32)).toInt = 0); omega) (by have := ((by decide : (0 : Int32).toInt = 0) : ((0 : Int32)).toInt = 0); omega)) ⟨rfl, rfl, rfl, trivial⟩
  · refine hw_ic (v := (0 : Int32)) (aX7_isWord 8 rfl) (by decide) ?_
    refine xw_iret (aX7_isWord 9 rfl) rfl (by decide) ?_
    have e66 : ((0 : Int32)).toInt = 0 := (by decide : (0 : Int32).toInt = 0)
    exact ⟨(0 : Int32), rfl, rfl, (by have : ((0 : Int32)).toInt = 0 := (by decide); omega)⟩
def nX7_wordKind : Nat := 0xac07ac070400a710100800995700b66b122aac070400a70f100800995700b669122aac070400a70e100800995700b667122aac070400a70d100800995700b665122aac070400a70c100800995700b663122aac070400a70b100800995700b661122aac070400a70a100800995700b65f122aac070400a709100800995700b65d122aac070400a708100800995700b65b122aac070400a707100800995700b655122a7400000004010000d400000004010000640000000401000004010000c400000094000000f4000000040100000401000004010000040100000401000004010000a400000004010000e4000000b400000084000000760000006200000004010000000000aa3900b63600b42a2a
theorem bX7_wordKind : cX7_wordKind.data.toList.map UInt8.toNat = x_un nX7_wordKind 270 := by decide +kernel
def iX7_wordKind : List (Nat × Jvm.ClassFile.Instr × Nat) := [(0, .aload_n 0, 1), (1, .aload_n 0, 1), (2, .getfield 54, 3), (5, .invokevirtual 57, 3), (108, .aload_n 0, 1), (109, .ldc 85, 2), (111, .invokevirtual 87, 3), (114, .ifCond .eq 8, 3), (117, .bipush 7, 2), (119, .goto 4, 3), (122, .iconst 4, 1), (123, .ireturn, 1), (124, .aload_n 0, 1), (125, .ldc 91, 2), (127, .invokevirtual 87, 3), (130, .ifCond .eq 8, 3), (133, .bipush 8, 2), (135, .goto 4, 3), (138, .iconst 4, 1), (139, .ireturn, 1), (140, .aload_n 0, 1), (141, .ldc 93, 2), (143, .invokevirtual 87, 3), (146, .ifCond .eq 8, 3), (149, .bipush 9, 2), (151, .goto 4, 3), (154, .iconst 4, 1), (155, .ireturn, 1), (156, .aload_n 0, 1), (157, .ldc 95, 2), (159, .invokevirtual 87, 3), (162, .ifCond .eq 8, 3), (165, .bipush 10, 2), (167, .goto 4, 3), (170, .iconst 4, 1), (171, .ireturn, 1), (172, .aload_n 0, 1), (173, .ldc 97, 2), (175, .invokevirtual 87, 3), (178, .ifCond .eq 8, 3), (181, .bipush 11, 2), (183, .goto 4, 3), (186, .iconst 4, 1), (187, .ireturn, 1), (188, .aload_n 0, 1), (189, .ldc 99, 2), (191, .invokevirtual 87, 3), (194, .ifCond .eq 8, 3), (197, .bipush 12, 2), (199, .goto 4, 3), (202, .iconst 4, 1), (203, .ireturn, 1), (204, .aload_n 0, 1), (205, .ldc 101, 2), (207, .invokevirtual 87, 3), (210, .ifCond .eq 8, 3), (213, .bipush 13, 2), (215, .goto 4, 3), (218, .iconst 4, 1), (219, .ireturn, 1), (220, .aload_n 0, 1), (221, .ldc 103, 2), (223, .invokevirtual 87, 3), (226, .ifCond .eq 8, 3), (229, .bipush 14, 2), (231, .goto 4, 3), (234, .iconst 4, 1), (235, .ireturn, 1), (236, .aload_n 0, 1), (237, .ldc 105, 2), (239, .invokevirtual 87, 3), (242, .ifCond .eq 8, 3), (245, .bipush 15, 2), (247, .goto 4, 3), (250, .iconst 4, 1), (251, .ireturn, 1), (252, .aload_n 0, 1), (253, .ldc 107, 2), (255, .invokevirtual 87, 3), (258, .ifCond .eq 8, 3), (261, .bipush 16, 2), (263, .goto 4, 3), (266, .iconst 4, 1), (267, .ireturn, 1), (268, .iconst 4, 1), (269, .ireturn, 1)]
theorem dX7_wordKind : x_il nX7_wordKind 270 iX7_wordKind = true := by decide +kernel
theorem aX7_wordKind (k : Nat) {pc : Nat} {i : Jvm.ClassFile.Instr} {len : Nat} (hk : iX7_wordKind[k]? = some (pc, i, len)) : x_at xMM 71 pc i len yX7_wordKind 1 (some .int) := ⟨cX7_wordKind, rfl, x_il_ok bX7_wordKind dX7_wordKind k hk⟩
theorem aX7_wordKind_8 : x_at xMM 71 8 (.tableswitch 260 98 118 #[132, 180, 228, 260, 164, 260, 260, 260, 260, 260, 260, 244, 148, 196, 260, 260, 100, 260, 212, 260, 116]) 100 yX7_wordKind 1 (some .int) := ⟨cX7_wordKind, rfl, by decide +kernel⟩
set_option maxHeartbeats 4000000 in
set_option maxRecDepth 100000 in
theorem k_wordKind {sk : xK} {base d n sl : Nat} {SH : Nat → Nat × Nat} {FI : Nat → Nat → Int32} {FL : Nat → Nat → Int64} {FR : Nat → Nat → Option Nat} (hS : h_S n SH) (hF : h_FR FR) (hI : g_I FI) (hR : g_R n SH FR) : hw sk base (d + 5) none 71 0 [(0, .ref (base + 111))] [] (n, sl, SH, FI, FL, FR) (h_I (fun r s => s = (n, sl, SH, FI, FL, FR) ∧ (4 ≤ r.toInt ∧ r.toInt ≤ 16))) := by
  refine hw_aloadn (aX7_wordKind 0 rfl) rfl ?_
  refine hw_aloadn (aX7_wordKind 1 rfl) rfl ?_
  obtain ⟨x1, h2⟩ : ∃ y, FI 111 7 = y := ⟨_, rfl⟩
  have h2l := congrArg Int32.toInt h2
  have b3 := gI_111_7 hI; rw [h2] at b3
  refine hw_get (v := .int (x1)) (aX7_wordKind 2 rfl) wf_RX7_54 (c111 hS) (s111 hS) (by decide) (congrArg Value.int (show FI 111 7 = x1 from h2)) ?_
  refine hw_callV (Bs := [.int (x1)]) (rest := []) (aX7_wordKind 3 rfl) wc_RX7_57 (by decide) rfl wi_yX7_letter wv_yX7_letter (c111 hS) (s111 hS) rfl rfl rfl (Nat.le_of_ble_eq_true rfl) (Nat.le_of_ble_eq_true rfl) (k_letter2 (d := d + 4) hS hF hI hR (x1) ) (fun v4 sv5 p6 => ?_)
  obtain ⟨x15, h16⟩ : ∃ y, FI 111 6 = y := ⟨_, rfl⟩
  have h16l := congrArg Int32.toInt h16
  have b17 := gI_111_6 hI; rw [h16] at b17
  have := congrArg Int32.toInt (show FI 111 6 = x15 from h16)
  obtain ⟨r7, rfl, rfl, t11, u12⟩ := p6
  have rg_r7 := i_rng r7
  show hw sk base _ _ _ _ _ [.int (r7)] _ _
  have hsw : ((r7).toInt < 98 ∨ 118 < (r7).toInt) ∨ ((r7).toInt = 98) ∨ ((r7).toInt = 99) ∨ ((r7).toInt = 100) ∨ ((r7).toInt = 101 ∨ (r7).toInt = 103 ∨ (r7).toInt = 104 ∨ (r7).toInt = 105 ∨ (r7).toInt = 106 ∨ (r7).toInt = 107 ∨ (r7).toInt = 108 ∨ (r7).toInt = 112 ∨ (r7).toInt = 113 ∨ (r7).toInt = 115 ∨ (r7).toInt = 117) ∨ ((r7).toInt = 102) ∨ ((r7).toInt = 109) ∨ ((r7).toInt = 110) ∨ ((r7).toInt = 111) ∨ ((r7).toInt = 114) ∨ ((r7).toInt = 116) ∨ ((r7).toInt = 118) := by omega
  rcases hsw with hsw | hsw | hsw | hsw | hsw | hsw | hsw | hsw | hsw | hsw | hsw | hsw
  · refine xw_tsw (tgt := 268) aX7_wordKind_8 (Or.inl ⟨hsw, by decide⟩) ?_
    refine hw_ic (v := (4 : Int32)) (aX7_wordKind 84 rfl) (by decide) ?_
    refine xw_iret (aX7_wordKind 85 rfl) rfl rfl ?_
    have e18 : ((4 : Int32)).toInt = 4 := (by decide : (4 : Int32).toInt = 4)
    exact ⟨(4 : Int32), rfl, rfl, (by have : ((4 : Int32)).toInt = 4 := (by decide); omega)⟩
  · refine xw_tsw (tgt := 140) aX7_wordKind_8 (by exact Or.inr ⟨by omega, by omega, _, by rw [hsw]; rfl, by decide⟩) ?_
    refine hw_aloadn (aX7_wordKind 20 rfl) rfl ?_
    refine hw_ldcS (k := 2) (aX7_wordKind 21 rfl) (by decide) rfl rfl ?_
    refine hw_callV (Bs := [.ref (sk.1 (2))]) (rest := []) (aX7_wordKind 22 rfl) wc_RX7_87 (by decide) rfl wi_yX7_isWord wv_yX7_isWord (c111 hS) (s111 hS) rfl rfl rfl (Nat.le_of_ble_eq_true rfl) (Nat.le_of_ble_eq_true rfl) (k_X7_isWord (d := d) hS hF hI hR (2) (by decide) ) (fun v19 sv20 p21 => ?_)
    obtain ⟨r22, rfl, rfl, t26⟩ := p21
    show hw sk base _ _ _ _ _ [.int (r22)] _ _
    refine hw_ifeq (tgt := 154) (aX7_wordKind 23 rfl) (by decide) rfl (fun cd29 => ?_) (fun cd29 => ?_)
    · refine hw_ic (v := (4 : Int32)) (aX7_wordKind 26 rfl) (by decide) ?_
      refine xw_iret (aX7_wordKind 27 rfl) rfl rfl ?_
      have e30 : ((4 : Int32)).toInt = 4 := (by decide : (4 : Int32).toInt = 4)
      exact ⟨(4 : Int32), rfl, rfl, (by have : ((4 : Int32)).toInt = 4 := (by decide); omega)⟩
    · refine hw_bp (v := (9 : Int32)) (aX7_wordKind 24 rfl) (by decide) ?_
      refine xw_goto (tgt := 155) (aX7_wordKind 25 rfl) (by decide) ?_
      refine xw_iret (aX7_wordKind 27 rfl) rfl rfl ?_
      have e31 : ((9 : Int32)).toInt = 9 := (by decide : (9 : Int32).toInt = 9)
      exact ⟨(9 : Int32), rfl, rfl, (by have : ((9 : Int32)).toInt = 9 := (by decide); omega)⟩
  · refine xw_tsw (tgt := 188) aX7_wordKind_8 (by exact Or.inr ⟨by omega, by omega, _, by rw [hsw]; rfl, by decide⟩) ?_
    refine hw_aloadn (aX7_wordKind 44 rfl) rfl ?_
    refine hw_ldcS (k := 5) (aX7_wordKind 45 rfl) (by decide) rfl rfl ?_
    refine hw_callV (Bs := [.ref (sk.1 (5))]) (rest := []) (aX7_wordKind 46 rfl) wc_RX7_87 (by decide) rfl wi_yX7_isWord wv_yX7_isWord (c111 hS) (s111 hS) rfl rfl rfl (Nat.le_of_ble_eq_true rfl) (Nat.le_of_ble_eq_true rfl) (k_X7_isWord (d := d) hS hF hI hR (5) (by decide) ) (fun v32 sv33 p34 => ?_)
    obtain ⟨r35, rfl, rfl, t39⟩ := p34
    show hw sk base _ _ _ _ _ [.int (r35)] _ _
    refine hw_ifeq (tgt := 202) (aX7_wordKind 47 rfl) (by decide) rfl (fun cd42 => ?_) (fun cd42 => ?_)
    · refine hw_ic (v := (4 : Int32)) (aX7_wordKind 50 rfl) (by decide) ?_
      refine xw_iret (aX7_wordKind 51 rfl) rfl rfl ?_
      have e43 : ((4 : Int32)).toInt = 4 := (by decide : (4 : Int32).toInt = 4)
      exact ⟨(4 : Int32), rfl, rfl, (by have : ((4 : Int32)).toInt = 4 := (by decide); omega)⟩
    · refine hw_bp (v := (12 : Int32)) (aX7_wordKind 48 rfl) (by decide) ?_
      refine xw_goto (tgt := 203) (aX7_wordKind 49 rfl) (by decide) ?_
      refine xw_iret (aX7_wordKind 51 rfl) rfl rfl ?_
      have e44 : ((12 : Int32)).toInt = 12 := (by decide : (12 : Int32).toInt = 12)
      exact ⟨(12 : Int32), rfl, rfl, (by have : ((12 : Int32)).toInt = 12 := (by decide); omega)⟩
  · refine xw_tsw (tgt := 236) aX7_wordKind_8 (by exact Or.inr ⟨by omega, by omega, _, by rw [hsw]; rfl, by decide⟩) ?_
    refine hw_aloadn (aX7_wordKind 68 rfl) rfl ?_
    refine hw_ldcS (k := 8) (aX7_wordKind 69 rfl) (by decide) rfl rfl ?_
    refine hw_callV (Bs := [.ref (sk.1 (8))]) (rest := []) (aX7_wordKind 70 rfl) wc_RX7_87 (by decide) rfl wi_yX7_isWord wv_yX7_isWord (c111 hS) (s111 hS) rfl rfl rfl (Nat.le_of_ble_eq_true rfl) (Nat.le_of_ble_eq_true rfl) (k_X7_isWord (d := d) hS hF hI hR (8) (by decide) ) (fun v45 sv46 p47 => ?_)
    obtain ⟨r48, rfl, rfl, t52⟩ := p47
    show hw sk base _ _ _ _ _ [.int (r48)] _ _
    refine hw_ifeq (tgt := 250) (aX7_wordKind 71 rfl) (by decide) rfl (fun cd55 => ?_) (fun cd55 => ?_)
    · refine hw_ic (v := (4 : Int32)) (aX7_wordKind 74 rfl) (by decide) ?_
      refine xw_iret (aX7_wordKind 75 rfl) rfl rfl ?_
      have e56 : ((4 : Int32)).toInt = 4 := (by decide : (4 : Int32).toInt = 4)
      exact ⟨(4 : Int32), rfl, rfl, (by have : ((4 : Int32)).toInt = 4 := (by decide); omega)⟩
    · refine hw_bp (v := (15 : Int32)) (aX7_wordKind 72 rfl) (by decide) ?_
      refine xw_goto (tgt := 251) (aX7_wordKind 73 rfl) (by decide) ?_
      refine xw_iret (aX7_wordKind 75 rfl) rfl rfl ?_
      have e57 : ((15 : Int32)).toInt = 15 := (by decide : (15 : Int32).toInt = 15)
      exact ⟨(15 : Int32), rfl, rfl, (by have : ((15 : Int32)).toInt = 15 := (by decide); omega)⟩
  · refine xw_tsw (tgt := 268) aX7_wordKind_8 (by rcases hsw with hsw | hsw | hsw | hsw | hsw | hsw | hsw | hsw | hsw | hsw | hsw <;> exact Or.inr ⟨by omega, by omega, _, by rw [hsw]; rfl, by decide⟩) ?_
    refine hw_ic (v := (4 : Int32)) (aX7_wordKind 84 rfl) (by decide) ?_
    refine xw_iret (aX7_wordKind 85 rfl) rfl rfl ?_
    have e58 : ((4 : Int32)).toInt = 4 := (by decide : (4 : Int32).toInt = 4)
    exact ⟨(4 : Int32), rfl, rfl, (by have : ((4 : Int32)).toInt = 4 := (by decide); omega)⟩
  · refine xw_tsw (tgt := 172) aX7_wordKind_8 (by exact Or.inr ⟨by omega, by omega, _, by rw [hsw]; rfl, by decide⟩) ?_
    refine hw_aloadn (aX7_wordKind 36 rfl) rfl ?_
    refine hw_ldcS (k := 4) (aX7_wordKind 37 rfl) (by decide) rfl rfl ?_
    refine hw_callV (Bs := [.ref (sk.1 (4))]) (rest := []) (aX7_wordKind 38 rfl) wc_RX7_87 (by decide) rfl wi_yX7_isWord wv_yX7_isWord (c111 hS) (s111 hS) rfl rfl rfl (Nat.le_of_ble_eq_true rfl) (Nat.le_of_ble_eq_true rfl) (k_X7_isWord (d := d) hS hF hI hR (4) (by decide) ) (fun v59 sv60 p61 => ?_)
    obtain ⟨r62, rfl, rfl, t66⟩ := p61
    show hw sk base _ _ _ _ _ [.int (r62)] _ _
    refine hw_ifeq (tgt := 186) (aX7_wordKind 39 rfl) (by decide) rfl (fun cd69 => ?_) (fun cd69 => ?_)
    · refine hw_ic (v := (4 : Int32)) (aX7_wordKind 42 rfl) (by decide) ?_
      refine xw_iret (aX7_wordKind 43 rfl) rfl rfl ?_
      have e70 : ((4 : Int32)).toInt = 4 := (by decide : (4 : Int32).toInt = 4)
      exact ⟨(4 : Int32), rfl, rfl, (by have : ((4 : Int32)).toInt = 4 := (by decide); omega)⟩
    · refine hw_bp (v := (11 : Int32)) (aX7_wordKind 40 rfl) (by decide) ?_
      refine xw_goto (tgt := 187) (aX7_wordKind 41 rfl) (by decide) ?_
      refine xw_iret (aX7_wordKind 43 rfl) rfl rfl ?_
      have e71 : ((11 : Int32)).toInt = 11 := (by decide : (11 : Int32).toInt = 11)
      exact ⟨(11 : Int32), rfl, rfl, (by have : ((11 : Int32)).toInt = 11 := (by decide); omega)⟩
  · refine xw_tsw (tgt := 252) aX7_wordKind_8 (by exact Or.inr ⟨by omega, by omega, _, by rw [hsw]; rfl, by decide⟩) ?_
    refine hw_aloadn (aX7_wordKind 76 rfl) rfl ?_
    refine hw_ldcS (k := 9) (aX7_wordKind 77 rfl) (by decide) rfl rfl ?_
    refine hw_callV (Bs := [.ref (sk.1 (9))]) (rest := []) (aX7_wordKind 78 rfl) wc_RX7_87 (by decide) rfl wi_yX7_isWord wv_yX7_isWord (c111 hS) (s111 hS) rfl rfl rfl (Nat.le_of_ble_eq_true rfl) (Nat.le_of_ble_eq_true rfl) (k_X7_isWord (d := d) hS hF hI hR (9) (by decide) ) (fun v72 sv73 p74 => ?_)
    obtain ⟨r75, rfl, rfl, t79⟩ := p74
    show hw sk base _ _ _ _ _ [.int (r75)] _ _
    refine hw_ifeq (tgt := 266) (aX7_wordKind 79 rfl) (by decide) rfl (fun cd82 => ?_) (fun cd82 => ?_)
    · refine hw_ic (v := (4 : Int32)) (aX7_wordKind 82 rfl) (by decide) ?_
      refine xw_iret (aX7_wordKind 83 rfl) rfl rfl ?_
      have e83 : ((4 : Int32)).toInt = 4 := (by decide : (4 : Int32).toInt = 4)
      exact ⟨(4 : Int32), rfl, rfl, (by have : ((4 : Int32)).toInt = 4 := (by decide); omega)⟩
    · refine hw_bp (v := (16 : Int32)) (aX7_wordKind 80 rfl) (by decide) ?_
      refine xw_goto (tgt := 267) (aX7_wordKind 81 rfl) (by decide) ?_
      refine xw_iret (aX7_wordKind 83 rfl) rfl rfl ?_
      have e84 : ((16 : Int32)).toInt = 16 := (by decide : (16 : Int32).toInt = 16)
      exact ⟨(16 : Int32), rfl, rfl, (by have : ((16 : Int32)).toInt = 16 := (by decide); omega)⟩
  · refine xw_tsw (tgt := 156) aX7_wordKind_8 (by exact Or.inr ⟨by omega, by omega, _, by rw [hsw]; rfl, by decide⟩) ?_
    refine hw_aloadn (aX7_wordKind 28 rfl) rfl ?_
    refine hw_ldcS (k := 3) (aX7_wordKind 29 rfl) (by decide) rfl rfl ?_
    refine hw_callV (Bs := [.ref (sk.1 (3))]) (rest := []) (aX7_wordKind 30 rfl) wc_RX7_87 (by decide) rfl wi_yX7_isWord wv_yX7_isWord (c111 hS) (s111 hS) rfl rfl rfl (Nat.le_of_ble_eq_true rfl) (Nat.le_of_ble_eq_true rfl) (k_X7_isWord (d := d) hS hF hI hR (3) (by decide) ) (fun v85 sv86 p87 => ?_)
    obtain ⟨r88, rfl, rfl, t92⟩ := p87
    show hw sk base _ _ _ _ _ [.int (r88)] _ _
    refine hw_ifeq (tgt := 170) (aX7_wordKind 31 rfl) (by decide) rfl (fun cd95 => ?_) (fun cd95 => ?_)
    · refine hw_ic (v := (4 : Int32)) (aX7_wordKind 34 rfl) (by decide) ?_
      refine xw_iret (aX7_wordKind 35 rfl) rfl rfl ?_
      have e96 : ((4 : Int32)).toInt = 4 := (by decide : (4 : Int32).toInt = 4)
      exact ⟨(4 : Int32), rfl, rfl, (by have : ((4 : Int32)).toInt = 4 := (by decide); omega)⟩
    · refine hw_bp (v := (10 : Int32)) (aX7_wordKind 32 rfl) (by decide) ?_
      refine xw_goto (tgt := 171) (aX7_wordKind 33 rfl) (by decide) ?_
      refine xw_iret (aX7_wordKind 35 rfl) rfl rfl ?_
      have e97 : ((10 : Int32)).toInt = 10 := (by decide : (10 : Int32).toInt = 10)
      exact ⟨(10 : Int32), rfl, rfl, (by have : ((10 : Int32)).toInt = 10 := (by decide); omega)⟩
  · refine xw_tsw (tgt := 204) aX7_wordKind_8 (by exact Or.inr ⟨by omega, by omega, _, by rw [hsw]; rfl, by decide⟩) ?_
    refine hw_aloadn (aX7_wordKind 52 rfl) rfl ?_
    refine hw_ldcS (k := 6) (aX7_wordKind 53 rfl) (by decide) rfl rfl ?_
    refine hw_callV (Bs := [.ref (sk.1 (6))]) (rest := []) (aX7_wordKind 54 rfl) wc_RX7_87 (by decide) rfl wi_yX7_isWord wv_yX7_isWord (c111 hS) (s111 hS) rfl rfl rfl (Nat.le_of_ble_eq_true rfl) (Nat.le_of_ble_eq_true rfl) (k_X7_isWord (d := d) hS hF hI hR (6) (by decide) ) (fun v98 sv99 p100 => ?_)
    obtain ⟨r101, rfl, rfl, t105⟩ := p100
    show hw sk base _ _ _ _ _ [.int (r101)] _ _
    refine hw_ifeq (tgt := 218) (aX7_wordKind 55 rfl) (by decide) rfl (fun cd108 => ?_) (fun cd108 => ?_)
    · refine hw_ic (v := (4 : Int32)) (aX7_wordKind 58 rfl) (by decide) ?_
      refine xw_iret (aX7_wordKind 59 rfl) rfl rfl ?_
      have e109 : ((4 : Int32)).toInt = 4 := (by decide : (4 : Int32).toInt = 4)
      exact ⟨(4 : Int32), rfl, rfl, (by have : ((4 : Int32)).toInt = 4 := (by decide); omega)⟩
    · refine hw_bp (v := (13 : Int32)) (aX7_wordKind 56 rfl) (by decide) ?_
      refine xw_goto (tgt := 219) (aX7_wordKind 57 rfl) (by decide) ?_
      refine xw_iret (aX7_wordKind 59 rfl) rfl rfl ?_
      have e110 : ((13 : Int32)).toInt = 13 := (by decide : (13 : Int32).toInt = 13)
      exact ⟨(13 : Int32), rfl, rfl, (by have : ((13 : Int32)).toInt = 13 := (by decide); omega)⟩
  · refine xw_tsw (tgt := 108) aX7_wordKind_8 (by exact Or.inr ⟨by omega, by omega, _, by rw [hsw]; rfl, by decide⟩) ?_
    refine hw_aloadn (aX7_wordKind 4 rfl) rfl ?_
    refine hw_ldcS (k := 0) (aX7_wordKind 5 rfl) (by decide) rfl rfl ?_
    refine hw_callV (Bs := [.ref (sk.1 (0))]) (rest := []) (aX7_wordKind 6 rfl) wc_RX7_87 (by decide) rfl wi_yX7_isWord wv_yX7_isWord (c111 hS) (s111 hS) rfl rfl rfl (Nat.le_of_ble_eq_true rfl) (Nat.le_of_ble_eq_true rfl) (k_X7_isWord (d := d) hS hF hI hR (0) (by decide) ) (fun v111 sv112 p113 => ?_)
    obtain ⟨r114, rfl, rfl, t118⟩ := p113
    show hw sk base _ _ _ _ _ [.int (r114)] _ _
    refine hw_ifeq (tgt := 122) (aX7_wordKind 7 rfl) (by decide) rfl (fun cd121 => ?_) (fun cd121 => ?_)
    · refine hw_ic (v := (4 : Int32)) (aX7_wordKind 10 rfl) (by decide) ?_
      refine xw_iret (aX7_wordKind 11 rfl) rfl rfl ?_
      have e122 : ((4 : Int32)).toInt = 4 := (by decide : (4 : Int32).toInt = 4)
      exact ⟨(4 : Int32), rfl, rfl, (by have : ((4 : Int32)).toInt = 4 := (by decide); omega)⟩
    · refine hw_bp (v := (7 : Int32)) (aX7_wordKind 8 rfl) (by decide) ?_
      refine xw_goto (tgt := 123) (aX7_wordKind 9 rfl) (by decide) ?_
      refine xw_iret (aX7_wordKind 11 rfl) rfl rfl ?_
      have e123 : ((7 : Int32)).toInt = 7 := (by decide : (7 : Int32).toInt = 7)
      exact ⟨(7 : Int32), rfl, rfl, (by have : ((7 : Int32)).toInt = 7 := (by decide); omega)⟩
  · refine xw_tsw (tgt := 220) aX7_wordKind_8 (by exact Or.inr ⟨by omega, by omega, _, by rw [hsw]; rfl, by decide⟩) ?_
    refine hw_aloadn (aX7_wordKind 60 rfl) rfl ?_
    refine hw_ldcS (k := 7) (aX7_wordKind 61 rfl) (by decide) rfl rfl ?_
    refine hw_callV (Bs := [.ref (sk.1 (7))]) (rest := []) (aX7_wordKind 62 rfl) wc_RX7_87 (by decide) rfl wi_yX7_isWord wv_yX7_isWord (c111 hS) (s111 hS) rfl rfl rfl (Nat.le_of_ble_eq_true rfl) (Nat.le_of_ble_eq_true rfl) (k_X7_isWord (d := d) hS hF hI hR (7) (by decide) ) (fun v124 sv125 p126 => ?_)
    obtain ⟨r127, rfl, rfl, t131⟩ := p126
    show hw sk base _ _ _ _ _ [.int (r127)] _ _
    refine hw_ifeq (tgt := 234) (aX7_wordKind 63 rfl) (by decide) rfl (fun cd134 => ?_) (fun cd134 => ?_)
    · refine hw_ic (v := (4 : Int32)) (aX7_wordKind 66 rfl) (by decide) ?_
      refine xw_iret (aX7_wordKind 67 rfl) rfl rfl ?_
      have e135 : ((4 : Int32)).toInt = 4 := (by decide : (4 : Int32).toInt = 4)
      exact ⟨(4 : Int32), rfl, rfl, (by have : ((4 : Int32)).toInt = 4 := (by decide); omega)⟩
    · refine hw_bp (v := (14 : Int32)) (aX7_wordKind 64 rfl) (by decide) ?_
      refine xw_goto (tgt := 235) (aX7_wordKind 65 rfl) (by decide) ?_
      refine xw_iret (aX7_wordKind 67 rfl) rfl rfl ?_
      have e136 : ((14 : Int32)).toInt = 14 := (by decide : (14 : Int32).toInt = 14)
      exact ⟨(14 : Int32), rfl, rfl, (by have : ((14 : Int32)).toInt = 14 := (by decide); omega)⟩
  · refine xw_tsw (tgt := 124) aX7_wordKind_8 (by exact Or.inr ⟨by omega, by omega, _, by rw [hsw]; rfl, by decide⟩) ?_
    refine hw_aloadn (aX7_wordKind 12 rfl) rfl ?_
    refine hw_ldcS (k := 1) (aX7_wordKind 13 rfl) (by decide) rfl rfl ?_
    refine hw_callV (Bs := [.ref (sk.1 (1))]) (rest := []) (aX7_wordKind 14 rfl) wc_RX7_87 (by decide) rfl wi_yX7_isWord wv_yX7_isWord (c111 hS) (s111 hS) rfl rfl rfl (Nat.le_of_ble_eq_true rfl) (Nat.le_of_ble_eq_true rfl) (k_X7_isWord (d := d) hS hF hI hR (1) (by decide) ) (fun v137 sv138 p139 => ?_)
    obtain ⟨r140, rfl, rfl, t144⟩ := p139
    show hw sk base _ _ _ _ _ [.int (r140)] _ _
    refine hw_ifeq (tgt := 138) (aX7_wordKind 15 rfl) (by decide) rfl (fun cd147 => ?_) (fun cd147 => ?_)
    · refine hw_ic (v := (4 : Int32)) (aX7_wordKind 18 rfl) (by decide) ?_
      refine xw_iret (aX7_wordKind 19 rfl) rfl rfl ?_
      have e148 : ((4 : Int32)).toInt = 4 := (by decide : (4 : Int32).toInt = 4)
      exact ⟨(4 : Int32), rfl, rfl, (by have : ((4 : Int32)).toInt = 4 := (by decide); omega)⟩
    · refine hw_bp (v := (8 : Int32)) (aX7_wordKind 16 rfl) (by decide) ?_
      refine xw_goto (tgt := 139) (aX7_wordKind 17 rfl) (by decide) ?_
      refine xw_iret (aX7_wordKind 19 rfl) rfl rfl ?_
      have e149 : ((8 : Int32)).toInt = 8 := (by decide : (8 : Int32).toInt = 8)
      exact ⟨(8 : Int32), rfl, rfl, (by have : ((8 : Int32)).toInt = 8 := (by decide); omega)⟩
def nX7_readSign : Nat := 0xb12600b560043600b42a2a2c00b5060400a71b07009b7d00b6921b7b122a2000a72600b560053600b42a2a10009f062c00b42a3500a72600b560063600b42a2a2c00b518102a1600a03e103900b660053600b42a2a2500a017102c00b42a2c00b57800b81c1b2a3d3900b660043600b42a2a
theorem bX7_readSign : cX7_readSign.data.toList.map UInt8.toNat = x_un nX7_readSign 114 := by decide +kernel
def iX7_readSign : List (Nat × Jvm.ClassFile.Instr × Nat) := [(0, .aload_n 0, 1), (1, .aload_n 0, 1), (2, .getfield 54, 3), (5, .iconst 1, 1), (6, .iadd, 1), (7, .invokevirtual 57, 3), (10, .istore_n 2, 1), (11, .aload_n 0, 1), (12, .iload_n 1, 1), (13, .iload_n 2, 1), (14, .invokestatic 120, 3), (17, .putfield 44, 3), (20, .aload_n 0, 1), (21, .getfield 44, 3), (24, .bipush 23, 2), (26, .if_icmp .ne 37, 3), (29, .aload_n 0, 1), (30, .aload_n 0, 1), (31, .getfield 54, 3), (34, .iconst 2, 1), (35, .iadd, 1), (36, .invokevirtual 57, 3), (39, .bipush 62, 2), (41, .if_icmp .ne 22, 3), (44, .aload_n 0, 1), (45, .bipush 24, 2), (47, .putfield 44, 3), (50, .aload_n 0, 1), (51, .aload_n 0, 1), (52, .getfield 54, 3), (55, .iconst 3, 1), (56, .iadd, 1), (57, .putfield 38, 3), (60, .goto 53, 3), (63, .aload_n 0, 1), (64, .getfield 44, 3), (67, .iconst 3, 1), (68, .if_icmp .eq 16, 3), (71, .aload_n 0, 1), (72, .aload_n 0, 1), (73, .getfield 54, 3), (76, .iconst 2, 1), (77, .iadd, 1), (78, .putfield 38, 3), (81, .goto 32, 3), (84, .aload_n 0, 1), (85, .ldc 123, 2), (87, .iload_n 1, 1), (88, .i2c, 1), (89, .invokevirtual 125, 3), (92, .ifCond .lt 7, 3), (95, .iload_n 1, 1), (96, .goto 4, 3), (99, .iconst 3, 1), (100, .putfield 44, 3), (103, .aload_n 0, 1), (104, .aload_n 0, 1), (105, .getfield 54, 3), (108, .iconst 1, 1), (109, .iadd, 1), (110, .putfield 38, 3), (113, .return_, 1)]
theorem dX7_readSign : x_il nX7_readSign 114 iX7_readSign = true := by decide +kernel
theorem aX7_readSign (k : Nat) {pc : Nat} {i : Jvm.ClassFile.Instr} {len : Nat} (hk : iX7_readSign[k]? = some (pc, i, len)) : x_at xMM 75 pc i len yX7_readSign 3 none := ⟨cX7_readSign, rfl, x_il_ok bX7_readSign dX7_readSign k hk⟩
set_option maxHeartbeats 4000000 in
set_option maxRecDepth 100000 in
theorem k_readSign {sk : xK} {base d n sl : Nat} {SH : Nat → Nat × Nat} {FI : Nat → Nat → Int32} {FL : Nat → Nat → Int64} {FR : Nat → Nat → Option Nat} (hS : h_S n SH) (hF : h_FR FR) (hI : g_I FI) (hR : g_R n SH FR) (a1 : Int32) (g0 : (FI 111 7).toInt < (FI 111 6).toInt) : hw sk base (d + 4) none 75 0 [(0, .ref (base + 111)), (1, .int (a1))] [] (n, sl, SH, FI, FL, FR) (h_V (fun s => ∃ FI', s = (n, sl, SH, FI', FL, FR) ∧ g_I FI' ∧ g_fr n (shd SH) [(111, 8), (111, 9)] [] [] FI FI' ∧ ((FI 111 7).toInt + 1 ≤ (FI' 111 8).toInt ∧ (FI' 111 8).toInt ≤ (FI 111 7).toInt + 3))) := by
  have rg_a1 := i_rng a1
  obtain ⟨x1, h2⟩ : ∃ y, FI 111 7 = y := ⟨_, rfl⟩
  have h2l := congrArg Int32.toInt h2
  have b3 := gI_111_7 hI; rw [h2] at b3
  obtain ⟨x4, h5⟩ : ∃ y, FI 111 6 = y := ⟨_, rfl⟩
  have h5l := congrArg Int32.toInt h5
  have b6 := gI_111_6 hI; rw [h5] at b6
  obtain ⟨x7, h8⟩ : ∃ y, FI 111 8 = y := ⟨_, rfl⟩
  have h8l := congrArg Int32.toInt h8
  have b9 := gI_111_8 hI; rw [h8] at b9
  refine hw_aloadn (aX7_readSign 0 rfl) rfl ?_
  refine hw_aloadn (aX7_readSign 1 rfl) rfl ?_
  refine hw_get (v := .int (x1)) (aX7_readSign 2 rfl) wf_RX7_54 (c111 hS) (s111 hS) (by decide) (congrArg Value.int (show FI 111 7 = x1 from h2)) ?_
  refine hw_ic (v := (1 : Int32)) (aX7_readSign 3 rfl) (by decide) ?_
  refine xw_iadd (aX7_readSign 4 rfl) ?_
  refine hw_tie (A := ((x1).toInt) + (1)) (i_add rfl (by decide : (1 : Int32).toInt = 1) (by omega) (by omega)) (fun x10 e11 => ?_)
  refine hw_callV (Bs := [.int (x10)]) (rest := []) (aX7_readSign 5 rfl) wc_RX7_57 (by decide) rfl wi_yX7_letter wv_yX7_letter (c111 hS) (s111 hS) rfl rfl rfl (Nat.le_of_ble_eq_true rfl) (Nat.le_of_ble_eq_true rfl) (k_letter2 (d := d + 3) hS hF hI hR (x10) ) (fun v12 sv13 p14 => ?_)
  have := (e11 : (x10).toInt = ((x1).toInt) + (1))
  have := (e11 : (x10).toInt = ((x1).toInt) + (1))
  have := congrArg Int32.toInt (show FI 111 6 = x4 from h5)
  obtain ⟨r15, rfl, rfl, t19, u20⟩ := p14
  have rg_r15 := i_rng r15
  show hw sk base _ _ _ _ _ [.int (r15)] _ _
  refine xw_istoren (L2 := [(2, .int (r15)), (0, .ref (base + 111)), (1, .int (a1))]) (aX7_readSign 6 rfl) (by decide) rfl ?_
  refine hw_aloadn (aX7_readSign 7 rfl) rfl ?_
  refine xw_iloadn (aX7_readSign 8 rfl) rfl ?_
  refine xw_iloadn (aX7_readSign 9 rfl) rfl ?_
  refine hw_callS (As := [.int (a1), .int (r15)]) (rest := [.ref (base + 111)]) (aX7_readSign 10 rfl) wc_RX7_120 (by decide) rfl wt_yX7_signOfTwo rfl rfl (Nat.le_of_ble_eq_true rfl) (Nat.le_of_ble_eq_true rfl) (k_X7_signOfTwo (d := d + 3) hS hF hI hR (a1) (r15) ) (fun v23 sv24 p25 => ?_)
  obtain ⟨r26, rfl, rfl⟩ := p25
  have rg_r26 := i_rng r26
  show hw sk base _ _ _ _ _ [.int (r26), .ref (base + 111)] _ _
  refine hv_puti (aX7_readSign 11 rfl) wf_RX7_44 (c111 hS) (s111 hS) (by decide) rfl rfl (fun FI32 u33 => ?_)
  have hI34 : g_I FI32 := gU_F hI u33 rfl
  refine hw_aloadn (aX7_readSign 12 rfl) rfl ?_
  refine hw_get (v := .int (r26)) (aX7_readSign 13 rfl) wf_RX7_44 (c111 hS) (s111 hS) (by decide) (congrArg Value.int (show FI32 111 9 = r26 from up_eq u33)) ?_
  refine hw_bp (v := (23 : Int32)) (aX7_readSign 14 rfl) (by decide) ?_
  refine hw_icne (tgt := 63) (aX7_readSign 15 rfl) (by decide) rfl (by decide : (23 : Int32).toInt = 23) (fun cd35 => ?_) (fun cd35 => ?_)
  · refine hw_aloadn (aX7_readSign 34 rfl) rfl ?_
    refine hw_get (v := .int (r26)) (aX7_readSign 35 rfl) wf_RX7_44 (c111 hS) (s111 hS) (by decide) (congrArg Value.int (show FI32 111 9 = r26 from up_eq u33)) ?_
    refine hw_ic (v := (3 : Int32)) (aX7_readSign 36 rfl) (by decide) ?_
    refine hw_iceq (tgt := 84) (aX7_readSign 37 rfl) (by decide) rfl (by decide : (3 : Int32).toInt = 3) (fun cd36 => ?_) (fun cd36 => ?_)
    · refine hw_aloadn (aX7_readSign 45 rfl) rfl ?_
      refine hw_ldcS (k := 10) (aX7_readSign 46 rfl) (by decide) rfl rfl ?_
      refine xw_iloadn (aX7_readSign 47 rfl) rfl ?_
      refine xw_i2c (aX7_readSign 48 rfl) ?_
      refine hw_ti (fun x37 => ?_)
      have b38 := i_rng x37
      refine hw_callT (k := 10) (Bs := [.int (x37)]) (rest := [.ref (base + 111)]) (aX7_readSign 49 rfl) wc_RX7_125 (by decide) rfl wi_yJ0_indexOf_0f7a4 wv_yJ0_indexOf_0f7a4 (by decide) rfl rfl rfl (Nat.le_of_ble_eq_true rfl) (Nat.le_of_ble_eq_true rfl) (k_J0_indexOf_0f7a4 (d := d) hS hF hI34 hR (10) (by decide) (x37) ) (fun v39 sv40 p41 => ?_)
      obtain ⟨r42, rfl, rfl⟩ := p41
      have rg_r42 := i_rng r42
      show hw sk base _ _ _ _ _ [.int (r42), .ref (base + 111)] _ _
      refine hw_iflt (tgt := 99) (aX7_readSign 50 rfl) (by decide) rfl (fun cd48 => ?_) (fun cd48 => ?_)
      · refine hw_ic (v := (3 : Int32)) (aX7_readSign 53 rfl) (by decide) ?_
        refine hv_puti (aX7_readSign 54 rfl) wf_RX7_44 (c111 hS) (s111 hS) (by decide) rfl rfl (fun FI49 u50 => ?_)
        have hI51 : g_I FI49 := gU_F hI34 u50 rfl
        refine hw_aloadn (aX7_readSign 55 rfl) rfl ?_
        refine hw_aloadn (aX7_readSign 56 rfl) rfl ?_
        refine hw_get (v := .int (x1)) (aX7_readSign 57 rfl) wf_RX7_54 (c111 hS) (s111 hS) (by decide) (congrArg Value.int (show FI49 111 7 = x1 from (up_k u50 (by decide) ((up_k u33 (by decide) (h2)))))) ?_
        refine hw_ic (v := (1 : Int32)) (aX7_readSign 58 rfl) (by decide) ?_
        refine xw_iadd (aX7_readSign 59 rfl) ?_
        refine hw_tie (A := ((x1).toInt) + (1)) (i_add rfl (by decide : (1 : Int32).toInt = 1) (by omega) (by omega)) (fun x52 e53 => ?_)
        refine hv_puti (aX7_readSign 60 rfl) wf_RX7_38 (c111 hS) (s111 hS) (by decide) rfl rfl (fun FI54 u55 => ?_)
        have hI56 : g_I FI54 := gU_111_8 hI51 u55 (by have := (e53 : (x52).toInt = ((x1).toInt) + (1)); omega) (by have := (e53 : (x52).toInt = ((x1).toInt) + (1)); omega)
        refine xw_vret (aX7_readSign 61 rfl) rfl ?_
        exact ⟨rfl, FI54, rfl, hI56, (gf_f (gf_f (gf_f gf_rf u33 (by decide)) u50 (by decide)) u55 (by decide)), (by have := congrArg Int32.toInt (show FI54 111 8 = x52 from up_eq u55); have := (e53 : (x52).toInt = ((x1).toInt) + (1)); omega)⟩
      · refine xw_iloadn (aX7_readSign 51 rfl) rfl ?_
        refine xw_goto (tgt := 100) (aX7_readSign 52 rfl) (by decide) ?_
        refine hv_puti (aX7_readSign 54 rfl) wf_RX7_44 (c111 hS) (s111 hS) (by decide) rfl rfl (fun FI57 u58 => ?_)
        have hI59 : g_I FI57 := gU_F hI34 u58 rfl
        refine hw_aloadn (aX7_readSign 55 rfl) rfl ?_
        refine hw_aloadn (aX7_readSign 56 rfl) rfl ?_
        refine hw_get (v := .int (x1)) (aX7_readSign 57 rfl) wf_RX7_54 (c111 hS) (s111 hS) (by decide) (congrArg Value.int (show FI57 111 7 = x1 from (up_k u58 (by decide) ((up_k u33 (by decide) (h2)))))) ?_
        refine hw_ic (v := (1 : Int32)) (aX7_readSign 58 rfl) (by decide) ?_
        refine xw_iadd (aX7_readSign 59 rfl) ?_
        refine hw_tie (A := ((x1).toInt) + (1)) (i_add rfl (by decide : (1 : Int32).toInt = 1) (by omega) (by omega)) (fun x60 e61 => ?_)
        refine hv_puti (aX7_readSign 60 rfl) wf_RX7_38 (c111 hS) (s111 hS) (by decide) rfl rfl (fun FI62 u63 => ?_)
        have hI64 : g_I FI62 := gU_111_8 hI59 u63 (by have := (e61 : (x60).toInt = ((x1).toInt) + (1)); omega) (by have := (e61 : (x60).toInt = ((x1).toInt) + (1)); omega)
        refine xw_vret (aX7_readSign 61 rfl) rfl ?_
        exact ⟨rfl, FI62, rfl, hI64, (gf_f (gf_f (gf_f gf_rf u33 (by decide)) u58 (by decide)) u63 (by decide)), (by have := congrArg Int32.toInt (show FI62 111 8 = x60 from up_eq u63); have := (e61 : (x60).toInt = ((x1).toInt) + (1)); omega)⟩
    · refine hw_aloadn (aX7_readSign 38 rfl) rfl ?_
      refine hw_aloadn (aX7_readSign 39 rfl) rfl ?_
      refine hw_get (v := .int (x1)) (aX7_readSign 40 rfl) wf_RX7_54 (c111 hS) (s111 hS) (by decide) (congrArg Value.int (show FI32 111 7 = x1 from (up_k u33 (by decide) (h2)))) ?_
      refine hw_ic (v := (2 : Int32)) (aX7_readSign 41 rfl) (by decide) ?_
      refine xw_iadd (aX7_readSign 42 rfl) ?_
      refine hw_tie (A := ((x1).toInt) + (2)) (i_add rfl (by decide : (2 : Int32).toInt = 2) (by omega) (by omega)) (fun x65 e66 => ?_)
      refine hv_puti (aX7_readSign 43 rfl) wf_RX7_38 (c111 hS) (s111 hS) (by decide) rfl rfl (fun FI67 u68 => ?_)
      have hI69 : g_I FI67 := gU_111_8 hI34 u68 (by have := (e66 : (x65).toInt = ((x1).toInt) + (2)); omega) (by have := (e66 : (x65).toInt = ((x1).toInt) + (2)); omega)
      refine xw_goto (tgt := 113) (aX7_readSign 44 rfl) (by decide) ?_
      refine xw_vret (aX7_readSign 61 rfl) rfl ?_
      exact ⟨rfl, FI67, rfl, hI69, (gf_f (gf_f gf_rf u33 (by decide)) u68 (by decide)), (by have := congrArg Int32.toInt (show FI67 111 8 = x65 from up_eq u68); have := (e66 : (x65).toInt = ((x1).toInt) + (2)); omega)⟩
  · refine hw_aloadn (aX7_readSign 16 rfl) rfl ?_
    refine hw_aloadn (aX7_readSign 17 rfl) rfl ?_
    refine hw_get (v := .int (x1)) (aX7_readSign 18 rfl) wf_RX7_54 (c111 hS) (s111 hS) (by decide) (congrArg Value.int (show FI32 111 7 = x1 from (up_k u33 (by decide) (h2)))) ?_
    refine hw_ic (v := (2 : Int32)) (aX7_readSign 19 rfl) (by decide) ?_
    refine xw_iadd (aX7_readSign 20 rfl) ?_
    refine hw_tie (A := ((x1).toInt) + (2)) (i_add rfl (by decide : (2 : Int32).toInt = 2) (by omega) (by omega)) (fun x70 e71 => ?_)
    refine hw_callV (Bs := [.int (x70)]) (rest := []) (aX7_readSign 21 rfl) wc_RX7_57 (by decide) rfl wi_yX7_letter wv_yX7_letter (c111 hS) (s111 hS) rfl rfl rfl (Nat.le_of_ble_eq_true rfl) (Nat.le_of_ble_eq_true rfl) (k_letter2 (d := d + 3) hS hF hI34 hR (x70) ) (fun v72 sv73 p74 => ?_)
    have := (e71 : (x70).toInt = ((x1).toInt) + (2))
    have := (e71 : (x70).toInt = ((x1).toInt) + (2))
    have := congrArg Int32.toInt (show FI32 111 6 = x4 from (up_k u33 (by decide) (h5)))
    obtain ⟨r75, rfl, rfl, t79, u80⟩ := p74
    have rg_r75 := i_rng r75
    show hw sk base _ _ _ _ _ [.int (r75)] _ _
    refine hw_bp (v := (62 : Int32)) (aX7_readSign 22 rfl) (by decide) ?_
    refine hw_icne (tgt := 63) (aX7_readSign 23 rfl) (by decide) rfl (by decide : (62 : Int32).toInt = 62) (fun cd83 => ?_) (fun cd83 => ?_)
    · refine hw_aloadn (aX7_readSign 34 rfl) rfl ?_
      refine hw_get (v := .int (r26)) (aX7_readSign 35 rfl) wf_RX7_44 (c111 hS) (s111 hS) (by decide) (congrArg Value.int (show FI32 111 9 = r26 from up_eq u33)) ?_
      refine hw_ic (v := (3 : Int32)) (aX7_readSign 36 rfl) (by decide) ?_
      refine hw_iceq (tgt := 84) (aX7_readSign 37 rfl) (by decide) rfl (by decide : (3 : Int32).toInt = 3) (fun cd84 => ?_) (fun cd84 => ?_)
      · omega
      · refine hw_aloadn (aX7_readSign 38 rfl) rfl ?_
        refine hw_aloadn (aX7_readSign 39 rfl) rfl ?_
        refine hw_get (v := .int (x1)) (aX7_readSign 40 rfl) wf_RX7_54 (c111 hS) (s111 hS) (by decide) (congrArg Value.int (show FI32 111 7 = x1 from (up_k u33 (by decide) (h2)))) ?_
        refine hw_ic (v := (2 : Int32)) (aX7_readSign 41 rfl) (by decide) ?_
        refine xw_iadd (aX7_readSign 42 rfl) ?_
        refine hw_tie (A := ((x1).toInt) + (2)) (i_add rfl (by decide : (2 : Int32).toInt = 2) (by omega) (by omega)) (fun x85 e86 => ?_)
        refine hv_puti (aX7_readSign 43 rfl) wf_RX7_38 (c111 hS) (s111 hS) (by decide) rfl rfl (fun FI87 u88 => ?_)
        have hI89 : g_I FI87 := gU_111_8 hI34 u88 (by have := (e86 : (x85).toInt = ((x1).toInt) + (2)); omega) (by have := (e86 : (x85).toInt = ((x1).toInt) + (2)); omega)
        refine xw_goto (tgt := 113) (aX7_readSign 44 rfl) (by decide) ?_
        refine xw_vret (aX7_readSign 61 rfl) rfl ?_
        exact ⟨rfl, FI87, rfl, hI89, (gf_f (gf_f gf_rf u33 (by decide)) u88 (by decide)), (by have := congrArg Int32.toInt (show FI87 111 8 = x85 from up_eq u88); have := (e86 : (x85).toInt = ((x1).toInt) + (2)); omega)⟩
    · refine hw_aloadn (aX7_readSign 24 rfl) rfl ?_
      refine hw_bp (v := (24 : Int32)) (aX7_readSign 25 rfl) (by decide) ?_
      refine hv_puti (aX7_readSign 26 rfl) wf_RX7_44 (c111 hS) (s111 hS) (by decide) rfl rfl (fun FI90 u91 => ?_)
      have hI92 : g_I FI90 := gU_F hI34 u91 rfl
      refine hw_aloadn (aX7_readSign 27 rfl) rfl ?_
      refine hw_aloadn (aX7_readSign 28 rfl) rfl ?_
      refine hw_get (v := .int (x1)) (aX7_readSign 29 rfl) wf_RX7_54 (c111 hS) (s111 hS) (by decide) (congrArg Value.int (show FI90 111 7 = x1 from (up_k u91 (by decide) ((up_k u33 (by decide) (h2)))))) ?_
      refine hw_ic (v := (3 : Int32)) (aX7_readSign 30 rfl) (by decide) ?_
      refine xw_iadd (aX7_readSign 31 rfl) ?_
      refine hw_tie (A := ((x1).toInt) + (3)) (i_add rfl (by decide : (3 : Int32).toInt = 3) (by omega) (by omega)) (fun x93 e94 => ?_)
      refine hv_puti (aX7_readSign 32 rfl) wf_RX7_38 (c111 hS) (s111 hS) (by decide) rfl rfl (fun FI95 u96 => ?_)
      have hI97 : g_I FI95 := gU_111_8 hI92 u96 (by have := (e94 : (x93).toInt = ((x1).toInt) + (3)); omega) (by have := (e94 : (x93).toInt = ((x1).toInt) + (3)); omega)
      refine xw_goto (tgt := 113) (aX7_readSign 33 rfl) (by decide) ?_
      refine xw_vret (aX7_readSign 61 rfl) rfl ?_
      exact ⟨rfl, FI95, rfl, hI97, (gf_f (gf_f (gf_f gf_rf u33 (by decide)) u91 (by decide)) u96 (by decide)), (by have := congrArg Int32.toInt (show FI95 111 8 = x93 from up_eq u96); have := (e94 : (x93).toInt = ((x1).toInt) + (3)); omega)⟩
end
section
def nX7_readWord : Nat := 0xb12c00b55100b62a2a2600b5601b3600b42a2ad7ffa70101840900994400b83900b6601b3600b42a2a13009a3d00b83900b6601b3600b42a2a2900a208101b3c03
theorem bX7_readWord : cX7_readWord.data.toList.map UInt8.toNat = x_un nX7_readWord 65 := by decide +kernel
def iX7_readWord : List (Nat × Jvm.ClassFile.Instr × Nat) := [(0, .iconst 0, 1), (1, .istore_n 1, 1), (2, .iload_n 1, 1), (3, .bipush 8, 2), (5, .if_icmp .ge 41, 3), (8, .aload_n 0, 1), (9, .aload_n 0, 1), (10, .getfield 54, 3), (13, .iload_n 1, 1), (14, .iadd, 1), (15, .invokevirtual 57, 3), (18, .invokestatic 61, 3), (21, .ifCond .ne 19, 3), (24, .aload_n 0, 1), (25, .aload_n 0, 1), (26, .getfield 54, 3), (29, .iload_n 1, 1), (30, .iadd, 1), (31, .invokevirtual 57, 3), (34, .invokestatic 68, 3), (37, .ifCond .eq 9, 3), (40, .iinc 1 1, 3), (43, .goto (-41), 3), (46, .aload_n 0, 1), (47, .aload_n 0, 1), (48, .getfield 54, 3), (51, .iload_n 1, 1), (52, .iadd, 1), (53, .putfield 38, 3), (56, .aload_n 0, 1), (57, .aload_n 0, 1), (58, .invokevirtual 81, 3), (61, .putfield 44, 3), (64, .return_, 1)]
theorem dX7_readWord : x_il nX7_readWord 65 iX7_readWord = true := by decide +kernel
theorem aX7_readWord (k : Nat) {pc : Nat} {i : Jvm.ClassFile.Instr} {len : Nat} (hk : iX7_readWord[k]? = some (pc, i, len)) : x_at xMM 70 pc i len yX7_readWord 2 none := ⟨cX7_readWord, rfl, x_il_ok bX7_readWord dX7_readWord k hk⟩
set_option maxHeartbeats 4000000 in
set_option maxRecDepth 100000 in
theorem k_X7_readWord {sk : xK} {base d n sl : Nat} {SH : Nat → Nat × Nat} {FI : Nat → Nat → Int32} {FL : Nat → Nat → Int64} {FR : Nat → Nat → Option Nat} (hS : h_S n SH) (hF : h_FR FR) (hI : g_I FI) (hR : g_R n SH FR) (g0 : (FI 111 7).toInt < (FI 111 6).toInt) (gg0 : 97 ≤ (g_let SH FI FR (FI 111 7)).toInt ∧ (g_let SH FI FR (FI 111 7)).toInt ≤ 122) : hw sk base (d + 6) none 70 0 [(0, .ref (base + 111))] [] (n, sl, SH, FI, FL, FR) (h_V (fun s => ∃ FI', s = (n, sl, SH, FI', FL, FR) ∧ g_I FI' ∧ g_fr n (shd SH) [(111, 8), (111, 9)] [] [] FI FI' ∧ ((FI 111 7).toInt + 1 ≤ (FI' 111 8).toInt ∧ (FI' 111 8).toInt ≤ (FI 111 7).toInt + 8) ∧ (4 ≤ (FI' 111 9).toInt))) := by
  obtain ⟨x1, h2⟩ : ∃ y, FI 111 7 = y := ⟨_, rfl⟩
  have h2l := congrArg Int32.toInt h2
  have b3 := gI_111_7 hI; rw [h2] at b3
  obtain ⟨x4, h5⟩ : ∃ y, FI 111 6 = y := ⟨_, rfl⟩
  have h5l := congrArg Int32.toInt h5
  have b6 := gI_111_6 hI; rw [h5] at b6
  obtain ⟨x7, h8⟩ : ∃ y, FI 111 8 = y := ⟨_, rfl⟩
  have h8l := congrArg Int32.toInt h8
  have b9 := gI_111_8 hI; rw [h8] at b9
  obtain ⟨x10, h11⟩ : ∃ y, FI 111 9 = y := ⟨_, rfl⟩
  have h11l := congrArg Int32.toInt h11
  have := i_rng x10
  refine hw_ic (v := (0 : Int32)) (aX7_readWord 0 rfl) (by decide) ?_
  refine xw_istoren (L2 := [(1, .int ((0 : Int32))), (0, .ref (base + 111))]) (aX7_readWord 1 rfl) (by decide) rfl ?_
  have lp14 : ∀ (m : Nat) (y1 : Int32), (0 ≤ (y1).toInt ∧ (y1).toInt ≤ 8) → ((FI 111 7).toInt + (y1).toInt ≤ (FI 111 6).toInt) → 8 - (y1).toInt < m → hw sk base (d + 6) none 70 2 [(1, .int (y1)), (0, .ref (base + 111))] [] (n, sl, SH, FI, FL, FR) (h_V (fun s => ∃ FI', s = (n, sl, SH, FI', FL, FR) ∧ g_I FI' ∧ g_fr n (shd SH) [(111, 8), (111, 9)] [] [] FI FI' ∧ ((FI 111 7).toInt + 1 ≤ (FI' 111 8).toInt ∧ (FI' 111 8).toInt ≤ (FI 111 7).toInt + 8) ∧ (4 ≤ (FI' 111 9).toInt))) := by
    intro m
    induction m with
    | zero => intro y1 iv12 iv13 hm; omega
    | succ m ih =>
      intro y1 iv12 iv13 hm
      have rg_y1 := i_rng y1
      refine xw_iloadn (aX7_readWord 2 rfl) rfl ?_
      refine hw_bp (v := (8 : Int32)) (aX7_readWord 3 rfl) (by decide) ?_
      refine hw_icge (tgt := 46) (aX7_readWord 4 rfl) (by decide) rfl (by decide : (8 : Int32).toInt = 8) (fun cd15 => ?_) (fun cd15 => ?_)
      · have hl1 : 1 ≤ (y1).toInt := by omega
        refine hw_aloadn (aX7_readWord 23 rfl) rfl ?_
        refine hw_aloadn (aX7_readWord 24 rfl) rfl ?_
        refine hw_get (v := .int (x1)) (aX7_readWord 25 rfl) wf_RX7_54 (c111 hS) (s111 hS) (by decide) (congrArg Value.int (show FI 111 7 = x1 from h2)) ?_
        refine xw_iloadn (aX7_readWord 26 rfl) rfl ?_
        refine xw_iadd (aX7_readWord 27 rfl) ?_
        refine hw_tie (A := ((x1).toInt) + ((y1).toInt)) (i_add rfl rfl (by omega) (by omega)) (fun x16 e17 => ?_)
        refine hv_puti (aX7_readWord 28 rfl) wf_RX7_38 (c111 hS) (s111 hS) (by decide) rfl rfl (fun FI18 u19 => ?_)
        have hI20 : g_I FI18 := gU_111_8 hI u19 (by have := (e17 : (x16).toInt = ((x1).toInt) + ((y1).toInt)); omega) (by have := (e17 : (x16).toInt = ((x1).toInt) + ((y1).toInt)); omega)
        refine hw_aloadn (aX7_readWord 29 rfl) rfl ?_
        refine hw_aloadn (aX7_readWord 30 rfl) rfl ?_
        refine hw_callV (Bs := []) (rest := [.ref (base + 111)]) (aX7_readWord 31 rfl) wc_RX7_81 (by decide) rfl wi_yX7_wordKind wv_yX7_wordKind (c111 hS) (s111 hS) rfl rfl rfl (Nat.le_of_ble_eq_true rfl) (Nat.le_of_ble_eq_true rfl) (k_wordKind (d := d) hS hF hI20 hR ) (fun v21 sv22 p23 => ?_)
        obtain ⟨r24, rfl, rfl, t28⟩ := p23
        have rg_r24 := i_rng r24
        show hw sk base _ _ _ _ _ [.int (r24), .ref (base + 111)] _ _
        refine hv_puti (aX7_readWord 32 rfl) wf_RX7_44 (c111 hS) (s111 hS) (by decide) rfl rfl (fun FI31 u32 => ?_)
        have hI33 : g_I FI31 := gU_F hI20 u32 rfl
        refine xw_vret (aX7_readWord 33 rfl) rfl ?_
        exact ⟨rfl, FI31, rfl, hI33, (gf_f (gf_f gf_rf u19 (by decide)) u32 (by decide)), (by have := congrArg Int32.toInt (show FI31 111 8 = x16 from (up_k u32 (by decide) (up_eq u19))); have := (e17 : (x16).toInt = ((x1).toInt) + ((y1).toInt)); omega), (by have := congrArg Int32.toInt (show FI31 111 9 = r24 from up_eq u32); omega)⟩
      · refine hw_aloadn (aX7_readWord 5 rfl) rfl ?_
        refine hw_aloadn (aX7_readWord 6 rfl) rfl ?_
        refine hw_get (v := .int (x1)) (aX7_readWord 7 rfl) wf_RX7_54 (c111 hS) (s111 hS) (by decide) (congrArg Value.int (show FI 111 7 = x1 from h2)) ?_
        refine xw_iloadn (aX7_readWord 8 rfl) rfl ?_
        refine xw_iadd (aX7_readWord 9 rfl) ?_
        refine hw_tie (A := ((x1).toInt) + ((y1).toInt)) (i_add rfl rfl (by omega) (by omega)) (fun x34 e35 => ?_)
        refine hw_callV (Bs := [.int (x34)]) (rest := []) (aX7_readWord 10 rfl) wc_RX7_57 (by decide) rfl wi_yX7_letter wv_yX7_letter (c111 hS) (s111 hS) rfl rfl rfl (Nat.le_of_ble_eq_true rfl) (Nat.le_of_ble_eq_true rfl) (k_letter2 (d := d + 5) hS hF hI hR (x34) ) (fun v36 sv37 p38 => ?_)
        have := (e35 : (x34).toInt = ((x1).toInt) + ((y1).toInt))
        have := (e35 : (x34).toInt = ((x1).toInt) + ((y1).toInt))
        have := congrArg Int32.toInt (show FI 111 6 = x4 from h5)
        obtain ⟨r39, rfl, rfl, t43, u44⟩ := p38
        have rg_r39 := i_rng r39
        show hw sk base _ _ _ _ _ [.int (r39)] _ _
        refine hw_callS (As := [.int (r39)]) (rest := []) (aX7_readWord 11 rfl) wc_RX7_61 (by decide) rfl wt_yX7_isSmall rfl rfl (Nat.le_of_ble_eq_true rfl) (Nat.le_of_ble_eq_true rfl) (k_isSmall2 (d := d + 5) hS hF hI hR (r39) ) (fun v47 sv48 p49 => ?_)
        obtain ⟨r50, rfl, rfl, t54, t55, t56⟩ := p49
        show hw sk base _ _ _ _ _ [.int (r50)] _ _
        refine hw_ifne (tgt := 40) (aX7_readWord 12 rfl) (by decide) rfl (fun cd59 => ?_) (fun cd59 => ?_)
        · replace t54 := t54 (by omega)
          clear t55
          obtain ⟨x60, q62⟩ : ∃ y : Int32, (y1) + Int32.ofInt (1) = y := ⟨_, rfl⟩
          have e61 : (x60).toInt = (y1).toInt + (1) := by rw [← q62]; exact i_add rfl (by decide) (by omega) (by omega)
          refine xw_iinc (L2 := [(1, .int (x60)), (0, .ref (base + 111))]) (aX7_readWord 21 rfl) rfl (by decide) (by rw [q62]; rfl) ?_
          refine xw_goto (tgt := 2) (aX7_readWord 22 rfl) (by decide) ?_
          exact hw_L (ih (x60) (by have := (e61 : (x60).toInt = (y1).toInt + (1)); omega) (by have := (e61 : (x60).toInt = (y1).toInt + (1)); omega) (by have := (e61 : (x60).toInt = (y1).toInt + (1)); omega)) ⟨rfl, rfl, trivial⟩
        · clear t54
          replace t55 := t55 (by omega)
          refine hw_aloadn (aX7_readWord 13 rfl) rfl ?_
          refine hw_aloadn (aX7_readWord 14 rfl) rfl ?_
          refine hw_get (v := .int (x1)) (aX7_readWord 15 rfl) wf_RX7_54 (c111 hS) (s111 hS) (by decide) (congrArg Value.int (show FI 111 7 = x1 from h2)) ?_
          refine xw_iloadn (aX7_readWord 16 rfl) rfl ?_
          refine xw_iadd (aX7_readWord 17 rfl) ?_
          refine hw_tie (A := ((x1).toInt) + ((y1).toInt)) (i_add rfl rfl (by omega) (by omega)) (fun x63 e64 => ?_)
          refine hw_callV (Bs := [.int (x63)]) (rest := []) (aX7_readWord 18 rfl) wc_RX7_57 (by decide) rfl wi_yX7_letter wv_yX7_letter (c111 hS) (s111 hS) rfl rfl rfl (Nat.le_of_ble_eq_true rfl) (Nat.le_of_ble_eq_true rfl) (k_letter2 (d := d + 5) hS hF hI hR (x63) ) (fun v65 sv66 p67 => ?_)
          have := (e64 : (x63).toInt = ((x1).toInt) + ((y1).toInt))
          have := (e64 : (x63).toInt = ((x1).toInt) + ((y1).toInt))
          have := congrArg Int32.toInt (show FI 111 6 = x4 from h5)
          obtain ⟨r68, rfl, rfl, t72, u73⟩ := p67
          have rg_r68 := i_rng r68
          show hw sk base _ _ _ _ _ [.int (r68)] _ _
          refine hw_callS (As := [.int (r68)]) (rest := []) (aX7_readWord 19 rfl) wc_RX7_68 (by decide) rfl wt_yX7_isDigit rfl rfl (Nat.le_of_ble_eq_true rfl) (Nat.le_of_ble_eq_true rfl) (k_isDigit2 (d := d + 5) hS hF hI hR (r68) ) (fun v76 sv77 p78 => ?_)
          obtain ⟨r79, rfl, rfl, t83, t84, t85⟩ := p78
          show hw sk base _ _ _ _ _ [.int (r79)] _ _
          refine hw_ifeq (tgt := 46) (aX7_readWord 20 rfl) (by decide) rfl (fun cd88 => ?_) (fun cd88 => ?_)
          · clear t83
            replace t84 := t84 (by omega)
            have hl1 : 1 ≤ (y1).toInt := by { by_cases hz : (y1).toInt = 0; { exfalso; have hx : x34 = FI 111 7 := i_eq (by have := (e35 : (x34).toInt = ((x1).toInt) + ((y1).toInt)); have := congrArg Int32.toInt (show FI 111 7 = x1 from h2); omega); have hg := gg0; rw [← hx, ← u44] at hg; omega }; { omega } }
            refine hw_aloadn (aX7_readWord 23 rfl) rfl ?_
            refine hw_aloadn (aX7_readWord 24 rfl) rfl ?_
            refine hw_get (v := .int (x1)) (aX7_readWord 25 rfl) wf_RX7_54 (c111 hS) (s111 hS) (by decide) (congrArg Value.int (show FI 111 7 = x1 from h2)) ?_
            refine xw_iloadn (aX7_readWord 26 rfl) rfl ?_
            refine xw_iadd (aX7_readWord 27 rfl) ?_
            refine hw_tie (A := ((x1).toInt) + ((y1).toInt)) (i_add rfl rfl (by omega) (by omega)) (fun x89 e90 => ?_)
            refine hv_puti (aX7_readWord 28 rfl) wf_RX7_38 (c111 hS) (s111 hS) (by decide) rfl rfl (fun FI91 u92 => ?_)
            have hI93 : g_I FI91 := gU_111_8 hI u92 (by have := (e90 : (x89).toInt = ((x1).toInt) + ((y1).toInt)); omega) (by have := (e90 : (x89).toInt = ((x1).toInt) + ((y1).toInt)); omega)
            refine hw_aloadn (aX7_readWord 29 rfl) rfl ?_
            refine hw_aloadn (aX7_readWord 30 rfl) rfl ?_
            refine hw_callV (Bs := []) (rest := [.ref (base + 111)]) (aX7_readWord 31 rfl) wc_RX7_81 (by decide) rfl wi_yX7_wordKind wv_yX7_wordKind (c111 hS) (s111 hS) rfl rfl rfl (Nat.le_of_ble_eq_true rfl) (Nat.le_of_ble_eq_true rfl) (k_wordKind (d := d) hS hF hI93 hR ) (fun v94 sv95 p96 => ?_)
            obtain ⟨r97, rfl, rfl, t101⟩ := p96
            have rg_r97 := i_rng r97
            show hw sk base _ _ _ _ _ [.int (r97), .ref (base + 111)] _ _
            refine hv_puti (aX7_readWord 32 rfl) wf_RX7_44 (c111 hS) (s111 hS) (by decide) rfl rfl (fun FI104 u105 => ?_)
            have hI106 : g_I FI104 := gU_F hI93 u105 rfl
            refine xw_vret (aX7_readWord 33 rfl) rfl ?_
            exact ⟨rfl, FI104, rfl, hI106, (gf_f (gf_f gf_rf u92 (by decide)) u105 (by decide)), (by have := congrArg Int32.toInt (show FI104 111 8 = x89 from (up_k u105 (by decide) (up_eq u92))); have := (e90 : (x89).toInt = ((x1).toInt) + ((y1).toInt)); omega), (by have := congrArg Int32.toInt (show FI104 111 9 = r97 from up_eq u105); omega)⟩
          · replace t83 := t83 (by omega)
            clear t84
            obtain ⟨x107, q109⟩ : ∃ y : Int32, (y1) + Int32.ofInt (1) = y := ⟨_, rfl⟩
            have e108 : (x107).toInt = (y1).toInt + (1) := by rw [← q109]; exact i_add rfl (by decide) (by omega) (by omega)
            refine xw_iinc (L2 := [(1, .int (x107)), (0, .ref (base + 111))]) (aX7_readWord 21 rfl) rfl (by decide) (by rw [q109]; rfl) ?_
            refine xw_goto (tgt := 2) (aX7_readWord 22 rfl) (by decide) ?_
            exact hw_L (ih (x107) (by have := (e108 : (x107).toInt = (y1).toInt + (1)); omega) (by have := (e108 : (x107).toInt = (y1).toInt + (1)); omega) (by have := (e108 : (x107).toInt = (y1).toInt + (1)); omega)) ⟨rfl, rfl, trivial⟩
  exact hw_L (lp14 ((8 - 0 : Int).toNat + 1) ((0 : Int32)) (by have := ((by decide : (0 : Int32).toInt = 0) : ((0 : Int32)).toInt = 0); omega) (by have := ((by decide : (0 : Int32).toInt = 0) : ((0 : Int32)).toInt = 0); omega) (by have := ((by decide : (0 : Int32).toInt = 0) : ((0 : Int32)).toInt = 0); omega)) ⟨rfl, rfl, trivial⟩
def nX7_readNumber : Nat := 0xb12c00b5080400a7060700a35a101c0d00a141101c0f009a3d00b81c16009a4400b81c2a3d3900b62600b42a2a2600b5601b3600b42a2accffa70101843200b561856430103900b6601b3600b42a2a697600143200b42a2a2400994400b83900b6601b3600b42a2a3400a212101b3c033200b5092a
theorem bX7_readNumber : cX7_readNumber.data.toList.map UInt8.toNat = x_un nX7_readNumber 117 := by decide +kernel
def iX7_readNumber : List (Nat × Jvm.ClassFile.Instr × Nat) := [(0, .aload_n 0, 1), (1, .lconst 0, 1), (2, .putfield 50, 3), (5, .iconst 0, 1), (6, .istore_n 1, 1), (7, .iload_n 1, 1), (8, .bipush 18, 2), (10, .if_icmp .ge 52, 3), (13, .aload_n 0, 1), (14, .aload_n 0, 1), (15, .getfield 54, 3), (18, .iload_n 1, 1), (19, .iadd, 1), (20, .invokevirtual 57, 3), (23, .invokestatic 68, 3), (26, .ifCond .eq 36, 3), (29, .aload_n 0, 1), (30, .aload_n 0, 1), (31, .getfield 50, 3), (34, .ldc2_w 118, 3), (37, .lmul, 1), (38, .aload_n 0, 1), (39, .aload_n 0, 1), (40, .getfield 54, 3), (43, .iload_n 1, 1), (44, .iadd, 1), (45, .invokevirtual 57, 3), (48, .bipush 48, 2), (50, .isub, 1), (51, .i2l, 1), (52, .ladd, 1), (53, .putfield 50, 3), (56, .iinc 1 1, 3), (59, .goto (-52), 3), (62, .aload_n 0, 1), (63, .aload_n 0, 1), (64, .getfield 54, 3), (67, .iload_n 1, 1), (68, .iadd, 1), (69, .putfield 38, 3), (72, .aload_n 0, 1), (73, .aload_n 0, 1), (74, .getfield 38, 3), (77, .invokevirtual 57, 3), (80, .istore_n 2, 1), (81, .aload_n 0, 1), (82, .iload_n 2, 1), (83, .invokestatic 68, 3), (86, .ifCond .ne 22, 3), (89, .iload_n 2, 1), (90, .invokestatic 61, 3), (93, .ifCond .ne 15, 3), (96, .iload_n 2, 1), (97, .bipush 65, 2), (99, .if_icmp .lt 13, 3), (102, .iload_n 2, 1), (103, .bipush 90, 2), (105, .if_icmp .gt 7, 3), (108, .iconst 3, 1), (109, .goto 4, 3), (112, .iconst 5, 1), (113, .putfield 44, 3), (116, .return_, 1)]
theorem dX7_readNumber : x_il nX7_readNumber 117 iX7_readNumber = true := by decide +kernel
theorem aX7_readNumber (k : Nat) {pc : Nat} {i : Jvm.ClassFile.Instr} {len : Nat} (hk : iX7_readNumber[k]? = some (pc, i, len)) : x_at xMM 73 pc i len yX7_readNumber 3 none := ⟨cX7_readNumber, rfl, x_il_ok bX7_readNumber dX7_readNumber k hk⟩
set_option maxHeartbeats 4000000 in
set_option maxRecDepth 100000 in
theorem k_X7_readNumber {sk : xK} {base d n sl : Nat} {SH : Nat → Nat × Nat} {FI : Nat → Nat → Int32} {FL : Nat → Nat → Int64} {FR : Nat → Nat → Option Nat} (hS : h_S n SH) (hF : h_FR FR) (hI : g_I FI) (hR : g_R n SH FR) (g0 : (FI 111 7).toInt < (FI 111 6).toInt) (gg0 : 48 ≤ (g_let SH FI FR (FI 111 7)).toInt ∧ (g_let SH FI FR (FI 111 7)).toInt ≤ 57) : hw sk base (d + 1) none 73 0 [(0, .ref (base + 111))] [] (n, sl, SH, FI, FL, FR) (h_V (fun s => ∃ FI' FL', s = (n, sl, SH, FI', FL', FR) ∧ g_I FI' ∧ g_fr n (shd SH) [(111, 8), (111, 9)] [] [] FI FI' ∧ g_fr n (shd SH) [(111, 10)] [] [] FL FL' ∧ ((FI 111 7).toInt + 1 ≤ (FI' 111 8).toInt ∧ (FI' 111 8).toInt ≤ (FI 111 7).toInt + 18) ∧ (3 ≤ (FI' 111 9).toInt))) := by
  obtain ⟨x1, h2⟩ : ∃ y, FI 111 7 = y := ⟨_, rfl⟩
  have h2l := congrArg Int32.toInt h2
  have b3 := gI_111_7 hI; rw [h2] at b3
  obtain ⟨x4, h5⟩ : ∃ y, FI 111 6 = y := ⟨_, rfl⟩
  have h5l := congrArg Int32.toInt h5
  have b6 := gI_111_6 hI; rw [h5] at b6
  obtain ⟨x7, h8⟩ : ∃ y, FI 111 8 = y := ⟨_, rfl⟩
  have h8l := congrArg Int32.toInt h8
  have b9 := gI_111_8 hI; rw [h8] at b9
  obtain ⟨x10, h11⟩ : ∃ y, FI 111 9 = y := ⟨_, rfl⟩
  have h11l := congrArg Int32.toInt h11
  have := i_rng x10
  refine hw_aloadn (aX7_readNumber 0 rfl) rfl ?_
  refine hw_lc (v := (0 : Int64)) (aX7_readNumber 1 rfl) (by decide) ?_
  refine hv_putl (aX7_readNumber 2 rfl) wf_RX7_50 (c111 hS) (s111 hS) (by decide) rfl rfl (fun FL12 u13 => ?_)
  refine hw_ic (v := (0 : Int32)) (aX7_readNumber 3 rfl) (by decide) ?_
  refine xw_istoren (L2 := [(1, .int ((0 : Int32))), (0, .ref (base + 111))]) (aX7_readNumber 4 rfl) (by decide) rfl ?_
  have lp18 : ∀ (m : Nat) (y1 : Int32) (FLv14 : Nat → Nat → Int64), (g_fr n (shd SH) [(111, 10)] [] [] FL FLv14) → (0 ≤ (y1).toInt ∧ (y1).toInt ≤ 18) → ((FI 111 7).toInt + (y1).toInt ≤ (FI 111 6).toInt) → 18 - (y1).toInt < m → hw sk base (d + 1) none 73 7 [(1, .int (y1)), (0, .ref (base + 111))] [] (n, sl, SH, FI, FLv14, FR) (h_V (fun s => ∃ FI' FL', s = (n, sl, SH, FI', FL', FR) ∧ g_I FI' ∧ g_fr n (shd SH) [(111, 8), (111, 9)] [] [] FI FI' ∧ g_fr n (shd SH) [(111, 10)] [] [] FL FL' ∧ ((FI 111 7).toInt + 1 ≤ (FI' 111 8).toInt ∧ (FI' 111 8).toInt ≤ (FI 111 7).toInt + 18) ∧ (3 ≤ (FI' 111 9).toInt))) := by
    intro m
    induction m with
    | zero => intro y1 FLv14 fr15 iv16 iv17 hm; omega
    | succ m ih =>
      intro y1 FLv14 fr15 iv16 iv17 hm
      have rg_y1 := i_rng y1
      refine xw_iloadn (aX7_readNumber 5 rfl) rfl ?_
      refine hw_bp (v := (18 : Int32)) (aX7_readNumber 6 rfl) (by decide) ?_
      refine hw_icge (tgt := 62) (aX7_readNumber 7 rfl) (by decide) rfl (by decide : (18 : Int32).toInt = 18) (fun cd19 => ?_) (fun cd19 => ?_)
      · have hl1 : 1 ≤ (y1).toInt := by omega
        refine hw_aloadn (aX7_readNumber 34 rfl) rfl ?_
        refine hw_aloadn (aX7_readNumber 35 rfl) rfl ?_
        refine hw_get (v := .int (x1)) (aX7_readNumber 36 rfl) wf_RX7_54 (c111 hS) (s111 hS) (by decide) (congrArg Value.int (show FI 111 7 = x1 from h2)) ?_
        refine xw_iloadn (aX7_readNumber 37 rfl) rfl ?_
        refine xw_iadd (aX7_readNumber 38 rfl) ?_
        refine hw_tie (A := ((x1).toInt) + ((y1).toInt)) (i_add rfl rfl (by omega) (by omega)) (fun x20 e21 => ?_)
        refine hv_puti (aX7_readNumber 39 rfl) wf_RX7_38 (c111 hS) (s111 hS) (by decide) rfl rfl (fun FI22 u23 => ?_)
        have hI24 : g_I FI22 := gU_111_8 hI u23 (by have := (e21 : (x20).toInt = ((x1).toInt) + ((y1).toInt)); omega) (by have := (e21 : (x20).toInt = ((x1).toInt) + ((y1).toInt)); omega)
        refine hw_aloadn (aX7_readNumber 40 rfl) rfl ?_
        refine hw_aloadn (aX7_readNumber 41 rfl) rfl ?_
        refine hw_get (v := .int (x20)) (aX7_readNumber 42 rfl) wf_RX7_38 (c111 hS) (s111 hS) (by decide) (congrArg Value.int (show FI22 111 8 = x20 from up_eq u23)) ?_
        refine hw_callV (Bs := [.int (x20)]) (rest := []) (aX7_readNumber 43 rfl) wc_RX7_57 (by decide) rfl wi_yX7_letter wv_yX7_letter (c111 hS) (s111 hS) rfl rfl rfl (Nat.le_of_ble_eq_true rfl) (Nat.le_of_ble_eq_true rfl) (k_letter2 (d := d) hS hF hI24 hR (x20) ) (fun v25 sv26 p27 => ?_)
        have := (e21 : (x20).toInt = ((x1).toInt) + ((y1).toInt))
        have := (e21 : (x20).toInt = ((x1).toInt) + ((y1).toInt))
        have := congrArg Int32.toInt (show FI22 111 6 = x4 from (up_k u23 (by decide) (h5)))
        obtain ⟨r28, rfl, rfl, t32, u33⟩ := p27
        have rg_r28 := i_rng r28
        show hw sk base _ _ _ _ _ [.int (r28)] _ _
        refine xw_istoren (L2 := [(2, .int (r28)), (1, .int (y1)), (0, .ref (base + 111))]) (aX7_readNumber 44 rfl) (by decide) rfl ?_
        refine hw_aloadn (aX7_readNumber 45 rfl) rfl ?_
        refine xw_iloadn (aX7_readNumber 46 rfl) rfl ?_
        refine hw_callS (As := [.int (r28)]) (rest := [.ref (base + 111)]) (aX7_readNumber 47 rfl) wc_RX7_68 (by decide) rfl wt_yX7_isDigit rfl rfl (Nat.le_of_ble_eq_true rfl) (Nat.le_of_ble_eq_true rfl) (k_isDigit2 (d := d) hS hF hI24 hR (r28) ) (fun v36 sv37 p38 => ?_)
        obtain ⟨r39, rfl, rfl, t43, t44, t45⟩ := p38
        show hw sk base _ _ _ _ _ [.int (r39), .ref (base + 111)] _ _
        refine hw_ifne (tgt := 108) (aX7_readNumber 48 rfl) (by decide) rfl (fun cd48 => ?_) (fun cd48 => ?_)
        · replace t43 := t43 (by omega)
          clear t44
          refine hw_ic (v := (3 : Int32)) (aX7_readNumber 58 rfl) (by decide) ?_
          refine xw_goto (tgt := 113) (aX7_readNumber 59 rfl) (by decide) ?_
          refine hv_puti (aX7_readNumber 61 rfl) wf_RX7_44 (c111 hS) (s111 hS) (by decide) rfl rfl (fun FI49 u50 => ?_)
          have hI51 : g_I FI49 := gU_F hI24 u50 rfl
          refine xw_vret (aX7_readNumber 62 rfl) rfl ?_
          exact ⟨rfl, FI49, FLv14, rfl, hI51, (gf_f (gf_f gf_rf u23 (by decide)) u50 (by decide)), fr15, (by have := congrArg Int32.toInt (show FI49 111 8 = x20 from (up_k u50 (by decide) (up_eq u23))); have := (e21 : (x20).toInt = ((x1).toInt) + ((y1).toInt)); omega), (by have := congrArg Int32.toInt (show FI49 111 9 = (3 : Int32) from up_eq u50); have := ((by decide : (3 : Int32).toInt = 3) : ((3 : Int32)).toInt = 3); omega)⟩
        · clear t43
          replace t44 := t44 (by omega)
          refine xw_iloadn (aX7_readNumber 49 rfl) rfl ?_
          refine hw_callS (As := [.int (r28)]) (rest := [.ref (base + 111)]) (aX7_readNumber 50 rfl) wc_RX7_61 (by decide) rfl wt_yX7_isSmall rfl rfl (Nat.le_of_ble_eq_true rfl) (Nat.le_of_ble_eq_true rfl) (k_isSmall2 (d := d) hS hF hI24 hR (r28) ) (fun v52 sv53 p54 => ?_)
          obtain ⟨r55, rfl, rfl, t59, t60, t61⟩ := p54
          show hw sk base _ _ _ _ _ [.int (r55), .ref (base + 111)] _ _
          refine hw_ifne (tgt := 108) (aX7_readNumber 51 rfl) (by decide) rfl (fun cd64 => ?_) (fun cd64 => ?_)
          · replace t59 := t59 (by omega)
            clear t60
            refine hw_ic (v := (3 : Int32)) (aX7_readNumber 58 rfl) (by decide) ?_
            refine xw_goto (tgt := 113) (aX7_readNumber 59 rfl) (by decide) ?_
            refine hv_puti (aX7_readNumber 61 rfl) wf_RX7_44 (c111 hS) (s111 hS) (by decide) rfl rfl (fun FI65 u66 => ?_)
            have hI67 : g_I FI65 := gU_F hI24 u66 rfl
            refine xw_vret (aX7_readNumber 62 rfl) rfl ?_
            exact ⟨rfl, FI65, FLv14, rfl, hI67, (gf_f (gf_f gf_rf u23 (by decide)) u66 (by decide)), fr15, (by have := congrArg Int32.toInt (show FI65 111 8 = x20 from (up_k u66 (by decide) (up_eq u23))); have := (e21 : (x20).toInt = ((x1).toInt) + ((y1).toInt)); omega), (by have := congrArg Int32.toInt (show FI65 111 9 = (3 : Int32) from up_eq u66); have := ((by decide : (3 : Int32).toInt = 3) : ((3 : Int32)).toInt = 3); omega)⟩
          · clear t59
            replace t60 := t60 (by omega)
            refine xw_iloadn (aX7_readNumber 52 rfl) rfl ?_
            refine hw_bp (v := (65 : Int32)) (aX7_readNumber 53 rfl) (by decide) ?_
            refine hw_iclt (tgt := 112) (aX7_readNumber 54 rfl) (by decide) rfl (by decide : (65 : Int32).toInt = 65) (fun cd68 => ?_) (fun cd68 => ?_)
            · refine hw_ic (v := (5 : Int32)) (aX7_readNumber 60 rfl) (by decide) ?_
              refine hv_puti (aX7_readNumber 61 rfl) wf_RX7_44 (c111 hS) (s111 hS) (by decide) rfl rfl (fun FI69 u70 => ?_)
              have hI71 : g_I FI69 := gU_F hI24 u70 rfl
              refine xw_vret (aX7_readNumber 62 rfl) rfl ?_
              exact ⟨rfl, FI69, FLv14, rfl, hI71, (gf_f (gf_f gf_rf u23 (by decide)) u70 (by decide)), fr15, (by have := congrArg Int32.toInt (show FI69 111 8 = x20 from (up_k u70 (by decide) (up_eq u23))); have := (e21 : (x20).toInt = ((x1).toInt) + ((y1).toInt)); omega), (by have := congrArg Int32.toInt (show FI69 111 9 = (5 : Int32) from up_eq u70); have := ((by decide : (5 : Int32).toInt = 5) : ((5 : Int32)).toInt = 5); omega)⟩
            · refine xw_iloadn (aX7_readNumber 55 rfl) rfl ?_
              refine hw_bp (v := (90 : Int32)) (aX7_readNumber 56 rfl) (by decide) ?_
              refine hw_icgt (tgt := 112) (aX7_readNumber 57 rfl) (by decide) rfl (by decide : (90 : Int32).toInt = 90) (fun cd72 => ?_) (fun cd72 => ?_)
              · refine hw_ic (v := (5 : Int32)) (aX7_readNumber 60 rfl) (by decide) ?_
                refine hv_puti (aX7_readNumber 61 rfl) wf_RX7_44 (c111 hS) (s111 hS) (by decide) rfl rfl (fun FI73 u74 => ?_)
                have hI75 : g_I FI73 := gU_F hI24 u74 rfl
                refine xw_vret (aX7_readNumber 62 rfl) rfl ?_
                exact ⟨rfl, FI73, FLv14, rfl, hI75, (gf_f (gf_f gf_rf u23 (by decide)) u74 (by decide)), fr15, (by have := congrArg Int32.toInt (show FI73 111 8 = x20 from (up_k u74 (by decide) (up_eq u23))); have := (e21 : (x20).toInt = ((x1).toInt) + ((y1).toInt)); omega), (by have := congrArg Int32.toInt (show FI73 111 9 = (5 : Int32) from up_eq u74); have := ((by decide : (5 : Int32).toInt = 5) : ((5 : Int32)).toInt = 5); omega)⟩
              · refine hw_ic (v := (3 : Int32)) (aX7_readNumber 58 rfl) (by decide) ?_
                refine xw_goto (tgt := 113) (aX7_readNumber 59 rfl) (by decide) ?_
                refine hv_puti (aX7_readNumber 61 rfl) wf_RX7_44 (c111 hS) (s111 hS) (by decide) rfl rfl (fun FI76 u77 => ?_)
                have hI78 : g_I FI76 := gU_F hI24 u77 rfl
                refine xw_vret (aX7_readNumber 62 rfl) rfl ?_
                exact ⟨rfl, FI76, FLv14, rfl, hI78, (gf_f (gf_f gf_rf u23 (by decide)) u77 (by decide)), fr15, (by have := congrArg Int32.toInt (show FI76 111 8 = x20 from (up_k u77 (by decide) (up_eq u23))); have := (e21 : (x20).toInt = ((x1).toInt) + ((y1).toInt)); omega), (by have := congrArg Int32.toInt (show FI76 111 9 = (3 : Int32) from up_eq u77); have := ((by decide : (3 : Int32).toInt = 3) : ((3 : Int32)).toInt = 3); omega)⟩
      · refine hw_aloadn (aX7_readNumber 8 rfl) rfl ?_
        refine hw_aloadn (aX7_readNumber 9 rfl) rfl ?_
        refine hw_get (v := .int (x1)) (aX7_readNumber 10 rfl) wf_RX7_54 (c111 hS) (s111 hS) (by decide) (congrArg Value.int (show FI 111 7 = x1 from h2)) ?_
        refine xw_iloadn (aX7_readNumber 11 rfl) rfl ?_
        refine xw_iadd (aX7_readNumber 12 rfl) ?_
        refine hw_tie (A := ((x1).toInt) + ((y1).toInt)) (i_add rfl rfl (by omega) (by omega)) (fun x79 e80 => ?_)
        refine hw_callV (Bs := [.int (x79)]) (rest := []) (aX7_readNumber 13 rfl) wc_RX7_57 (by decide) rfl wi_yX7_letter wv_yX7_letter (c111 hS) (s111 hS) rfl rfl rfl (Nat.le_of_ble_eq_true rfl) (Nat.le_of_ble_eq_true rfl) (k_letter2 (d := d) hS hF hI hR (x79) ) (fun v81 sv82 p83 => ?_)
        have := (e80 : (x79).toInt = ((x1).toInt) + ((y1).toInt))
        have := (e80 : (x79).toInt = ((x1).toInt) + ((y1).toInt))
        have := congrArg Int32.toInt (show FI 111 6 = x4 from h5)
        obtain ⟨r84, rfl, rfl, t88, u89⟩ := p83
        have rg_r84 := i_rng r84
        show hw sk base _ _ _ _ _ [.int (r84)] _ _
        refine hw_callS (As := [.int (r84)]) (rest := []) (aX7_readNumber 14 rfl) wc_RX7_68 (by decide) rfl wt_yX7_isDigit rfl rfl (Nat.le_of_ble_eq_true rfl) (Nat.le_of_ble_eq_true rfl) (k_isDigit2 (d := d) hS hF hI hR (r84) ) (fun v92 sv93 p94 => ?_)
        obtain ⟨r95, rfl, rfl, t99, t100, t101⟩ := p94
        show hw sk base _ _ _ _ _ [.int (r95)] _ _
        refine hw_ifeq (tgt := 62) (aX7_readNumber 15 rfl) (by decide) rfl (fun cd104 => ?_) (fun cd104 => ?_)
        · clear t99
          replace t100 := t100 (by omega)
          have hl1 : 1 ≤ (y1).toInt := by { by_cases hz : (y1).toInt = 0; { exfalso; have hx : x79 = FI 111 7 := i_eq (by have := (e80 : (x79).toInt = ((x1).toInt) + ((y1).toInt)); have := congrArg Int32.toInt (show FI 111 7 = x1 from h2); omega); have hg := gg0; rw [← hx, ← u89] at hg; omega }; { omega } }
          refine hw_aloadn (aX7_readNumber 34 rfl) rfl ?_
          refine hw_aloadn (aX7_readNumber 35 rfl) rfl ?_
          refine hw_get (v := .int (x1)) (aX7_readNumber 36 rfl) wf_RX7_54 (c111 hS) (s111 hS) (by decide) (congrArg Value.int (show FI 111 7 = x1 from h2)) ?_
          refine xw_iloadn (aX7_readNumber 37 rfl) rfl ?_
          refine xw_iadd (aX7_readNumber 38 rfl) ?_
          refine hw_tie (A := ((x1).toInt) + ((y1).toInt)) (i_add rfl rfl (by omega) (by omega)) (fun x105 e106 => ?_)
          refine hv_puti (aX7_readNumber 39 rfl) wf_RX7_38 (c111 hS) (s111 hS) (by decide) rfl rfl (fun FI107 u108 => ?_)
          have hI109 : g_I FI107 := gU_111_8 hI u108 (by have := (e106 : (x105).toInt = ((x1).toInt) + ((y1).toInt)); omega) (by have := (e106 : (x105).toInt = ((x1).toInt) + ((y1).toInt)); omega)
          refine hw_aloadn (aX7_readNumber 40 rfl) rfl ?_
          refine hw_aloadn (aX7_readNumber 41 rfl) rfl ?_
          refine hw_get (v := .int (x105)) (aX7_readNumber 42 rfl) wf_RX7_38 (c111 hS) (s111 hS) (by decide) (congrArg Value.int (show FI107 111 8 = x105 from up_eq u108)) ?_
          refine hw_callV (Bs := [.int (x105)]) (rest := []) (aX7_readNumber 43 rfl) wc_RX7_57 (by decide) rfl wi_yX7_letter wv_yX7_letter (c111 hS) (s111 hS) rfl rfl rfl (Nat.le_of_ble_eq_true rfl) (Nat.le_of_ble_eq_true rfl) (k_letter2 (d := d) hS hF hI109 hR (x105) ) (fun v110 sv111 p112 => ?_)
          have := (e106 : (x105).toInt = ((x1).toInt) + ((y1).toInt))
          have := (e106 : (x105).toInt = ((x1).toInt) + ((y1).toInt))
          have := congrArg Int32.toInt (show FI107 111 6 = x4 from (up_k u108 (by decide) (h5)))
          obtain ⟨r113, rfl, rfl, t117, u118⟩ := p112
          have rg_r113 := i_rng r113
          show hw sk base _ _ _ _ _ [.int (r113)] _ _
          refine xw_istoren (L2 := [(2, .int (r113)), (1, .int (y1)), (0, .ref (base + 111))]) (aX7_readNumber 44 rfl) (by decide) rfl ?_
          refine hw_aloadn (aX7_readNumber 45 rfl) rfl ?_
          refine xw_iloadn (aX7_readNumber 46 rfl) rfl ?_
          refine hw_callS (As := [.int (r113)]) (rest := [.ref (base + 111)]) (aX7_readNumber 47 rfl) wc_RX7_68 (by decide) rfl wt_yX7_isDigit rfl rfl (Nat.le_of_ble_eq_true rfl) (Nat.le_of_ble_eq_true rfl) (k_isDigit2 (d := d) hS hF hI109 hR (r113) ) (fun v121 sv122 p123 => ?_)
          obtain ⟨r124, rfl, rfl, t128, t129, t130⟩ := p123
          show hw sk base _ _ _ _ _ [.int (r124), .ref (base + 111)] _ _
          refine hw_ifne (tgt := 108) (aX7_readNumber 48 rfl) (by decide) rfl (fun cd133 => ?_) (fun cd133 => ?_)
          · replace t128 := t128 (by omega)
            clear t129
            refine hw_ic (v := (3 : Int32)) (aX7_readNumber 58 rfl) (by decide) ?_
            refine xw_goto (tgt := 113) (aX7_readNumber 59 rfl) (by decide) ?_
            refine hv_puti (aX7_readNumber 61 rfl) wf_RX7_44 (c111 hS) (s111 hS) (by decide) rfl rfl (fun FI134 u135 => ?_)
            have hI136 : g_I FI134 := gU_F hI109 u135 rfl
            refine xw_vret (aX7_readNumber 62 rfl) rfl ?_
            exact ⟨rfl, FI134, FLv14, rfl, hI136, (gf_f (gf_f gf_rf u108 (by decide)) u135 (by decide)), fr15, (by have := congrArg Int32.toInt (show FI134 111 8 = x105 from (up_k u135 (by decide) (up_eq u108))); have := (e106 : (x105).toInt = ((x1).toInt) + ((y1).toInt)); omega), (by have := congrArg Int32.toInt (show FI134 111 9 = (3 : Int32) from up_eq u135); have := ((by decide : (3 : Int32).toInt = 3) : ((3 : Int32)).toInt = 3); omega)⟩
          · clear t128
            replace t129 := t129 (by omega)
            refine xw_iloadn (aX7_readNumber 49 rfl) rfl ?_
            refine hw_callS (As := [.int (r113)]) (rest := [.ref (base + 111)]) (aX7_readNumber 50 rfl) wc_RX7_61 (by decide) rfl wt_yX7_isSmall rfl rfl (Nat.le_of_ble_eq_true rfl) (Nat.le_of_ble_eq_true rfl) (k_isSmall2 (d := d) hS hF hI109 hR (r113) ) (fun v137 sv138 p139 => ?_)
            obtain ⟨r140, rfl, rfl, t144, t145, t146⟩ := p139
            show hw sk base _ _ _ _ _ [.int (r140), .ref (base + 111)] _ _
            refine hw_ifne (tgt := 108) (aX7_readNumber 51 rfl) (by decide) rfl (fun cd149 => ?_) (fun cd149 => ?_)
            · replace t144 := t144 (by omega)
              clear t145
              refine hw_ic (v := (3 : Int32)) (aX7_readNumber 58 rfl) (by decide) ?_
              refine xw_goto (tgt := 113) (aX7_readNumber 59 rfl) (by decide) ?_
              refine hv_puti (aX7_readNumber 61 rfl) wf_RX7_44 (c111 hS) (s111 hS) (by decide) rfl rfl (fun FI150 u151 => ?_)
              have hI152 : g_I FI150 := gU_F hI109 u151 rfl
              refine xw_vret (aX7_readNumber 62 rfl) rfl ?_
              exact ⟨rfl, FI150, FLv14, rfl, hI152, (gf_f (gf_f gf_rf u108 (by decide)) u151 (by decide)), fr15, (by have := congrArg Int32.toInt (show FI150 111 8 = x105 from (up_k u151 (by decide) (up_eq u108))); have := (e106 : (x105).toInt = ((x1).toInt) + ((y1).toInt)); omega), (by have := congrArg Int32.toInt (show FI150 111 9 = (3 : Int32) from up_eq u151); have := ((by decide : (3 : Int32).toInt = 3) : ((3 : Int32)).toInt = 3); omega)⟩
            · clear t144
              replace t145 := t145 (by omega)
              refine xw_iloadn (aX7_readNumber 52 rfl) rfl ?_
              refine hw_bp (v := (65 : Int32)) (aX7_readNumber 53 rfl) (by decide) ?_
              refine hw_iclt (tgt := 112) (aX7_readNumber 54 rfl) (by decide) rfl (by decide : (65 : Int32).toInt = 65) (fun cd153 => ?_) (fun cd153 => ?_)
              · refine hw_ic (v := (5 : Int32)) (aX7_readNumber 60 rfl) (by decide) ?_
                refine hv_puti (aX7_readNumber 61 rfl) wf_RX7_44 (c111 hS) (s111 hS) (by decide) rfl rfl (fun FI154 u155 => ?_)
                have hI156 : g_I FI154 := gU_F hI109 u155 rfl
                refine xw_vret (aX7_readNumber 62 rfl) rfl ?_
                exact ⟨rfl, FI154, FLv14, rfl, hI156, (gf_f (gf_f gf_rf u108 (by decide)) u155 (by decide)), fr15, (by have := congrArg Int32.toInt (show FI154 111 8 = x105 from (up_k u155 (by decide) (up_eq u108))); have := (e106 : (x105).toInt = ((x1).toInt) + ((y1).toInt)); omega), (by have := congrArg Int32.toInt (show FI154 111 9 = (5 : Int32) from up_eq u155); have := ((by decide : (5 : Int32).toInt = 5) : ((5 : Int32)).toInt = 5); omega)⟩
              · refine xw_iloadn (aX7_readNumber 55 rfl) rfl ?_
                refine hw_bp (v := (90 : Int32)) (aX7_readNumber 56 rfl) (by decide) ?_
                refine hw_icgt (tgt := 112) (aX7_readNumber 57 rfl) (by decide) rfl (by decide : (90 : Int32).toInt = 90) (fun cd157 => ?_) (fun cd157 => ?_)
                · refine hw_ic (v := (5 : Int32)) (aX7_readNumber 60 rfl) (by decide) ?_
                  refine hv_puti (aX7_readNumber 61 rfl) wf_RX7_44 (c111 hS) (s111 hS) (by decide) rfl rfl (fun FI158 u159 => ?_)
                  have hI160 : g_I FI158 := gU_F hI109 u159 rfl
                  refine xw_vret (aX7_readNumber 62 rfl) rfl ?_
                  exact ⟨rfl, FI158, FLv14, rfl, hI160, (gf_f (gf_f gf_rf u108 (by decide)) u159 (by decide)), fr15, (by have := congrArg Int32.toInt (show FI158 111 8 = x105 from (up_k u159 (by decide) (up_eq u108))); have := (e106 : (x105).toInt = ((x1).toInt) + ((y1).toInt)); omega), (by have := congrArg Int32.toInt (show FI158 111 9 = (5 : Int32) from up_eq u159); have := ((by decide : (5 : Int32).toInt = 5) : ((5 : Int32)).toInt = 5); omega)⟩
                · refine hw_ic (v := (3 : Int32)) (aX7_readNumber 58 rfl) (by decide) ?_
                  refine xw_goto (tgt := 113) (aX7_readNumber 59 rfl) (by decide) ?_
                  refine hv_puti (aX7_readNumber 61 rfl) wf_RX7_44 (c111 hS) (s111 hS) (by decide) rfl rfl (fun FI161 u162 => ?_)
                  have hI163 : g_I FI161 := gU_F hI109 u162 rfl
                  refine xw_vret (aX7_readNumber 62 rfl) rfl ?_
                  exact ⟨rfl, FI161, FLv14, rfl, hI163, (gf_f (gf_f gf_rf u108 (by decide)) u162 (by decide)), fr15, (by have := congrArg Int32.toInt (show FI161 111 8 = x105 from (up_k u162 (by decide) (up_eq u108))); have := (e106 : (x105).toInt = ((x1).toInt) + ((y1).toInt)); omega), (by have := congrArg Int32.toInt (show FI161 111 9 = (3 : Int32) from up_eq u162); have := ((by decide : (3 : Int32).toInt = 3) : ((3 : Int32)).toInt = 3); omega)⟩
        · replace t99 := t99 (by omega)
          clear t100
          refine hw_aloadn (aX7_readNumber 16 rfl) rfl ?_
          refine hw_aloadn (aX7_readNumber 17 rfl) rfl ?_
          obtain ⟨x164, h165⟩ : ∃ y, FLv14 111 10 = y := ⟨_, rfl⟩
          have h165l := congrArg Int64.toInt h165
          have := l_rng x164
          refine hw_get (v := .long (x164)) (aX7_readNumber 18 rfl) wf_RX7_50 (c111 hS) (s111 hS) (by decide) (congrArg Value.long (show FLv14 111 10 = x164 from h165)) ?_
          refine xw_ldc2 (aX7_readNumber 19 rfl) wk_RX7_118 ?_
          refine xw_lmul (aX7_readNumber 20 rfl) ?_
          refine hw_tl (fun x166 => ?_)
          have b167 := l_rng x166
          refine hw_aloadn (aX7_readNumber 21 rfl) rfl ?_
          refine hw_aloadn (aX7_readNumber 22 rfl) rfl ?_
          refine hw_get (v := .int (x1)) (aX7_readNumber 23 rfl) wf_RX7_54 (c111 hS) (s111 hS) (by decide) (congrArg Value.int (show FI 111 7 = x1 from h2)) ?_
          refine xw_iloadn (aX7_readNumber 24 rfl) rfl ?_
          refine xw_iadd (aX7_readNumber 25 rfl) ?_
          refine hw_tie (A := ((x1).toInt) + ((y1).toInt)) (i_add rfl rfl (by omega) (by omega)) (fun x168 e169 => ?_)
          refine hw_callV (Bs := [.int (x168)]) (rest := [.long (x166), .ref (base + 111)]) (aX7_readNumber 26 rfl) wc_RX7_57 (by decide) rfl wi_yX7_letter wv_yX7_letter (c111 hS) (s111 hS) rfl rfl rfl (Nat.le_of_ble_eq_true rfl) (Nat.le_of_ble_eq_true rfl) (k_letter2 (d := d) hS hF hI hR (x168) ) (fun v170 sv171 p172 => ?_)
          have := (e169 : (x168).toInt = ((x1).toInt) + ((y1).toInt))
          have := (e169 : (x168).toInt = ((x1).toInt) + ((y1).toInt))
          have := congrArg Int32.toInt (show FI 111 6 = x4 from h5)
          obtain ⟨r173, rfl, rfl, t177, u178⟩ := p172
          have rg_r173 := i_rng r173
          show hw sk base _ _ _ _ _ [.int (r173), .long (x166), .ref (base + 111)] _ _
          refine hw_bp (v := (48 : Int32)) (aX7_readNumber 27 rfl) (by decide) ?_
          refine xw_isub (aX7_readNumber 28 rfl) ?_
          have := i_rng ((r173) - ((48 : Int32)))
          refine xw_i2l (aX7_readNumber 29 rfl) ?_
          refine hw_tle (A := (((r173) - ((48 : Int32)))).toInt) (i_2l rfl) (fun x181 e182 => ?_)
          refine xw_ladd (aX7_readNumber 30 rfl) ?_
          refine hw_tl (fun x183 => ?_)
          have b184 := l_rng x183
          refine hv_putl (aX7_readNumber 31 rfl) wf_RX7_50 (c111 hS) (s111 hS) (by decide) rfl rfl (fun FL185 u186 => ?_)
          obtain ⟨x187, q189⟩ : ∃ y : Int32, (y1) + Int32.ofInt (1) = y := ⟨_, rfl⟩
          have e188 : (x187).toInt = (y1).toInt + (1) := by rw [← q189]; exact i_add rfl (by decide) (by omega) (by omega)
          refine xw_iinc (L2 := [(1, .int (x187)), (0, .ref (base + 111))]) (aX7_readNumber 32 rfl) rfl (by decide) (by rw [q189]; rfl) ?_
          refine xw_goto (tgt := 7) (aX7_readNumber 33 rfl) (by decide) ?_
          exact hw_L (ih (x187) FL185 (gf_f fr15 u186 (by decide)) (by have := (e188 : (x187).toInt = (y1).toInt + (1)); omega) (by have := (e188 : (x187).toInt = (y1).toInt + (1)); omega) (by have := (e188 : (x187).toInt = (y1).toInt + (1)); omega)) ⟨rfl, rfl, trivial⟩
  exact hw_L (lp18 ((18 - 0 : Int).toNat + 1) ((0 : Int32)) FL12 (gf_f gf_rf u13 (by decide)) (by have := ((by decide : (0 : Int32).toInt = 0) : ((0 : Int32)).toInt = 0); omega) (by have := ((by decide : (0 : Int32).toInt = 0) : ((0 : Int32)).toInt = 0); omega) (by have := ((by decide : (0 : Int32).toInt = 0) : ((0 : Int32)).toInt = 0); omega)) ⟨rfl, rfl, trivial⟩
def nX7_readAt : Nat := 0xb12600b560053600b42a2a2c00b5060400a706100800a308101b0e00a1041b2a3200b5851b2a3c6430103900b660043600b42a2a
theorem bX7_readAt : cX7_readAt.data.toList.map UInt8.toNat = x_un nX7_readAt 52 := by decide +kernel
def iX7_readAt : List (Nat × Jvm.ClassFile.Instr × Nat) := [(0, .aload_n 0, 1), (1, .aload_n 0, 1), (2, .getfield 54, 3), (5, .iconst 1, 1), (6, .iadd, 1), (7, .invokevirtual 57, 3), (10, .bipush 48, 2), (12, .isub, 1), (13, .istore_n 1, 1), (14, .aload_n 0, 1), (15, .iload_n 1, 1), (16, .i2l, 1), (17, .putfield 50, 3), (20, .aload_n 0, 1), (21, .iload_n 1, 1), (22, .iconst 1, 1), (23, .if_icmp .lt 14, 3), (26, .iload_n 1, 1), (27, .bipush 8, 2), (29, .if_icmp .gt 8, 3), (32, .bipush 6, 2), (34, .goto 4, 3), (37, .iconst 3, 1), (38, .putfield 44, 3), (41, .aload_n 0, 1), (42, .aload_n 0, 1), (43, .getfield 54, 3), (46, .iconst 2, 1), (47, .iadd, 1), (48, .putfield 38, 3), (51, .return_, 1)]
theorem dX7_readAt : x_il nX7_readAt 52 iX7_readAt = true := by decide +kernel
theorem aX7_readAt (k : Nat) {pc : Nat} {i : Jvm.ClassFile.Instr} {len : Nat} (hk : iX7_readAt[k]? = some (pc, i, len)) : x_at xMM 74 pc i len yX7_readAt 2 none := ⟨cX7_readAt, rfl, x_il_ok bX7_readAt dX7_readAt k hk⟩
set_option maxHeartbeats 4000000 in
set_option maxRecDepth 100000 in
theorem k_X7_readAt {sk : xK} {base d n sl : Nat} {SH : Nat → Nat × Nat} {FI : Nat → Nat → Int32} {FL : Nat → Nat → Int64} {FR : Nat → Nat → Option Nat} (hS : h_S n SH) (hF : h_FR FR) (hI : g_I FI) (hR : g_R n SH FR) (g0 : (FI 111 7).toInt < (FI 111 6).toInt) : hw sk base (d + 1) none 74 0 [(0, .ref (base + 111))] [] (n, sl, SH, FI, FL, FR) (h_V (fun s => ∃ FI' FL', s = (n, sl, SH, FI', FL', FR) ∧ g_I FI' ∧ g_fr n (shd SH) [(111, 8), (111, 9)] [] [] FI FI' ∧ g_fr n (shd SH) [(111, 10)] [] [] FL FL' ∧ ((FI 111 7).toInt + 1 ≤ (FI' 111 8).toInt ∧ (FI' 111 8).toInt ≤ (FI 111 7).toInt + 2) ∧ (3 ≤ (FI' 111 9).toInt))) := by
  obtain ⟨x1, h2⟩ : ∃ y, FI 111 7 = y := ⟨_, rfl⟩
  have h2l := congrArg Int32.toInt h2
  have b3 := gI_111_7 hI; rw [h2] at b3
  obtain ⟨x4, h5⟩ : ∃ y, FI 111 6 = y := ⟨_, rfl⟩
  have h5l := congrArg Int32.toInt h5
  have b6 := gI_111_6 hI; rw [h5] at b6
  obtain ⟨x7, h8⟩ : ∃ y, FI 111 8 = y := ⟨_, rfl⟩
  have h8l := congrArg Int32.toInt h8
  have b9 := gI_111_8 hI; rw [h8] at b9
  obtain ⟨x10, h11⟩ : ∃ y, FI 111 9 = y := ⟨_, rfl⟩
  have h11l := congrArg Int32.toInt h11
  have := i_rng x10
  refine hw_aloadn (aX7_readAt 0 rfl) rfl ?_
  refine hw_aloadn (aX7_readAt 1 rfl) rfl ?_
  refine hw_get (v := .int (x1)) (aX7_readAt 2 rfl) wf_RX7_54 (c111 hS) (s111 hS) (by decide) (congrArg Value.int (show FI 111 7 = x1 from h2)) ?_
  refine hw_ic (v := (1 : Int32)) (aX7_readAt 3 rfl) (by decide) ?_
  refine xw_iadd (aX7_readAt 4 rfl) ?_
  refine hw_tie (A := ((x1).toInt) + (1)) (i_add rfl (by decide : (1 : Int32).toInt = 1) (by omega) (by omega)) (fun x12 e13 => ?_)
  refine hw_callV (Bs := [.int (x12)]) (rest := []) (aX7_readAt 5 rfl) wc_RX7_57 (by decide) rfl wi_yX7_letter wv_yX7_letter (c111 hS) (s111 hS) rfl rfl rfl (Nat.le_of_ble_eq_true rfl) (Nat.le_of_ble_eq_true rfl) (k_letter2 (d := d) hS hF hI hR (x12) ) (fun v14 sv15 p16 => ?_)
  have := (e13 : (x12).toInt = ((x1).toInt) + (1))
  have := (e13 : (x12).toInt = ((x1).toInt) + (1))
  have := congrArg Int32.toInt (show FI 111 6 = x4 from h5)
  obtain ⟨r17, rfl, rfl, t21, u22⟩ := p16
  have rg_r17 := i_rng r17
  show hw sk base _ _ _ _ _ [.int (r17)] _ _
  refine hw_bp (v := (48 : Int32)) (aX7_readAt 6 rfl) (by decide) ?_
  refine xw_isub (aX7_readAt 7 rfl) ?_
  have := i_rng ((r17) - ((48 : Int32)))
  refine xw_istoren (L2 := [(1, .int (((r17) - ((48 : Int32))))), (0, .ref (base + 111))]) (aX7_readAt 8 rfl) (by decide) rfl ?_
  refine hw_aloadn (aX7_readAt 9 rfl) rfl ?_
  refine xw_iloadn (aX7_readAt 10 rfl) rfl ?_
  refine xw_i2l (aX7_readAt 11 rfl) ?_
  refine hw_tle (A := (((r17) - ((48 : Int32)))).toInt) (i_2l rfl) (fun x25 e26 => ?_)
  refine hv_putl (aX7_readAt 12 rfl) wf_RX7_50 (c111 hS) (s111 hS) (by decide) rfl rfl (fun FL27 u28 => ?_)
  refine hw_aloadn (aX7_readAt 13 rfl) rfl ?_
  refine xw_iloadn (aX7_readAt 14 rfl) rfl ?_
  refine hw_ic (v := (1 : Int32)) (aX7_readAt 15 rfl) (by decide) ?_
  refine hw_iclt (tgt := 37) (aX7_readAt 16 rfl) (by decide) rfl (by decide : (1 : Int32).toInt = 1) (fun cd29 => ?_) (fun cd29 => ?_)
  · refine hw_ic (v := (3 : Int32)) (aX7_readAt 22 rfl) (by decide) ?_
    refine hv_puti (aX7_readAt 23 rfl) wf_RX7_44 (c111 hS) (s111 hS) (by decide) rfl rfl (fun FI30 u31 => ?_)
    have hI32 : g_I FI30 := gU_F hI u31 rfl
    refine hw_aloadn (aX7_readAt 24 rfl) rfl ?_
    refine hw_aloadn (aX7_readAt 25 rfl) rfl ?_
    refine hw_get (v := .int (x1)) (aX7_readAt 26 rfl) wf_RX7_54 (c111 hS) (s111 hS) (by decide) (congrArg Value.int (show FI30 111 7 = x1 from (up_k u31 (by decide) (h2)))) ?_
    refine hw_ic (v := (2 : Int32)) (aX7_readAt 27 rfl) (by decide) ?_
    refine xw_iadd (aX7_readAt 28 rfl) ?_
    refine hw_tie (A := ((x1).toInt) + (2)) (i_add rfl (by decide : (2 : Int32).toInt = 2) (by omega) (by omega)) (fun x33 e34 => ?_)
    refine hv_puti (aX7_readAt 29 rfl) wf_RX7_38 (c111 hS) (s111 hS) (by decide) rfl rfl (fun FI35 u36 => ?_)
    have hI37 : g_I FI35 := gU_111_8 hI32 u36 (by have := (e34 : (x33).toInt = ((x1).toInt) + (2)); omega) (by have := (e34 : (x33).toInt = ((x1).toInt) + (2)); omega)
    refine xw_vret (aX7_readAt 30 rfl) rfl ?_
    exact ⟨rfl, FI35, FL27, rfl, hI37, (gf_f (gf_f gf_rf u31 (by decide)) u36 (by decide)), (gf_f gf_rf u28 (by decide)), (by have := congrArg Int32.toInt (show FI35 111 8 = x33 from up_eq u36); have := (e34 : (x33).toInt = ((x1).toInt) + (2)); omega), (by have := congrArg Int32.toInt (show FI35 111 9 = (3 : Int32) from (up_k u36 (by decide) (up_eq u31))); have := ((by decide : (3 : Int32).toInt = 3) : ((3 : Int32)).toInt = 3); omega)⟩
  · refine xw_iloadn (aX7_readAt 17 rfl) rfl ?_
    refine hw_bp (v := (8 : Int32)) (aX7_readAt 18 rfl) (by decide) ?_
    refine hw_icgt (tgt := 37) (aX7_readAt 19 rfl) (by decide) rfl (by decide : (8 : Int32).toInt = 8) (fun cd38 => ?_) (fun cd38 => ?_)
    · refine hw_ic (v := (3 : Int32)) (aX7_readAt 22 rfl) (by decide) ?_
      refine hv_puti (aX7_readAt 23 rfl) wf_RX7_44 (c111 hS) (s111 hS) (by decide) rfl rfl (fun FI39 u40 => ?_)
      have hI41 : g_I FI39 := gU_F hI u40 rfl
      refine hw_aloadn (aX7_readAt 24 rfl) rfl ?_
      refine hw_aloadn (aX7_readAt 25 rfl) rfl ?_
      refine hw_get (v := .int (x1)) (aX7_readAt 26 rfl) wf_RX7_54 (c111 hS) (s111 hS) (by decide) (congrArg Value.int (show FI39 111 7 = x1 from (up_k u40 (by decide) (h2)))) ?_
      refine hw_ic (v := (2 : Int32)) (aX7_readAt 27 rfl) (by decide) ?_
      refine xw_iadd (aX7_readAt 28 rfl) ?_
      refine hw_tie (A := ((x1).toInt) + (2)) (i_add rfl (by decide : (2 : Int32).toInt = 2) (by omega) (by omega)) (fun x42 e43 => ?_)
      refine hv_puti (aX7_readAt 29 rfl) wf_RX7_38 (c111 hS) (s111 hS) (by decide) rfl rfl (fun FI44 u45 => ?_)
      have hI46 : g_I FI44 := gU_111_8 hI41 u45 (by have := (e43 : (x42).toInt = ((x1).toInt) + (2)); omega) (by have := (e43 : (x42).toInt = ((x1).toInt) + (2)); omega)
      refine xw_vret (aX7_readAt 30 rfl) rfl ?_
      exact ⟨rfl, FI44, FL27, rfl, hI46, (gf_f (gf_f gf_rf u40 (by decide)) u45 (by decide)), (gf_f gf_rf u28 (by decide)), (by have := congrArg Int32.toInt (show FI44 111 8 = x42 from up_eq u45); have := (e43 : (x42).toInt = ((x1).toInt) + (2)); omega), (by have := congrArg Int32.toInt (show FI44 111 9 = (3 : Int32) from (up_k u45 (by decide) (up_eq u40))); have := ((by decide : (3 : Int32).toInt = 3) : ((3 : Int32)).toInt = 3); omega)⟩
    · refine hw_bp (v := (6 : Int32)) (aX7_readAt 20 rfl) (by decide) ?_
      refine xw_goto (tgt := 38) (aX7_readAt 21 rfl) (by decide) ?_
      refine hv_puti (aX7_readAt 23 rfl) wf_RX7_44 (c111 hS) (s111 hS) (by decide) rfl rfl (fun FI47 u48 => ?_)
      have hI49 : g_I FI47 := gU_F hI u48 rfl
      refine hw_aloadn (aX7_readAt 24 rfl) rfl ?_
      refine hw_aloadn (aX7_readAt 25 rfl) rfl ?_
      refine hw_get (v := .int (x1)) (aX7_readAt 26 rfl) wf_RX7_54 (c111 hS) (s111 hS) (by decide) (congrArg Value.int (show FI47 111 7 = x1 from (up_k u48 (by decide) (h2)))) ?_
      refine hw_ic (v := (2 : Int32)) (aX7_readAt 27 rfl) (by decide) ?_
      refine xw_iadd (aX7_readAt 28 rfl) ?_
      refine hw_tie (A := ((x1).toInt) + (2)) (i_add rfl (by decide : (2 : Int32).toInt = 2) (by omega) (by omega)) (fun x50 e51 => ?_)
      refine hv_puti (aX7_readAt 29 rfl) wf_RX7_38 (c111 hS) (s111 hS) (by decide) rfl rfl (fun FI52 u53 => ?_)
      have hI54 : g_I FI52 := gU_111_8 hI49 u53 (by have := (e51 : (x50).toInt = ((x1).toInt) + (2)); omega) (by have := (e51 : (x50).toInt = ((x1).toInt) + (2)); omega)
      refine xw_vret (aX7_readAt 30 rfl) rfl ?_
      exact ⟨rfl, FI52, FL27, rfl, hI54, (gf_f (gf_f gf_rf u48 (by decide)) u53 (by decide)), (gf_f gf_rf u28 (by decide)), (by have := congrArg Int32.toInt (show FI52 111 8 = x50 from up_eq u53); have := (e51 : (x50).toInt = ((x1).toInt) + (2)); omega), (by have := congrArg Int32.toInt (show FI52 111 9 = (6 : Int32) from (up_k u53 (by decide) (up_eq u48))); have := ((by decide : (6 : Int32).toInt = 6) : ((6 : Int32)).toInt = 6); omega)⟩
end
