def nX12_choice : Nat := 0xad2f03b200b42ad1ffa73d030400a70407009a4102b42a3eb102b62a4102b5032aebffa73d030400a70407009aae02b62a1300991c3100991d3e043d04a802b51b2aab02b5032a2c02b5032a
theorem bX12_choice : cX12_choice.data.toList.map UInt8.toNat = x_un nX12_choice 76 := by decide +kernel
def iX12_choice : List (Nat × Jvm.ClassFile.Instr × Nat) := [(0, .aload_n 0, 1), (1, .iconst 0, 1), (2, .putfield 556, 3), (5, .aload_n 0, 1), (6, .iconst 0, 1), (7, .putfield 683, 3), (10, .aload_n 0, 1), (11, .iload_n 1, 1), (12, .putfield 680, 3), (15, .iconst 1, 1), (16, .istore_n 2, 1), (17, .iconst 1, 1), (18, .istore_n 3, 1), (19, .iload_n 3, 1), (20, .ifCond .eq 49, 3), (23, .iload_n 2, 1), (24, .ifCond .eq 19, 3), (27, .aload_n 0, 1), (28, .invokevirtual 686, 3), (31, .ifCond .ne 7, 3), (34, .iconst 1, 1), (35, .goto 4, 3), (38, .iconst 0, 1), (39, .istore_n 2, 1), (40, .goto (-21), 3), (43, .aload_n 0, 1), (44, .iconst 0, 1), (45, .putfield 577, 3), (48, .aload_n 0, 1), (49, .invokevirtual 689, 3), (52, .istore_n 3, 1), (53, .aload_n 0, 1), (54, .getfield 577, 3), (57, .ifCond .ne 7, 3), (60, .iconst 1, 1), (61, .goto 4, 3), (64, .iconst 0, 1), (65, .istore_n 2, 1), (66, .goto (-47), 3), (69, .aload_n 0, 1), (70, .getfield 178, 3), (73, .iconst 0, 1), (74, .laload, 1), (75, .lreturn, 1)]
theorem dX12_choice : x_il nX12_choice 76 iX12_choice = true := by decide +kernel
theorem aX12_choice (k : Nat) {pc : Nat} {i : Jvm.ClassFile.Instr} {len : Nat} (hk : iX12_choice[k]? = some (pc, i, len)) : x_at xMM 260 pc i len yX12_choice 4 (some .long) := ⟨cX12_choice, rfl, x_il_ok bX12_choice dX12_choice k hk⟩
set_option maxHeartbeats 4000000 in
set_option maxRecDepth 100000 in
theorem n_choice {zk : xK} {base d n sl : Nat} {SH : Nat → Nat × Nat} {FI : Nat → Nat → Int32} {FL : Nat → Nat → Int64} {FR : Nat → Nat → Option Nat} (hS : h_S n SH) (hF : h_FR FR) (hI : g_I FI) (a1 : Int32) (q : Nat) (g0 : 0 ≤ (a1).toInt ∧ (a1).toInt ≤ 1) (gg0 : au_acc (kf (FI 152)) (wf (FL 153)) (FI 121 92).toInt.toNat q) (gg1 : q ≤ 1000) (rel_kept : rl_t (FI 152) (FL 153)) (rel_hold : rl_h 2 (FI 136) (FL 137) (FI 138)) (rel_piece : rl_h 32 (FI 130) (FL 131) (FI 134)) (rel_back : rl_b (FI 139) (FI 140) (FI 141)) : hw zk base (d + 7) none 260 0 [(0, .ref (base + 121)), (1, .int (a1))] [] (n, sl, SH, FI, FL, FR) (h_J (fun r s => ∃ FI' FL', s = (n, sl, SH, FI', FL', FR) ∧ g_I FI' ∧ g_fr n SH [(121, 29), (121, 30), (121, 31), (121, 32), (121, 33), (121, 34), (121, 37), (121, 38), (121, 90), (121, 91), (121, 92), (121, 93), (121, 101), (121, 104)] [128, 129, 130, 132, 133, 134, 135, 136, 138, 139, 140, 141, 142, 165, 166, 174, 175] [] FI FI' ∧ g_fr n SH [(121, 35), (121, 36), (121, 39)] [127, 131, 137, 173] [] FL FL' ∧ ((FI' 121 92).toInt.toNat = q) ∧ (rl_h 2 (FI' 136) (FL' 137) (FI' 138)) ∧ (rl_h 32 (FI' 130) (FL' 131) (FI' 134)) ∧ (rl_b (FI' 139) (FI' 140) (FI' 141)))) := by
  have rg_a1 := i_rng a1
  obtain ⟨x1, h2⟩ : ∃ y, FI 121 92 = y := ⟨_, rfl⟩
  have h2l := congrArg Int32.toInt h2
  have b3 := gI_121_92 hI; rw [h2] at b3
  have hpq0 := au_acc_le gg0
  have e4 : 0 ≤ (x1).toInt ∧ (x1).toInt ≤ 1000 := by omega
  refine hw_aloadn (aX12_choice 0 rfl) rfl ?_
  refine hw_ic (v := (0 : Int32)) (aX12_choice 1 rfl) (by decide) ?_
  refine hv_puti (aX12_choice 2 rfl) wf_RX12_556 (c121 hS) (s121 hS) (by decide) rfl rfl (fun FI5 u6 => ?_)
  have rl7 : rl_t (FI5 152) (FL 153) := by rw [show FI5 152 = FI 152 from up_row u6 (by decide) rfl]; exact rel_kept
  have rl8 : rl_h 2 (FI5 136) (FL 137) (FI5 138) := by rw [show FI5 136 = FI 136 from up_row u6 (by decide) rfl, show FI5 138 = FI 138 from up_row u6 (by decide) rfl]; exact rel_hold
  have rl9 : rl_h 32 (FI5 130) (FL 131) (FI5 134) := by rw [show FI5 130 = FI 130 from up_row u6 (by decide) rfl, show FI5 134 = FI 134 from up_row u6 (by decide) rfl]; exact rel_piece
  have rl10 : rl_b (FI5 139) (FI5 140) (FI5 141) := by rw [show FI5 139 = FI 139 from up_row u6 (by decide) rfl, show FI5 140 = FI 140 from up_row u6 (by decide) rfl, show FI5 141 = FI 141 from up_row u6 (by decide) rfl]; exact rel_back
  have hI11 : g_I FI5 := gU_121_90 hI u6 (by have := ((by decide : (0 : Int32).toInt = 0) : ((0 : Int32)).toInt = 0); omega) (by have := ((by decide : (0 : Int32).toInt = 0) : ((0 : Int32)).toInt = 0); omega)
  refine hw_aloadn (aX12_choice 3 rfl) rfl ?_
  refine hw_ic (v := (0 : Int32)) (aX12_choice 4 rfl) (by decide) ?_
  refine hv_puti (aX12_choice 5 rfl) wf_RX12_683 (c121 hS) (s121 hS) (by decide) rfl rfl (fun FI12 u13 => ?_)
  have rl14 : rl_t (FI12 152) (FL 153) := by rw [show FI12 152 = FI5 152 from up_row u13 (by decide) rfl]; exact rl7
  have rl15 : rl_h 2 (FI12 136) (FL 137) (FI12 138) := by rw [show FI12 136 = FI5 136 from up_row u13 (by decide) rfl, show FI12 138 = FI5 138 from up_row u13 (by decide) rfl]; exact rl8
  have rl16 : rl_h 32 (FI12 130) (FL 131) (FI12 134) := by rw [show FI12 130 = FI5 130 from up_row u13 (by decide) rfl, show FI12 134 = FI5 134 from up_row u13 (by decide) rfl]; exact rl9
  have rl17 : rl_b (FI12 139) (FI12 140) (FI12 141) := by rw [show FI12 139 = FI5 139 from up_row u13 (by decide) rfl, show FI12 140 = FI5 140 from up_row u13 (by decide) rfl, show FI12 141 = FI5 141 from up_row u13 (by decide) rfl]; exact rl10
  have hI18 : g_I FI12 := gU_121_101 hI11 u13 (by have := ((by decide : (0 : Int32).toInt = 0) : ((0 : Int32)).toInt = 0); omega) (by have := ((by decide : (0 : Int32).toInt = 0) : ((0 : Int32)).toInt = 0); omega)
  refine hw_aloadn (aX12_choice 6 rfl) rfl ?_
  refine xw_iloadn (aX12_choice 7 rfl) rfl ?_
  refine hv_putz (aX12_choice 8 rfl) wf_RX12_680 (c121 hS) (s121 hS) (by decide) rfl rfl (i_01 rfl (by omega) (by omega)) (fun FI19 u20 => ?_)
  have rl21 : rl_t (FI19 152) (FL 153) := by rw [show FI19 152 = FI12 152 from up_row u20 (by decide) rfl]; exact rl14
  have rl22 : rl_h 2 (FI19 136) (FL 137) (FI19 138) := by rw [show FI19 136 = FI12 136 from up_row u20 (by decide) rfl, show FI19 138 = FI12 138 from up_row u20 (by decide) rfl]; exact rl15
  have rl23 : rl_h 32 (FI19 130) (FL 131) (FI19 134) := by rw [show FI19 130 = FI12 130 from up_row u20 (by decide) rfl, show FI19 134 = FI12 134 from up_row u20 (by decide) rfl]; exact rl16
  have rl24 : rl_b (FI19 139) (FI19 140) (FI19 141) := by rw [show FI19 139 = FI12 139 from up_row u20 (by decide) rfl, show FI19 140 = FI12 140 from up_row u20 (by decide) rfl, show FI19 141 = FI12 141 from up_row u20 (by decide) rfl]; exact rl17
  have hI25 : g_I FI19 := gU_121_104 hI18 u20 (by omega) (by omega)
  have rl26 : rl_wm (FI19 121 90) (FI19 165) (FI19 166) := rl_wm_0 (by have := congrArg Int32.toInt (show FI19 121 90 = (0 : Int32) from (up_k u20 (by decide) ((up_k u13 (by decide) (up_eq u6))))); have := ((by decide : (0 : Int32).toInt = 0) : ((0 : Int32)).toInt = 0); omega)
  refine hw_ic (v := (1 : Int32)) (aX12_choice 9 rfl) (by decide) ?_
  refine xw_istoren (L2 := [(2, .int ((1 : Int32))), (0, .ref (base + 121)), (1, .int (a1))]) (aX12_choice 10 rfl) (by decide) rfl ?_
  refine hw_ic (v := (1 : Int32)) (aX12_choice 11 rfl) (by decide) ?_
  refine xw_istoren (L2 := [(3, .int ((1 : Int32))), (2, .int ((1 : Int32))), (0, .ref (base + 121)), (1, .int (a1))]) (aX12_choice 12 rfl) (by decide) rfl ?_
  have lp42 : ∀ (m : Nat) (y3 : Int32) (y2 : Int32) (FIv27 : Nat → Nat → Int32) (FLv28 : Nat → Nat → Int64), (g_fr n SH [(121, 29), (121, 30), (121, 31), (121, 32), (121, 33), (121, 34), (121, 37), (121, 38), (121, 90), (121, 91), (121, 92), (121, 93), (121, 101), (121, 104)] [128, 129, 130, 132, 133, 134, 135, 136, 138, 139, 140, 141, 142, 165, 166, 174, 175] [] FI FIv27) → (g_fr n SH [(121, 35), (121, 36), (121, 39)] [127, 131, 137, 173] [] FL FLv28) → (g_I FIv27) → (rl_t (FIv27 152) (FLv28 153)) → (rl_h 2 (FIv27 136) (FLv28 137) (FIv27 138)) → (rl_h 32 (FIv27 130) (FLv28 131) (FIv27 134)) → (rl_b (FIv27 139) (FIv27 140) (FIv27 141)) → (rl_wm (FIv27 121 90) (FIv27 165) (FIv27 166)) → (0 ≤ (y2).toInt ∧ (y2).toInt ≤ 1) → (0 ≤ (y3).toInt ∧ (y3).toInt ≤ 1) → (0 ≤ (FIv27 121 92).toInt ∧ (FIv27 121 92).toInt ≤ 1000) → (mc_at (kf (FI 152)) (wf (FL 153)) q ((FIv27 121 92).toInt).toNat (y2).toInt (y3).toInt (sk (FIv27 166) ((FIv27 121 90).toInt).toNat) (FIv27 121 101).toInt) → (FIv27 152 = FI 152) → (FLv28 153 = FL 153) → 2 * (1001 - (FIv27 121 92).toInt) + (y3).toInt < m → hw zk base (d + 7) none 260 19 [(3, .int (y3)), (2, .int (y2)), (0, .ref (base + 121))] [] (n, sl, SH, FIv27, FLv28, FR) (h_J (fun r s => ∃ FI' FL', s = (n, sl, SH, FI', FL', FR) ∧ g_I FI' ∧ g_fr n SH [(121, 29), (121, 30), (121, 31), (121, 32), (121, 33), (121, 34), (121, 37), (121, 38), (121, 90), (121, 91), (121, 92), (121, 93), (121, 101), (121, 104)] [128, 129, 130, 132, 133, 134, 135, 136, 138, 139, 140, 141, 142, 165, 166, 174, 175] [] FI FI' ∧ g_fr n SH [(121, 35), (121, 36), (121, 39)] [127, 131, 137, 173] [] FL FL' ∧ ((FI' 121 92).toInt.toNat = q) ∧ (rl_h 2 (FI' 136) (FL' 137) (FI' 138)) ∧ (rl_h 32 (FI' 130) (FL' 131) (FI' 134)) ∧ (rl_b (FI' 139) (FI' 140) (FI' 141)))) := by
    intro m
    induction m with
    | zero => intro y3 y2 FIv27 FLv28 fr29 fr30 hI31 rl32 rl33 rl34 rl35 rl36 iv37 iv38 iv39 xi19_0 rw40 rw41 hm; omega
    | succ m ih =>
      intro y3 y2 FIv27 FLv28 fr29 fr30 hI31 rl32 rl33 rl34 rl35 rl36 iv37 iv38 iv39 xi19_0 rw40 rw41 hm
      have rg_y3 := i_rng y3
      have rg_y2 := i_rng y2
      obtain ⟨x43, h44⟩ : ∃ y, FIv27 121 92 = y := ⟨_, rfl⟩
      have h44l := congrArg Int32.toInt h44
      have b45 := gI_121_92 hI31; rw [h44] at b45
      refine xw_iloadn (aX12_choice 13 rfl) rfl ?_
      refine hw_ifeq (tgt := 69) (aX12_choice 14 rfl) (by decide) rfl (fun cd46 => ?_) (fun cd46 => ?_)
      · refine hw_aloadn (aX12_choice 39 rfl) rfl ?_
        refine hw_get (v := .ref (base + 173)) (aX12_choice 40 rfl) wf_RX12_178 (c121 hS) (s121 hS) (by decide) (congrArg (fun r => va_rf (h_rf base r)) (r121_100 hF)) ?_
        refine hw_ic (v := (0 : Int32)) (aX12_choice 41 rfl) (by decide) ?_
        obtain ⟨x47, h48⟩ : ∃ y, FLv28 173 0 = y := ⟨_, rfl⟩
        have h48l := congrArg Int64.toInt h48
        have := l_rng x47
        refine hw_lald (v := x47) (aX12_choice 42 rfl) (c173 hS) (s173 hS) (h_in (by decide : (0 : Int32).toInt = 0) (by omega) (by omega)) (show FLv28 173 ((0 : Int32)).toNatClampNeg = x47 from h48) ?_
        refine xw_lret (aX12_choice 43 rfl) rfl ?_
        exact ⟨x47, rfl, FIv27, FLv28, rfl, hI31, fr29, fr30, (by have hx := xi19_0; rw [show (y3).toInt = 0 by omega] at hx; have := mc_e hx; have := congrArg Int32.toInt (show FIv27 121 92 = x43 from h44); omega), (show rl_h 2 (FIv27 136) (FLv28 137) (FIv27 138) from rl33), (show rl_h 32 (FIv27 130) (FLv28 131) (FIv27 134) from rl34), (show rl_b (FIv27 139) (FIv27 140) (FIv27 141) from rl35)⟩
      · refine xw_iloadn (aX12_choice 15 rfl) rfl ?_
        refine hw_ifeq (tgt := 43) (aX12_choice 16 rfl) (by decide) rfl (fun cd49 => ?_) (fun cd49 => ?_)
        · refine hw_aloadn (aX12_choice 25 rfl) rfl ?_
          refine hw_ic (v := (0 : Int32)) (aX12_choice 26 rfl) (by decide) ?_
          refine hv_putz (aX12_choice 27 rfl) wf_RX12_577 (c121 hS) (s121 hS) (by decide) rfl rfl (by decide) (fun FI50 u51 => ?_)
          have rl52 : rl_t (FI50 152) (FLv28 153) := by rw [show FI50 152 = FIv27 152 from up_row u51 (by decide) rfl]; exact rl32
          have rl53 : rl_h 2 (FI50 136) (FLv28 137) (FI50 138) := by rw [show FI50 136 = FIv27 136 from up_row u51 (by decide) rfl, show FI50 138 = FIv27 138 from up_row u51 (by decide) rfl]; exact rl33
          have rl54 : rl_h 32 (FI50 130) (FLv28 131) (FI50 134) := by rw [show FI50 130 = FIv27 130 from up_row u51 (by decide) rfl, show FI50 134 = FIv27 134 from up_row u51 (by decide) rfl]; exact rl34
          have rl55 : rl_b (FI50 139) (FI50 140) (FI50 141) := by rw [show FI50 139 = FIv27 139 from up_row u51 (by decide) rfl, show FI50 140 = FIv27 140 from up_row u51 (by decide) rfl, show FI50 141 = FIv27 141 from up_row u51 (by decide) rfl]; exact rl35
          have rl56 : rl_wm (FI50 121 90) (FI50 165) (FI50 166) := by rw [show FI50 165 = FIv27 165 from up_row u51 (by decide) rfl, show FI50 166 = FIv27 166 from up_row u51 (by decide) rfl, show FI50 121 90 = FIv27 121 90 from up_k u51 (by decide) rfl]; exact rl36
          have hI57 : g_I FI50 := gU_121_91 hI31 u51 (by have := ((by decide : (0 : Int32).toInt = 0) : ((0 : Int32)).toInt = 0); omega) (by have := ((by decide : (0 : Int32).toInt = 0) : ((0 : Int32)).toInt = 0); omega)
          have hx := xi19_0; rw [show (y2).toInt = 0 by omega, show (y3).toInt = 1 by omega] at hx; have hr := mc_r hx
          have hr0 := hr; rw [show FIv27 166 = FI50 166 from (up_row u51 (by decide) rfl).symm, show FIv27 121 90 = FI50 121 90 from (up_k u51 (by decide) rfl).symm, show FIv27 121 92 = FI50 121 92 from (up_k u51 (by decide) rfl).symm, show FIv27 121 101 = FI50 121 101 from (up_k u51 (by decide) rfl).symm] at hr0
          have hl := hr0.2.2.2.1; rw [sk_len] at hl
          have := congrArg Int32.toInt (show FI50 121 92 = x43 from (up_k u51 (by decide) (h44)))
          obtain ⟨x58, h59⟩ : ∃ y, FI50 121 90 = y := ⟨_, rfl⟩
          have h59l := congrArg Int32.toInt h59
          have b60 := gI_121_90 hI57; rw [h59] at b60
          have := congrArg Int32.toInt (show FI50 121 90 = x58 from h59)
          obtain ⟨x61, h62⟩ : ∃ y, FI50 121 101 = y := ⟨_, rfl⟩
          have h62l := congrArg Int32.toInt h62
          have b63 := gI_121_101 hI57; rw [h62] at b63
          have := congrArg Int32.toInt (show FI50 121 101 = x61 from h62)
          have hpq := hr0.2.2.2.2.1
          refine hw_aloadn (aX12_choice 28 rfl) rfl ?_
          refine hw_callV (Bs := []) (rest := []) (aX12_choice 29 rfl) wc_RX12_689 (by decide) rfl wi_yX12_meansOperator wv_yX12_meansOperator (c121 hS) (s121 hS) rfl rfl rfl (Nat.le_of_ble_eq_true rfl) (Nat.le_of_ble_eq_true rfl) (n_meansOperator (d := d + 1) hS hF hI57 (by have := congrArg Int32.toInt (show FI50 121 90 = x58 from h59); omega) (by have := congrArg Int32.toInt (show FI50 121 92 = x43 from (up_k u51 (by decide) (h44))); omega) (by have := congrArg Int32.toInt (show FI50 121 91 = (0 : Int32) from up_eq u51); have := ((by decide : (0 : Int32).toInt = 0) : ((0 : Int32)).toInt = 0); omega) (hr0.1) (hr0.2.1) (hr0.2.2.1) (show rl_wm (FI50 121 90) (FI50 165) (FI50 166) from rl56)) (fun v64 sv65 p66 => ?_)
          obtain ⟨r67, rfl, FI68, FL69, rfl, hI70, f71, f72, t73, u74, u75, rl76⟩ := p66
          have rl77 : rl_t (FI68 152) (FL69 153) := by rw [show FI68 152 = FI50 152 from gf_row f71 (c152 hS) (s152 hS) rfl rfl, show FL69 153 = FLv28 153 from gf_row f72 (c153 hS) (s153 hS) rfl rfl]; exact rl52
          have rl78 : rl_h 2 (FI68 136) (FL69 137) (FI68 138) := by rw [show FI68 136 = FI50 136 from gf_row f71 (c136 hS) (s136 hS) rfl rfl, show FL69 137 = FLv28 137 from gf_row f72 (c137 hS) (s137 hS) rfl rfl, show FI68 138 = FI50 138 from gf_row f71 (c138 hS) (s138 hS) rfl rfl]; exact rl53
          have rl79 : rl_h 32 (FI68 130) (FL69 131) (FI68 134) := by rw [show FI68 130 = FI50 130 from gf_row f71 (c130 hS) (s130 hS) rfl rfl, show FL69 131 = FLv28 131 from gf_row f72 (c131 hS) (s131 hS) rfl rfl, show FI68 134 = FI50 134 from gf_row f71 (c134 hS) (s134 hS) rfl rfl]; exact rl54
          have rl80 : rl_b (FI68 139) (FI68 140) (FI68 141) := by rw [show FI68 139 = FI50 139 from gf_row f71 (c139 hS) (s139 hS) rfl rfl, show FI68 140 = FI50 140 from gf_row f71 (c140 hS) (s140 hS) rfl rfl, show FI68 141 = FI50 141 from gf_row f71 (c141 hS) (s141 hS) rfl rfl]; exact rl55
          show hw zk base _ _ _ _ _ [.int (r67)] _ _
          have hma := u74; rw [show FI50 152 = FI 152 from (up_row u51 (by decide) (rw40)), show FLv28 153 = FL 153 from rw41, show FI50 166 = FIv27 166 from (up_row u51 (by decide) rfl), show FI50 121 90 = FIv27 121 90 from (up_k u51 (by decide) rfl), show FI50 121 92 = FIv27 121 92 from (up_k u51 (by decide) rfl)] at hma; have hmb := u75; rw [show FI50 152 = FI 152 from (up_row u51 (by decide) (rw40)), show FLv28 153 = FL 153 from rw41, show FI50 166 = FIv27 166 from (up_row u51 (by decide) rfl), show FI50 121 90 = FIv27 121 90 from (up_k u51 (by decide) rfl), show FI50 121 92 = FIv27 121 92 from (up_k u51 (by decide) rfl)] at hmb
          obtain ⟨x81, h82⟩ : ∃ y, FI68 121 92 = y := ⟨_, rfl⟩
          have h82l := congrArg Int32.toInt h82
          have b83 := gI_121_92 hI70; rw [h82] at b83
          have := congrArg Int32.toInt (show FI68 121 92 = x81 from h82)
          obtain ⟨x84, h85⟩ : ∃ y, FI68 121 91 = y := ⟨_, rfl⟩
          have h85l := congrArg Int32.toInt h85
          have b86 := gI_121_91 hI70; rw [h85] at b86
          have := congrArg Int32.toInt (show FI68 121 91 = x84 from h85)
          have hmi : ((r67).toInt = 0 ∧ (FI68 121 92).toInt.toNat = (FIv27 121 92).toInt.toNat) ∨ ((r67).toInt = 1 ∧ (FIv27 121 92).toInt.toNat < (FI68 121 92).toInt.toNat ∧ (FI68 121 92).toInt.toNat ≤ q) := by rcases hr.2.2.2.2.2 with ⟨hc, hp⟩ | ⟨p1, b1, l1, hst, hp1, hnx⟩; { have ho := hmb hc; exact Or.inl ho }; { have hd := hma p1 b1 l1 hst; have := au_st_lt hst; exact Or.inr ⟨hd.1, by omega, by omega⟩ }
          replace hr := hid_i hr; clear hr0
          refine xw_istoren (L2 := [(3, .int (r67)), (2, .int (y2)), (0, .ref (base + 121))]) (aX12_choice 30 rfl) (by decide) rfl ?_
          refine hw_aloadn (aX12_choice 31 rfl) rfl ?_
          refine hw_get (v := .int (x84)) (aX12_choice 32 rfl) wf_RX12_577 (c121 hS) (s121 hS) (by decide) (congrArg Value.int (show FI68 121 91 = x84 from h85)) ?_
          refine hw_ifne (tgt := 64) (aX12_choice 33 rfl) (by decide) rfl (fun cd87 => ?_) (fun cd87 => ?_)
          · refine hw_ic (v := (0 : Int32)) (aX12_choice 36 rfl) (by decide) ?_
            refine xw_istoren (L2 := [(2, .int ((0 : Int32))), (3, .int (r67)), (0, .ref (base + 121))]) (aX12_choice 37 rfl) (by decide) rfl ?_
            refine xw_goto (tgt := 19) (aX12_choice 38 rfl) (by decide) ?_
            obtain ⟨x88, h89⟩ : ∃ y, FI68 121 101 = y := ⟨_, rfl⟩
            have h89l := congrArg Int32.toInt h89
            have b90 := gI_121_101 hI70; rw [h89] at b90
            obtain ⟨x91, h92⟩ : ∃ y, FI68 121 90 = y := ⟨_, rfl⟩
            have h92l := congrArg Int32.toInt h92
            have b93 := gI_121_90 hI70; rw [h92] at b93
            exact hw_L (ih (r67) ((0 : Int32)) FI68 FL69 (gf_tr ex_rf (gf_f fr29 u51 (by decide)) f71 rfl rfl rfl) (gf_tr ex_rf fr30 f72 rfl rfl rfl) hI70 (show rl_t (FI68 152) (FL69 153) from rl77) (show rl_h 2 (FI68 136) (FL69 137) (FI68 138) from rl78) (show rl_h 32 (FI68 130) (FL69 131) (FI68 134) from rl79) (show rl_b (FI68 139) (FI68 140) (FI68 141) from rl80) (show rl_wm (FI68 121 90) (FI68 165) (FI68 166) from rl76) (by have := ((by decide : (0 : Int32).toInt = 0) : ((0 : Int32)).toInt = 0); omega) (by have := ((by decide : (0 : Int32).toInt = 0) : ((0 : Int32)).toInt = 0); omega) (by have := ((by decide : (0 : Int32).toInt = 0) : ((0 : Int32)).toInt = 0); have := congrArg Int32.toInt (show FI68 121 92 = x81 from h82); omega) (show mc_at (kf (FI 152)) (wf (FL 153)) q ((FI68 121 92).toInt).toNat 0 (r67).toInt (sk (FI68 166) ((FI68 121 90).toInt).toNat) (FI68 121 101).toInt from (by have := ((by decide : (0 : Int32).toInt = 0) : ((0 : Int32)).toInt = 0); have := congrArg Int32.toInt (show FI68 121 101 = x88 from h89); have := congrArg Int32.toInt (show FI68 121 90 = x91 from h92); have := congrArg Int32.toInt (show FI68 121 92 = x81 from h82); exact (by rcases (hid_e hr).2.2.2.2.2 with ⟨hc, hp⟩ | ⟨p1, b1, l1, hst, hp1, hnx⟩; { have ho := hmb hc; exact Or.inl ⟨by omega, by rw [← hp]; exact ho.2⟩ }; { have hd := hma p1 b1 l1 hst; have e2 : (if b1 = true then (1 : Int) else 0) = 0 := (by have hq := hd.2.2.2.2; cases b1 <;> simp at hq ⊢ <;> omega); have h9 := hnx; rw [e2] at h9; rw [hd.2.1, hd.2.2.1, hd.2.2.2.1, show ((r67).toInt : Int) = 1 from hd.1]; exact h9 }))) (show FI68 152 = FI 152 from (gf_row f71 (c152 hS) (s152 hS) rfl ((up_row u51 (by decide) (rw40))))) (show FL69 153 = FL 153 from (gf_row f72 (c153 hS) (s153 hS) rfl (rw41))) (by have := ((by decide : (0 : Int32).toInt = 0) : ((0 : Int32)).toInt = 0); have := congrArg Int32.toInt (show FI68 121 92 = x81 from h82); omega)) ⟨rfl, rfl, rfl, trivial⟩
          · refine hw_ic (v := (1 : Int32)) (aX12_choice 34 rfl) (by decide) ?_
            refine xw_goto (tgt := 65) (aX12_choice 35 rfl) (by decide) ?_
            refine xw_istoren (L2 := [(2, .int ((1 : Int32))), (3, .int (r67)), (0, .ref (base + 121))]) (aX12_choice 37 rfl) (by decide) rfl ?_
            refine xw_goto (tgt := 19) (aX12_choice 38 rfl) (by decide) ?_
            obtain ⟨x94, h95⟩ : ∃ y, FI68 121 101 = y := ⟨_, rfl⟩
            have h95l := congrArg Int32.toInt h95
            have b96 := gI_121_101 hI70; rw [h95] at b96
            obtain ⟨x97, h98⟩ : ∃ y, FI68 121 90 = y := ⟨_, rfl⟩
            have h98l := congrArg Int32.toInt h98
            have b99 := gI_121_90 hI70; rw [h98] at b99
            exact hw_L (ih (r67) ((1 : Int32)) FI68 FL69 (gf_tr ex_rf (gf_f fr29 u51 (by decide)) f71 rfl rfl rfl) (gf_tr ex_rf fr30 f72 rfl rfl rfl) hI70 (show rl_t (FI68 152) (FL69 153) from rl77) (show rl_h 2 (FI68 136) (FL69 137) (FI68 138) from rl78) (show rl_h 32 (FI68 130) (FL69 131) (FI68 134) from rl79) (show rl_b (FI68 139) (FI68 140) (FI68 141) from rl80) (show rl_wm (FI68 121 90) (FI68 165) (FI68 166) from rl76) (by have := ((by decide : (1 : Int32).toInt = 1) : ((1 : Int32)).toInt = 1); omega) (by have := ((by decide : (1 : Int32).toInt = 1) : ((1 : Int32)).toInt = 1); omega) (by have := ((by decide : (1 : Int32).toInt = 1) : ((1 : Int32)).toInt = 1); have := congrArg Int32.toInt (show FI68 121 92 = x81 from h82); omega) (show mc_at (kf (FI 152)) (wf (FL 153)) q ((FI68 121 92).toInt).toNat 1 (r67).toInt (sk (FI68 166) ((FI68 121 90).toInt).toNat) (FI68 121 101).toInt from (by have := ((by decide : (1 : Int32).toInt = 1) : ((1 : Int32)).toInt = 1); have := congrArg Int32.toInt (show FI68 121 101 = x94 from h95); have := congrArg Int32.toInt (show FI68 121 90 = x97 from h98); have := congrArg Int32.toInt (show FI68 121 92 = x81 from h82); exact (by rcases (hid_e hr).2.2.2.2.2 with ⟨hc, hp⟩ | ⟨p1, b1, l1, hst, hp1, hnx⟩; { have ho := hmb hc; exact Or.inl ⟨by omega, by rw [← hp]; exact ho.2⟩ }; { have hd := hma p1 b1 l1 hst; have e2 : (if b1 = true then (1 : Int) else 0) = 1 := (by have hq := hd.2.2.2.2; cases b1 <;> simp at hq ⊢ <;> omega); have h9 := hnx; rw [e2] at h9; rw [hd.2.1, hd.2.2.1, hd.2.2.2.1, show ((r67).toInt : Int) = 1 from hd.1]; exact h9 }))) (show FI68 152 = FI 152 from (gf_row f71 (c152 hS) (s152 hS) rfl ((up_row u51 (by decide) (rw40))))) (show FL69 153 = FL 153 from (gf_row f72 (c153 hS) (s153 hS) rfl (rw41))) (by have := ((by decide : (1 : Int32).toInt = 1) : ((1 : Int32)).toInt = 1); have := congrArg Int32.toInt (show FI68 121 92 = x81 from h82); omega)) ⟨rfl, rfl, rfl, trivial⟩
        · have hx := xi19_0; rw [show (y2).toInt = 1 by omega, show (y3).toInt = 1 by omega] at hx; obtain ⟨hv, hl, p1, b1, l1, hst, hp1, hnx⟩ := mc_d hx; rw [sk_len] at hl; have hltp := au_st_lt hst
          have := congrArg Int32.toInt (show FIv27 121 92 = x43 from h44)
          obtain ⟨x100, h101⟩ : ∃ y, FIv27 121 90 = y := ⟨_, rfl⟩
          have h101l := congrArg Int32.toInt h101
          have b102 := gI_121_90 hI31; rw [h101] at b102
          have := congrArg Int32.toInt (show FIv27 121 90 = x100 from h101)
          obtain ⟨x103, h104⟩ : ∃ y, FIv27 121 101 = y := ⟨_, rfl⟩
          have h104l := congrArg Int32.toInt h104
          have b105 := gI_121_101 hI31; rw [h104] at b105
          have := congrArg Int32.toInt (show FIv27 121 101 = x103 from h104)
          refine hw_aloadn (aX12_choice 17 rfl) rfl ?_
          refine hw_callV (Bs := []) (rest := []) (aX12_choice 18 rfl) wc_RX12_686 (by decide) rfl wi_yX12_meansOperand wv_yX12_meansOperand (c121 hS) (s121 hS) rfl rfl rfl (Nat.le_of_ble_eq_true rfl) (Nat.le_of_ble_eq_true rfl) (n_meansOperand (d := d) hS hF hI31 (by have := congrArg Int32.toInt (show FIv27 121 90 = x100 from h101); omega) (by rw [show FIv27 152 = FI 152 from rw40, show FLv28 153 = FL 153 from rw41]; exact ⟨p1, b1, l1, hst, by omega⟩) (hv) (show rl_wm (FIv27 121 90) (FIv27 165) (FIv27 166) from rl36) (show rl_t (FIv27 152) (FLv28 153) from rl32) (show rl_h 2 (FIv27 136) (FLv28 137) (FIv27 138) from rl33) (show rl_h 32 (FIv27 130) (FLv28 131) (FIv27 134) from rl34) (show rl_b (FIv27 139) (FIv27 140) (FIv27 141) from rl35)) (fun v106 sv107 p108 => ?_)
          obtain ⟨r109, rfl, FI110, FL111, rfl, hI112, f113, f114, t115, u116, rl117, rl118, rl119, rl120⟩ := p108
          have rl121 : rl_t (FI110 152) (FL111 153) := by rw [show FI110 152 = FIv27 152 from gf_row f113 (c152 hS) (s152 hS) rfl rfl, show FL111 153 = FLv28 153 from gf_row f114 (c153 hS) (s153 hS) rfl rfl]; exact rl32
          show hw zk base _ _ _ _ _ [.int (r109)] _ _
          have hd := u116 p1 b1 l1 (by rw [show FIv27 152 = FI 152 from rw40, show FLv28 153 = FL 153 from rw41]; exact hst)
          obtain ⟨x122, h123⟩ : ∃ y, FI110 121 92 = y := ⟨_, rfl⟩
          have h123l := congrArg Int32.toInt h123
          have b124 := gI_121_92 hI112; rw [h123] at b124
          have := congrArg Int32.toInt (show FI110 121 92 = x122 from h123); have hd2 := hd.2.1; have hd1 : 0 ≤ (r109).toInt ∧ (r109).toInt ≤ 1 := (by have hq := hd.1; cases b1 <;> simp at hq <;> omega)
          refine hw_ifne (tgt := 38) (aX12_choice 19 rfl) (by decide) rfl (fun cd125 => ?_) (fun cd125 => ?_)
          · refine hw_ic (v := (0 : Int32)) (aX12_choice 22 rfl) (by decide) ?_
            refine xw_istoren (L2 := [(2, .int ((0 : Int32))), (3, .int (y3)), (0, .ref (base + 121))]) (aX12_choice 23 rfl) (by decide) rfl ?_
            refine xw_goto (tgt := 19) (aX12_choice 24 rfl) (by decide) ?_
            obtain ⟨x126, h127⟩ : ∃ y, FI110 121 101 = y := ⟨_, rfl⟩
            have h127l := congrArg Int32.toInt h127
            have b128 := gI_121_101 hI112; rw [h127] at b128
            obtain ⟨x129, h130⟩ : ∃ y, FI110 121 90 = y := ⟨_, rfl⟩
            have h130l := congrArg Int32.toInt h130
            have b131 := gI_121_90 hI112; rw [h130] at b131
            exact hw_L (ih (y3) ((0 : Int32)) FI110 FL111 (gf_tr ex_rf fr29 f113 rfl rfl rfl) (gf_tr ex_rf fr30 f114 rfl rfl rfl) hI112 (show rl_t (FI110 152) (FL111 153) from rl121) (show rl_h 2 (FI110 136) (FL111 137) (FI110 138) from rl118) (show rl_h 32 (FI110 130) (FL111 131) (FI110 134) from rl119) (show rl_b (FI110 139) (FI110 140) (FI110 141) from rl120) (show rl_wm (FI110 121 90) (FI110 165) (FI110 166) from rl117) (by have := ((by decide : (0 : Int32).toInt = 0) : ((0 : Int32)).toInt = 0); omega) (by have := ((by decide : (0 : Int32).toInt = 0) : ((0 : Int32)).toInt = 0); omega) (by have := ((by decide : (0 : Int32).toInt = 0) : ((0 : Int32)).toInt = 0); have := congrArg Int32.toInt (show FI110 121 92 = x122 from h123); omega) (show mc_at (kf (FI 152)) (wf (FL 153)) q ((FI110 121 92).toInt).toNat 0 (y3).toInt (sk (FI110 166) ((FI110 121 90).toInt).toNat) (FI110 121 101).toInt from (by have := ((by decide : (0 : Int32).toInt = 0) : ((0 : Int32)).toInt = 0); have := congrArg Int32.toInt (show FI110 121 101 = x126 from h127); have := congrArg Int32.toInt (show FI110 121 90 = x129 from h130); have := congrArg Int32.toInt (show FI110 121 92 = x122 from h123); exact (by have e2 : (if b1 = true then (1 : Int) else 0) = 0 := (by have hq := hd.1; cases b1 <;> simp at hq ⊢ <;> omega); have h9 := hnx; rw [e2] at h9; rw [hd.2.1, hd.2.2.1, hd.2.2.2, show ((y3).toInt : Int) = 1 by omega]; exact h9))) (show FI110 152 = FI 152 from (gf_row f113 (c152 hS) (s152 hS) rfl (rw40))) (show FL111 153 = FL 153 from (gf_row f114 (c153 hS) (s153 hS) rfl (rw41))) (by have := ((by decide : (0 : Int32).toInt = 0) : ((0 : Int32)).toInt = 0); have := congrArg Int32.toInt (show FI110 121 92 = x122 from h123); omega)) ⟨rfl, rfl, rfl, trivial⟩
          · refine hw_ic (v := (1 : Int32)) (aX12_choice 20 rfl) (by decide) ?_
            refine xw_goto (tgt := 39) (aX12_choice 21 rfl) (by decide) ?_
            refine xw_istoren (L2 := [(2, .int ((1 : Int32))), (3, .int (y3)), (0, .ref (base + 121))]) (aX12_choice 23 rfl) (by decide) rfl ?_
            refine xw_goto (tgt := 19) (aX12_choice 24 rfl) (by decide) ?_
            obtain ⟨x132, h133⟩ : ∃ y, FI110 121 101 = y := ⟨_, rfl⟩
            have h133l := congrArg Int32.toInt h133
            have b134 := gI_121_101 hI112; rw [h133] at b134
            obtain ⟨x135, h136⟩ : ∃ y, FI110 121 90 = y := ⟨_, rfl⟩
            have h136l := congrArg Int32.toInt h136
            have b137 := gI_121_90 hI112; rw [h136] at b137
            exact hw_L (ih (y3) ((1 : Int32)) FI110 FL111 (gf_tr ex_rf fr29 f113 rfl rfl rfl) (gf_tr ex_rf fr30 f114 rfl rfl rfl) hI112 (show rl_t (FI110 152) (FL111 153) from rl121) (show rl_h 2 (FI110 136) (FL111 137) (FI110 138) from rl118) (show rl_h 32 (FI110 130) (FL111 131) (FI110 134) from rl119) (show rl_b (FI110 139) (FI110 140) (FI110 141) from rl120) (show rl_wm (FI110 121 90) (FI110 165) (FI110 166) from rl117) (by have := ((by decide : (1 : Int32).toInt = 1) : ((1 : Int32)).toInt = 1); omega) (by have := ((by decide : (1 : Int32).toInt = 1) : ((1 : Int32)).toInt = 1); omega) (by have := ((by decide : (1 : Int32).toInt = 1) : ((1 : Int32)).toInt = 1); have := congrArg Int32.toInt (show FI110 121 92 = x122 from h123); omega) (show mc_at (kf (FI 152)) (wf (FL 153)) q ((FI110 121 92).toInt).toNat 1 (y3).toInt (sk (FI110 166) ((FI110 121 90).toInt).toNat) (FI110 121 101).toInt from (by have := ((by decide : (1 : Int32).toInt = 1) : ((1 : Int32)).toInt = 1); have := congrArg Int32.toInt (show FI110 121 101 = x132 from h133); have := congrArg Int32.toInt (show FI110 121 90 = x135 from h136); have := congrArg Int32.toInt (show FI110 121 92 = x122 from h123); exact (by have e2 : (if b1 = true then (1 : Int) else 0) = 1 := (by have hq := hd.1; cases b1 <;> simp at hq ⊢ <;> omega); have h9 := hnx; rw [e2] at h9; rw [hd.2.1, hd.2.2.1, hd.2.2.2, show ((y3).toInt : Int) = 1 by omega]; exact h9))) (show FI110 152 = FI 152 from (gf_row f113 (c152 hS) (s152 hS) rfl (rw40))) (show FL111 153 = FL 153 from (gf_row f114 (c153 hS) (s153 hS) rfl (rw41))) (by have := ((by decide : (1 : Int32).toInt = 1) : ((1 : Int32)).toInt = 1); have := congrArg Int32.toInt (show FI110 121 92 = x122 from h123); omega)) ⟨rfl, rfl, rfl, trivial⟩
  exact hw_L (lp42 ((2 * (1001 - (x1).toInt) + 1 : Int).toNat + 1) ((1 : Int32)) ((1 : Int32)) FI19 FL (gf_f (gf_f (gf_f gf_rf u6 (by decide)) u13 (by decide)) u20 (by decide)) gf_rf hI25 (show rl_t (FI19 152) (FL 153) from rl21) (show rl_h 2 (FI19 136) (FL 137) (FI19 138) from rl22) (show rl_h 32 (FI19 130) (FL 131) (FI19 134) from rl23) (show rl_b (FI19 139) (FI19 140) (FI19 141) from rl24) (show rl_wm (FI19 121 90) (FI19 165) (FI19 166) from rl26) (by have := ((by decide : (1 : Int32).toInt = 1) : ((1 : Int32)).toInt = 1); have := ((by decide : (1 : Int32).toInt = 1) : ((1 : Int32)).toInt = 1); omega) (by have := ((by decide : (1 : Int32).toInt = 1) : ((1 : Int32)).toInt = 1); have := ((by decide : (1 : Int32).toInt = 1) : ((1 : Int32)).toInt = 1); omega) (by have := ((by decide : (1 : Int32).toInt = 1) : ((1 : Int32)).toInt = 1); have := ((by decide : (1 : Int32).toInt = 1) : ((1 : Int32)).toInt = 1); have := congrArg Int32.toInt (show FI19 121 92 = x1 from (up_k u20 (by decide) ((up_k u13 (by decide) ((up_k u6 (by decide) (h2))))))); omega) (show mc_at (kf (FI 152)) (wf (FL 153)) q ((FI19 121 92).toInt).toNat 1 1 (sk (FI19 166) ((FI19 121 90).toInt).toNat) (FI19 121 101).toInt from (by have := ((by decide : (1 : Int32).toInt = 1) : ((1 : Int32)).toInt = 1); have := ((by decide : (1 : Int32).toInt = 1) : ((1 : Int32)).toInt = 1); have := congrArg Int32.toInt (show FI19 121 101 = (0 : Int32) from (up_k u20 (by decide) (up_eq u13))); have := ((by decide : (0 : Int32).toInt = 0) : ((0 : Int32)).toInt = 0); have := congrArg Int32.toInt (show FI19 121 90 = (0 : Int32) from (up_k u20 (by decide) ((up_k u13 (by decide) (up_eq u6))))); have := ((by decide : (0 : Int32).toInt = 0) : ((0 : Int32)).toInt = 0); have := congrArg Int32.toInt (show FI19 121 92 = x1 from (up_k u20 (by decide) ((up_k u13 (by decide) ((up_k u6 (by decide) (h2))))))); exact (by rw [show ((FI19 121 92).toInt).toNat = (FI 121 92).toInt.toNat by omega, show ((FI19 121 90).toInt).toNat = 0 by omega, show (1 : Int) = 1 by omega, show (1 : Int) = 1 by omega, show ((FI19 121 101).toInt : Int) = 0 by omega]; exact mc_0 gg0))) (show FI19 152 = FI 152 from (up_row u20 (by decide) ((up_row u13 (by decide) ((up_row u6 (by decide) (rfl))))))) (show FL 153 = FL 153 from rfl) (by have := ((by decide : (1 : Int32).toInt = 1) : ((1 : Int32)).toInt = 1); have := ((by decide : (1 : Int32).toInt = 1) : ((1 : Int32)).toInt = 1); have := congrArg Int32.toInt (show FI19 121 92 = x1 from (up_k u20 (by decide) ((up_k u13 (by decide) ((up_k u6 (by decide) (h2))))))); omega)) ⟨rfl, rfl, rfl, trivial⟩
