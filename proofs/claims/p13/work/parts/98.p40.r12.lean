def nX12_registered : Nat := 0xb15102b64d02b6de01b42a2a2ade01b56004de01b42a2af001b660882fde01b42a6c00b42a70102ab1040099db01b42ae701b6052a08009e943601142fde01b42a6c00b42a1800a7e701b6042a0b009f062ede01b42a6900b42ade01b56004de01b42a2a
theorem bX12_registered : cX12_registered.data.toList.map UInt8.toNat = x_un nX12_registered 100 := by decide +kernel
def iX12_registered : List (Nat × Jvm.ClassFile.Instr × Nat) := [(0, .aload_n 0, 1), (1, .aload_n 0, 1), (2, .getfield 478, 3), (5, .iconst 1, 1), (6, .iadd, 1), (7, .putfield 478, 3), (10, .aload_n 0, 1), (11, .getfield 105, 3), (14, .aload_n 0, 1), (15, .getfield 478, 3), (18, .iaload, 1), (19, .iconst 3, 1), (20, .if_icmp .eq 11, 3), (23, .aload_n 0, 1), (24, .iconst 1, 1), (25, .invokevirtual 487, 3), (28, .goto 24, 3), (31, .aload_n 0, 1), (32, .getfield 108, 3), (35, .aload_n 0, 1), (36, .getfield 478, 3), (39, .laload, 1), (40, .ldc2_w 310, 3), (43, .lcmp, 1), (44, .ifCond .le 8, 3), (47, .aload_n 0, 1), (48, .iconst 2, 1), (49, .invokevirtual 487, 3), (52, .aload_n 0, 1), (53, .getfield 475, 3), (56, .ifCond .eq 4, 3), (59, .return_, 1), (60, .aload_n 0, 1), (61, .bipush 112, 2), (63, .aload_n 0, 1), (64, .getfield 108, 3), (67, .aload_n 0, 1), (68, .getfield 478, 3), (71, .laload, 1), (72, .l2i, 1), (73, .iadd, 1), (74, .invokevirtual 496, 3), (77, .aload_n 0, 1), (78, .aload_n 0, 1), (79, .getfield 478, 3), (82, .iconst 1, 1), (83, .iadd, 1), (84, .putfield 478, 3), (87, .aload_n 0, 1), (88, .aload_n 0, 1), (89, .aload_n 0, 1), (90, .getfield 478, 3), (93, .invokevirtual 589, 3), (96, .invokevirtual 593, 3), (99, .return_, 1)]
theorem dX12_registered : x_il nX12_registered 100 iX12_registered = true := by decide +kernel
theorem aX12_registered (k : Nat) {pc : Nat} {i : Jvm.ClassFile.Instr} {len : Nat} (hk : iX12_registered[k]? = some (pc, i, len)) : x_at xMM 240 pc i len yX12_registered 1 none := ⟨cX12_registered, rfl, x_il_ok bX12_registered dX12_registered k hk⟩
set_option maxHeartbeats 4000000 in
set_option maxRecDepth 100000 in
theorem n_registered {zk : xK} {base d n sl : Nat} {SH : Nat → Nat × Nat} {FI : Nat → Nat → Int32} {FL : Nat → Nat → Int64} {FR : Nat → Nat → Option Nat} (hS : h_S n SH) (hF : h_FR FR) (hI : g_I FI) (g0 : (FI 121 68).toInt < (FI 121 67).toInt - 1) (g1 : (FI 121 69).toInt = 0) (g2 : (FI 121 73).toInt ≤ 28900) (rel_tend : rl_e (FI 149) (FI 121 67)) (rel_tok : rl_t (FI 149) (FL 150)) (rel_pm : rl_pm (FI 121 90) (FI 121 73) (FI 166) (FI 167) (FI 168)) : hw zk base (d + 3) none 240 0 [(0, .ref (base + 121))] [] (n, sl, SH, FI, FL, FR) (h_V (fun s => ∃ FI', s = (n, sl, SH, FI', FL, FR) ∧ g_I FI' ∧ g_fr n SH [(121, 68), (121, 69), (121, 70), (121, 73)] [154] [] FI FI' ∧ ((FI' 121 68).toInt ≤ (FI' 121 67).toInt - 1) ∧ ((FI 121 68).toInt < (FI' 121 68).toInt ∧ (FI' 121 68).toInt ≤ (FI 121 68).toInt + 4) ∧ ((FI' 121 73).toInt ≤ (FI 121 73).toInt + 11) ∧ ((FI 121 73).toInt ≤ (FI' 121 73).toInt) ∧ ((FI' 121 69).toInt = 0 → (FI 121 68).toInt + 2 ≤ (FI' 121 68).toInt) ∧ ((FI' 121 69).toInt = 0 → (FI' 121 73).toInt ≤ (FI 121 73).toInt + 4 * ((FI' 121 68).toInt - (FI 121 68).toInt)) ∧ ((FI' 121 69).toInt = 0 → kf (FI 149) ((FI 121 68).toInt.toNat + 1) = 3 ∧ wf (FL 150) ((FI 121 68).toInt.toNat + 1) ≤ 31 ∧ co_cmb (kf (FI 149)) (wf (FL 150)) (sk (FI 166) (FI 121 90).toInt.toNat) ((FI 121 68).toInt.toNat + 2) (FI' 121 68).toInt.toNat) ∧ (rl_pm (FI' 121 90) (FI' 121 73) (FI' 166) (FI' 167) (FI' 168)))) := by
  obtain ⟨x1, h2⟩ : ∃ y, FI 121 68 = y := ⟨_, rfl⟩
  have h2l := congrArg Int32.toInt h2
  have b3 := gI_121_68 hI; rw [h2] at b3
  obtain ⟨x4, h5⟩ : ∃ y, FI 121 67 = y := ⟨_, rfl⟩
  have h5l := congrArg Int32.toInt h5
  have b6 := gI_121_67 hI; rw [h5] at b6
  obtain ⟨x7, h8⟩ : ∃ y, FI 121 69 = y := ⟨_, rfl⟩
  have h8l := congrArg Int32.toInt h8
  have := i_rng x7
  obtain ⟨x9, h10⟩ : ∃ y, FI 121 73 = y := ⟨_, rfl⟩
  have h10l := congrArg Int32.toInt h10
  have b11 := gI_121_73 hI; rw [h10] at b11
  obtain ⟨x12, h13⟩ : ∃ y, FI 121 90 = y := ⟨_, rfl⟩
  have h13l := congrArg Int32.toInt h13
  have b14 := gI_121_90 hI; rw [h13] at b14
  obtain ⟨x15, h16⟩ : ∃ y, FI 121 71 = y := ⟨_, rfl⟩
  have h16l := congrArg Int32.toInt h16
  have := i_rng x15
  refine hw_aloadn (aX12_registered 0 rfl) rfl ?_
  refine hw_aloadn (aX12_registered 1 rfl) rfl ?_
  refine hw_get (v := .int (x1)) (aX12_registered 2 rfl) wf_RX12_478 (c121 hS) (s121 hS) (by decide) (congrArg Value.int (show FI 121 68 = x1 from h2)) ?_
  refine hw_ic (v := (1 : Int32)) (aX12_registered 3 rfl) (by decide) ?_
  refine xw_iadd (aX12_registered 4 rfl) ?_
  refine hw_tie (A := ((x1).toInt) + (1)) (i_add rfl (by decide : (1 : Int32).toInt = 1) (by omega) (by omega)) (fun x17 e18 => ?_)
  refine hv_puti (aX12_registered 5 rfl) wf_RX12_478 (c121 hS) (s121 hS) (by decide) rfl rfl (fun FI19 u20 => ?_)
  have rl21 : rl_e (FI19 149) (FI19 121 67) := by rw [show FI19 149 = FI 149 from up_row u20 (by decide) rfl, show FI19 121 67 = FI 121 67 from up_k u20 (by decide) rfl]; exact rel_tend
  have rl22 : rl_t (FI19 149) (FL 150) := by rw [show FI19 149 = FI 149 from up_row u20 (by decide) rfl]; exact rel_tok
  have rl23 : rl_pm (FI19 121 90) (FI19 121 73) (FI19 166) (FI19 167) (FI19 168) := by rw [show FI19 166 = FI 166 from up_row u20 (by decide) rfl, show FI19 167 = FI 167 from up_row u20 (by decide) rfl, show FI19 168 = FI 168 from up_row u20 (by decide) rfl, show FI19 121 90 = FI 121 90 from up_k u20 (by decide) rfl, show FI19 121 73 = FI 121 73 from up_k u20 (by decide) rfl]; exact rel_pm
  have hI24 : g_I FI19 := gU_121_68 hI u20 (by have := (e18 : (x17).toInt = ((x1).toInt) + (1)); omega) (by have := (e18 : (x17).toInt = ((x1).toInt) + (1)); omega)
  refine hw_aloadn (aX12_registered 6 rfl) rfl ?_
  refine hw_get (v := .ref (base + 149)) (aX12_registered 7 rfl) wf_RX12_105 (c121 hS) (s121 hS) (by decide) (congrArg (fun r => va_rf (h_rf base r)) (r121_62 hF)) ?_
  refine hw_aloadn (aX12_registered 8 rfl) rfl ?_
  refine hw_get (v := .int (x17)) (aX12_registered 9 rfl) wf_RX12_478 (c121 hS) (s121 hS) (by decide) (congrArg Value.int (show FI19 121 68 = x17 from up_eq u20)) ?_
  obtain ⟨x25, h26⟩ : ∃ y, FI19 149 (x17).toNatClampNeg = y := ⟨_, rfl⟩
  have h26l := congrArg Int32.toInt h26
  have := i_rng x25
  refine hw_iald (v := x25) (aX12_registered 10 rfl) (c149 hS) (s149 hS) (h_in e18 (by omega) (by omega)) (show FI19 149 (x17).toNatClampNeg = x25 from h26) ?_
  refine hw_ic (v := (3 : Int32)) (aX12_registered 11 rfl) (by decide) ?_
  refine hw_iceq (tgt := 31) (aX12_registered 12 rfl) (by decide) rfl (by decide : (3 : Int32).toInt = 3) (fun cd27 => ?_) (fun cd27 => ?_)
  · have := congrArg Int32.toInt (show FI19 121 67 = x4 from (up_k u20 (by decide) (h5)))
    have hne27 := rl_e_ne rl21 (t := x17) (by omega)
    refine hw_aloadn (aX12_registered 17 rfl) rfl ?_
    refine hw_get (v := .ref (base + 150)) (aX12_registered 18 rfl) wf_RX12_108 (c121 hS) (s121 hS) (by decide) (congrArg (fun r => va_rf (h_rf base r)) (r121_63 hF)) ?_
    refine hw_aloadn (aX12_registered 19 rfl) rfl ?_
    refine hw_get (v := .int (x17)) (aX12_registered 20 rfl) wf_RX12_478 (c121 hS) (s121 hS) (by decide) (congrArg Value.int (show FI19 121 68 = x17 from up_eq u20)) ?_
    obtain ⟨x28, h29⟩ : ∃ y, FL 150 (x17).toNatClampNeg = y := ⟨_, rfl⟩
    have h29l := congrArg Int64.toInt h29
    have := l_rng x28
    refine hw_lald (v := x28) (aX12_registered 21 rfl) (c150 hS) (s150 hS) (h_in e18 (by omega) (by omega)) (show FL 150 (x17).toNatClampNeg = x28 from h29) ?_
    refine xw_ldc2 (aX12_registered 22 rfl) wk_RX12_310 ?_
    refine hw_lcle (tgt := 52) (aX12_registered 23 rfl) (aX12_registered 24 rfl) (by decide) rfl (by decide : (31 : Int64).toInt = 31) (fun cd30 => ?_) (fun cd30 => ?_)
    · refine hw_aloadn (aX12_registered 28 rfl) rfl ?_
      refine hw_get (v := .int (x7)) (aX12_registered 29 rfl) wf_RX12_475 (c121 hS) (s121 hS) (by decide) (congrArg Value.int (show FI19 121 69 = x7 from (up_k u20 (by decide) (h8)))) ?_
      refine hw_ifeq (tgt := 60) (aX12_registered 30 rfl) (by decide) rfl (fun cd31 => ?_) (fun cd31 => ?_)
      · have kq32 : kf (FI 149) ((FI 121 68).toInt.toNat + 1) = 3 := (by { have e : (FI 121 68).toInt.toNat + 1 = (x17).toNatClampNeg := by { rw [i_cl (x := x17) rfl]; try omega }; show (FI 149 ((FI 121 68).toInt.toNat + 1)).toInt = 3; rw [e, ← (show FI19 149 = FI 149 from (up_row u20 (by decide) (rfl))), show FI19 149 (x17).toNatClampNeg = x25 from h26]; try omega })
        have kq33 : wf (FL 150) ((FI 121 68).toInt.toNat + 1) ≤ 31 := (by { have e : (FI 121 68).toInt.toNat + 1 = (x17).toNatClampNeg := by { rw [i_cl (x := x17) rfl]; try omega }; show (FL 150 ((FI 121 68).toInt.toNat + 1)).toInt ≤ 31; rw [e, show FL 150 (x17).toNatClampNeg = x28 from h29]; try omega })
        refine hw_aloadn (aX12_registered 32 rfl) rfl ?_
        refine hw_bp (v := (112 : Int32)) (aX12_registered 33 rfl) (by decide) ?_
        refine hw_aloadn (aX12_registered 34 rfl) rfl ?_
        refine hw_get (v := .ref (base + 150)) (aX12_registered 35 rfl) wf_RX12_108 (c121 hS) (s121 hS) (by decide) (congrArg (fun r => va_rf (h_rf base r)) (r121_63 hF)) ?_
        refine hw_aloadn (aX12_registered 36 rfl) rfl ?_
        refine hw_get (v := .int (x17)) (aX12_registered 37 rfl) wf_RX12_478 (c121 hS) (s121 hS) (by decide) (congrArg Value.int (show FI19 121 68 = x17 from up_eq u20)) ?_
        refine hw_lald (v := x28) (aX12_registered 38 rfl) (c150 hS) (s150 hS) (h_in e18 (by omega) (by omega)) (show FL 150 (x17).toNatClampNeg = x28 from h29) ?_
        refine xw_l2i (aX12_registered 39 rfl) ?_
        refine hw_ti (fun x34 => ?_)
        have b35 := i_rng x34
        refine xw_iadd (aX12_registered 40 rfl) ?_
        refine hw_ti (fun x36 => ?_)
        have b37 := i_rng x36
        refine hw_callV (Bs := [.int (x36)]) (rest := []) (aX12_registered 41 rfl) wc_RX12_496 (by decide) rfl wi_yX12_emit wv_yX12_emit (c121 hS) (s121 hS) rfl rfl rfl (Nat.le_of_ble_eq_true rfl) (Nat.le_of_ble_eq_true rfl) (n_emit (d := d + 2) hS hF hI24 (x36) (by have := congrArg Int32.toInt (show FI19 121 73 = x9 from (up_k u20 (by decide) (h10))); omega) (show rl_pm (FI19 121 90) (FI19 121 73) (FI19 166) (FI19 167) (FI19 168) from rl23)) (fun v38 sv39 p40 => ?_)
        have := congrArg Int32.toInt (show FI19 121 73 = x9 from (up_k u20 (by decide) (h10)))
        obtain ⟨rfl, FI42, rfl, hI43, f44, t45, rl46⟩ := p40
        have rl47 : rl_e (FI42 149) (FI42 121 67) := by rw [show FI42 149 = FI19 149 from gf_row f44 (c149 hS) (s149 hS) rfl rfl, show FI42 121 67 = FI19 121 67 from gf_at f44 (c121 hS) (s121 hS) rfl rfl]; exact rl21
        have rl48 : rl_t (FI42 149) (FL 150) := by rw [show FI42 149 = FI19 149 from gf_row f44 (c149 hS) (s149 hS) rfl rfl]; exact rl22
        obtain ⟨x49, h50⟩ : ∃ y, FI42 121 73 = y := ⟨_, rfl⟩
        have h50l := congrArg Int32.toInt h50
        have b51 := gI_121_73 hI43; rw [h50] at b51
        show hw zk base _ _ _ _ _ [] _ _
        refine hw_aloadn (aX12_registered 42 rfl) rfl ?_
        refine hw_aloadn (aX12_registered 43 rfl) rfl ?_
        refine hw_get (v := .int (x17)) (aX12_registered 44 rfl) wf_RX12_478 (c121 hS) (s121 hS) (by decide) (congrArg Value.int (show FI42 121 68 = x17 from (gf_at f44 (c121 hS) (s121 hS) rfl (up_eq u20)))) ?_
        refine hw_ic (v := (1 : Int32)) (aX12_registered 45 rfl) (by decide) ?_
        refine xw_iadd (aX12_registered 46 rfl) ?_
        refine hw_tie (A := (((x1).toInt) + (1)) + (1)) (i_add e18 (by decide : (1 : Int32).toInt = 1) (by omega) (by omega)) (fun x52 e53 => ?_)
        refine hv_puti (aX12_registered 47 rfl) wf_RX12_478 (c121 hS) (s121 hS) (by decide) rfl rfl (fun FI54 u55 => ?_)
        have rl56 : rl_e (FI54 149) (FI54 121 67) := by rw [show FI54 149 = FI42 149 from up_row u55 (by decide) rfl, show FI54 121 67 = FI42 121 67 from up_k u55 (by decide) rfl]; exact rl47
        have rl57 : rl_t (FI54 149) (FL 150) := by rw [show FI54 149 = FI42 149 from up_row u55 (by decide) rfl]; exact rl48
        have rl58 : rl_pm (FI54 121 90) (FI54 121 73) (FI54 166) (FI54 167) (FI54 168) := by rw [show FI54 166 = FI42 166 from up_row u55 (by decide) rfl, show FI54 167 = FI42 167 from up_row u55 (by decide) rfl, show FI54 168 = FI42 168 from up_row u55 (by decide) rfl, show FI54 121 90 = FI42 121 90 from up_k u55 (by decide) rfl, show FI54 121 73 = FI42 121 73 from up_k u55 (by decide) rfl]; exact rl46
        have hI59 : g_I FI54 := gU_121_68 hI43 u55 (by have := (e53 : (x52).toInt = (((x1).toInt) + (1)) + (1)); omega) (by have := (e53 : (x52).toInt = (((x1).toInt) + (1)) + (1)); omega)
        refine hw_aloadn (aX12_registered 48 rfl) rfl ?_
        refine hw_aloadn (aX12_registered 49 rfl) rfl ?_
        refine hw_aloadn (aX12_registered 50 rfl) rfl ?_
        refine hw_get (v := .int (x52)) (aX12_registered 51 rfl) wf_RX12_478 (c121 hS) (s121 hS) (by decide) (congrArg Value.int (show FI54 121 68 = x52 from up_eq u55)) ?_
        refine hw_callV (Bs := [.int (x52)]) (rest := [.ref (base + 121)]) (aX12_registered 52 rfl) wc_RX12_589 (by decide) rfl wi_yX12_combined wv_yX12_combined (c121 hS) (s121 hS) rfl rfl rfl (Nat.le_of_ble_eq_true rfl) (Nat.le_of_ble_eq_true rfl) (n_combined (d := d) hS hF hI59 (x52) (by have := (e53 : (x52).toInt = (((x1).toInt) + (1)) + (1)); have := congrArg Int32.toInt (show FI54 121 67 = x4 from (up_k u55 (by decide) ((gf_at f44 (c121 hS) (s121 hS) rfl ((up_k u20 (by decide) (h5))))))); omega) (by have := congrArg Int32.toInt (show FI54 121 68 = x52 from up_eq u55); have := (e53 : (x52).toInt = (((x1).toInt) + (1)) + (1)); have := (e53 : (x52).toInt = (((x1).toInt) + (1)) + (1)); omega) (by have := (e53 : (x52).toInt = (((x1).toInt) + (1)) + (1)); have := (e53 : (x52).toInt = (((x1).toInt) + (1)) + (1)); omega) (show rl_e (FI54 149) (FI54 121 67) from rl56)) (fun v60 sv61 p62 => ?_)
        have := congrArg Int32.toInt (show FI54 121 68 = x52 from up_eq u55)
        have := (e53 : (x52).toInt = (((x1).toInt) + (1)) + (1))
        have := congrArg Int32.toInt (show FI54 121 68 = x52 from up_eq u55)
        have := (e53 : (x52).toInt = (((x1).toInt) + (1)) + (1))
        have := congrArg Int32.toInt (show FI54 121 68 = x52 from up_eq u55)
        have := (e53 : (x52).toInt = (((x1).toInt) + (1)) + (1))
        have := congrArg Int32.toInt (show FI54 121 68 = x52 from up_eq u55)
        have := (e53 : (x52).toInt = (((x1).toInt) + (1)) + (1))
        obtain ⟨r63, rfl, FI64, rfl, hI65, f66, t67, t68, t69, u70⟩ := p62
        have rl71 : rl_e (FI64 149) (FI64 121 67) := by rw [show FI64 149 = FI54 149 from gf_row f66 (c149 hS) (s149 hS) rfl rfl, show FI64 121 67 = FI54 121 67 from gf_at f66 (c121 hS) (s121 hS) rfl rfl]; exact rl56
        have rl72 : rl_t (FI64 149) (FL 150) := by rw [show FI64 149 = FI54 149 from gf_row f66 (c149 hS) (s149 hS) rfl rfl]; exact rl57
        have rl73 : rl_pm (FI64 121 90) (FI64 121 73) (FI64 166) (FI64 167) (FI64 168) := by rw [show FI64 166 = FI54 166 from gf_row f66 (c166 hS) (s166 hS) rfl rfl, show FI64 167 = FI54 167 from gf_row f66 (c167 hS) (s167 hS) rfl rfl, show FI64 168 = FI54 168 from gf_row f66 (c168 hS) (s168 hS) rfl rfl, show FI64 121 90 = FI54 121 90 from gf_at f66 (c121 hS) (s121 hS) rfl rfl, show FI64 121 73 = FI54 121 73 from gf_at f66 (c121 hS) (s121 hS) rfl rfl]; exact rl58
        have rg_r63 := l_rng r63
        obtain ⟨x74, h75⟩ : ∃ y, FI64 121 68 = y := ⟨_, rfl⟩
        have h75l := congrArg Int32.toInt h75
        have b76 := gI_121_68 hI65; rw [h75] at b76
        have := congrArg Int32.toInt (show FI64 121 67 = x4 from (gf_at f66 (c121 hS) (s121 hS) rfl ((up_k u55 (by decide) ((gf_at f44 (c121 hS) (s121 hS) rfl ((up_k u20 (by decide) (h5)))))))))
        show hw zk base _ _ _ _ _ [.long (r63), .ref (base + 121)] _ _
        refine hw_callV (Bs := [.long (r63)]) (rest := []) (aX12_registered 53 rfl) wc_RX12_593 (by decide) rfl wi_yX12_signed wv_yX12_signed (c121 hS) (s121 hS) rfl rfl rfl (Nat.le_of_ble_eq_true rfl) (Nat.le_of_ble_eq_true rfl) (n_signed (d := d + 1) hS hF hI65 (r63) (by have := congrArg Int32.toInt (show FI64 121 73 = x49 from (gf_at f66 (c121 hS) (s121 hS) rfl ((up_k u55 (by decide) (h50))))); omega) (show rl_pm (FI64 121 90) (FI64 121 73) (FI64 166) (FI64 167) (FI64 168) from rl73)) (fun v77 sv78 p79 => ?_)
        have := congrArg Int32.toInt (show FI64 121 73 = x49 from (gf_at f66 (c121 hS) (s121 hS) rfl ((up_k u55 (by decide) (h50)))))
        have := congrArg Int32.toInt (show FI64 121 73 = x49 from (gf_at f66 (c121 hS) (s121 hS) rfl ((up_k u55 (by decide) (h50)))))
        have := congrArg Int32.toInt (show FI64 121 73 = x49 from (gf_at f66 (c121 hS) (s121 hS) rfl ((up_k u55 (by decide) (h50)))))
        obtain ⟨rfl, FI81, rfl, hI82, f83, t84, t85, t86, rl87⟩ := p79
        have rl88 : rl_e (FI81 149) (FI81 121 67) := by rw [show FI81 149 = FI64 149 from gf_row f83 (c149 hS) (s149 hS) rfl rfl, show FI81 121 67 = FI64 121 67 from gf_at f83 (c121 hS) (s121 hS) rfl rfl]; exact rl71
        have rl89 : rl_t (FI81 149) (FL 150) := by rw [show FI81 149 = FI64 149 from gf_row f83 (c149 hS) (s149 hS) rfl rfl]; exact rl72
        obtain ⟨x90, h91⟩ : ∃ y, FI81 121 73 = y := ⟨_, rfl⟩
        have h91l := congrArg Int32.toInt h91
        have b92 := gI_121_73 hI82; rw [h91] at b92
        show hw zk base _ _ _ _ _ [] _ _
        refine xw_vret (aX12_registered 54 rfl) rfl ?_
        exact ⟨rfl, FI81, rfl, hI82, (gf_tr ex_rf (gf_tr ex_rf (gf_f (gf_tr ex_rf (gf_f gf_rf u20 (by decide)) f44 rfl rfl rfl) u55 (by decide)) f66 rfl rfl rfl) f83 rfl rfl rfl), (by have := congrArg Int32.toInt (show FI81 121 67 = x4 from (gf_at f83 (c121 hS) (s121 hS) rfl ((gf_at f66 (c121 hS) (s121 hS) rfl ((up_k u55 (by decide) ((gf_at f44 (c121 hS) (s121 hS) rfl ((up_k u20 (by decide) (h5))))))))))); have := congrArg Int32.toInt (show FI81 121 68 = x74 from (gf_at f83 (c121 hS) (s121 hS) rfl (h75))); omega), (by have := congrArg Int32.toInt (show FI81 121 68 = x74 from (gf_at f83 (c121 hS) (s121 hS) rfl (h75))); omega), (by have := congrArg Int32.toInt (show FI81 121 73 = x90 from h91); omega), (by have := congrArg Int32.toInt (show FI81 121 73 = x90 from h91); omega), (by have := congrArg Int32.toInt (show FI81 121 68 = x74 from (gf_at f83 (c121 hS) (s121 hS) rfl (h75))); have := congrArg Int32.toInt (show FI81 121 69 = x7 from (gf_at f83 (c121 hS) (s121 hS) rfl ((gf_at f66 (c121 hS) (s121 hS) rfl ((up_k u55 (by decide) ((gf_at f44 (c121 hS) (s121 hS) rfl ((up_k u20 (by decide) (h8))))))))))); omega), (by have := congrArg Int32.toInt (show FI81 121 68 = x74 from (gf_at f83 (c121 hS) (s121 hS) rfl (h75))); have := congrArg Int32.toInt (show FI81 121 69 = x7 from (gf_at f83 (c121 hS) (s121 hS) rfl ((gf_at f66 (c121 hS) (s121 hS) rfl ((up_k u55 (by decide) ((gf_at f44 (c121 hS) (s121 hS) rfl ((up_k u20 (by decide) (h8))))))))))); have := congrArg Int32.toInt (show FI81 121 73 = x90 from h91); omega), (by have := congrArg Int32.toInt (show FI81 121 68 = x74 from (gf_at f83 (c121 hS) (s121 hS) rfl (h75))); have := congrArg Int32.toInt (show FI81 121 69 = x7 from (gf_at f83 (c121 hS) (s121 hS) rfl ((gf_at f66 (c121 hS) (s121 hS) rfl ((up_k u55 (by decide) ((gf_at f44 (c121 hS) (s121 hS) rfl ((up_k u20 (by decide) (h8))))))))))); intro h0; have hc := u70; rw [show FI54 149 = FI 149 from (up_row u55 (by decide) ((gf_row f44 (c149 hS) (s149 hS) rfl ((up_row u20 (by decide) (rfl)))))), show FI54 166 = FI 166 from (up_row u55 (by decide) ((gf_row f44 (c166 hS) (s166 hS) rfl ((up_row u20 (by decide) (rfl)))))), show FI54 121 90 = FI 121 90 from ((up_k u55 (by decide) ((gf_at f44 (c121 hS) (s121 hS) rfl ((up_k u20 (by decide) (h13))))))).trans (h13).symm, show (x52).toInt.toNat = (FI 121 68).toInt.toNat + 2 by omega, ← (show FI81 121 68 = FI64 121 68 from ((gf_at f83 (c121 hS) (s121 hS) rfl (h75))).trans (h75).symm)] at hc; exact ⟨kq32, kq33, hc⟩), (show rl_pm (FI81 121 90) (FI81 121 73) (FI81 166) (FI81 167) (FI81 168) from rl87)⟩
      · refine xw_vret (aX12_registered 31 rfl) rfl ?_
        exact ⟨rfl, FI19, rfl, hI24, (gf_f gf_rf u20 (by decide)), (by have := congrArg Int32.toInt (show FI19 121 67 = x4 from (up_k u20 (by decide) (h5))); have := congrArg Int32.toInt (show FI19 121 68 = x17 from up_eq u20); have := (e18 : (x17).toInt = ((x1).toInt) + (1)); omega), (by have := congrArg Int32.toInt (show FI19 121 68 = x17 from up_eq u20); have := (e18 : (x17).toInt = ((x1).toInt) + (1)); omega), (by have := congrArg Int32.toInt (show FI19 121 73 = x9 from (up_k u20 (by decide) (h10))); omega), (by have := congrArg Int32.toInt (show FI19 121 73 = x9 from (up_k u20 (by decide) (h10))); omega), (by have := congrArg Int32.toInt (show FI19 121 68 = x17 from up_eq u20); have := (e18 : (x17).toInt = ((x1).toInt) + (1)); have := congrArg Int32.toInt (show FI19 121 69 = x7 from (up_k u20 (by decide) (h8))); omega), (by have := congrArg Int32.toInt (show FI19 121 68 = x17 from up_eq u20); have := (e18 : (x17).toInt = ((x1).toInt) + (1)); have := congrArg Int32.toInt (show FI19 121 69 = x7 from (up_k u20 (by decide) (h8))); have := congrArg Int32.toInt (show FI19 121 73 = x9 from (up_k u20 (by decide) (h10))); omega), (by have := congrArg Int32.toInt (show FI19 121 69 = x7 from (up_k u20 (by decide) (h8))); exact fun h => absurd h (by omega)), (show rl_pm (FI19 121 90) (FI19 121 73) (FI19 166) (FI19 167) (FI19 168) from rl23)⟩
    · refine hw_aloadn (aX12_registered 25 rfl) rfl ?_
      refine hw_ic (v := (2 : Int32)) (aX12_registered 26 rfl) (by decide) ?_
      refine hw_callV (Bs := [.int ((2 : Int32))]) (rest := []) (aX12_registered 27 rfl) wc_RX12_487 (by decide) rfl wi_yX12_fail wv_yX12_fail (c121 hS) (s121 hS) rfl rfl rfl (Nat.le_of_ble_eq_true rfl) (Nat.le_of_ble_eq_true rfl) (n_fail (d := d + 2) hS hF hI24 ((2 : Int32)) (by have := ((by decide : (2 : Int32).toInt = 2) : ((2 : Int32)).toInt = 2); omega)) (fun v93 sv94 p95 => ?_)
      obtain ⟨rfl, FI97, rfl, hI98, f99, t100⟩ := p95
      have rl101 : rl_e (FI97 149) (FI97 121 67) := by rw [show FI97 149 = FI19 149 from gf_row f99 (c149 hS) (s149 hS) rfl rfl, show FI97 121 67 = FI19 121 67 from gf_at f99 (c121 hS) (s121 hS) rfl rfl]; exact rl21
      have rl102 : rl_t (FI97 149) (FL 150) := by rw [show FI97 149 = FI19 149 from gf_row f99 (c149 hS) (s149 hS) rfl rfl]; exact rl22
      have rl103 : rl_pm (FI97 121 90) (FI97 121 73) (FI97 166) (FI97 167) (FI97 168) := by rw [show FI97 166 = FI19 166 from gf_row f99 (c166 hS) (s166 hS) rfl rfl, show FI97 167 = FI19 167 from gf_row f99 (c167 hS) (s167 hS) rfl rfl, show FI97 168 = FI19 168 from gf_row f99 (c168 hS) (s168 hS) rfl rfl, show FI97 121 90 = FI19 121 90 from gf_at f99 (c121 hS) (s121 hS) rfl rfl, show FI97 121 73 = FI19 121 73 from gf_at f99 (c121 hS) (s121 hS) rfl rfl]; exact rl23
      obtain ⟨x104, h105⟩ : ∃ y, FI97 121 69 = y := ⟨_, rfl⟩
      have h105l := congrArg Int32.toInt h105
      have := i_rng x104
      show hw zk base _ _ _ _ _ [] _ _
      refine hw_aloadn (aX12_registered 28 rfl) rfl ?_
      refine hw_get (v := .int (x104)) (aX12_registered 29 rfl) wf_RX12_475 (c121 hS) (s121 hS) (by decide) (congrArg Value.int (show FI97 121 69 = x104 from h105)) ?_
      refine hw_ifeq (tgt := 60) (aX12_registered 30 rfl) (by decide) rfl (fun cd106 => ?_) (fun cd106 => ?_)
      · omega
      · refine xw_vret (aX12_registered 31 rfl) rfl ?_
        exact ⟨rfl, FI97, rfl, hI98, (gf_tr ex_rf (gf_f gf_rf u20 (by decide)) f99 rfl rfl rfl), (by have := congrArg Int32.toInt (show FI97 121 67 = x4 from (gf_at f99 (c121 hS) (s121 hS) rfl ((up_k u20 (by decide) (h5))))); have := congrArg Int32.toInt (show FI97 121 68 = x17 from (gf_at f99 (c121 hS) (s121 hS) rfl (up_eq u20))); have := (e18 : (x17).toInt = ((x1).toInt) + (1)); omega), (by have := congrArg Int32.toInt (show FI97 121 68 = x17 from (gf_at f99 (c121 hS) (s121 hS) rfl (up_eq u20))); have := (e18 : (x17).toInt = ((x1).toInt) + (1)); omega), (by have := congrArg Int32.toInt (show FI97 121 73 = x9 from (gf_at f99 (c121 hS) (s121 hS) rfl ((up_k u20 (by decide) (h10))))); omega), (by have := congrArg Int32.toInt (show FI97 121 73 = x9 from (gf_at f99 (c121 hS) (s121 hS) rfl ((up_k u20 (by decide) (h10))))); omega), (by have := congrArg Int32.toInt (show FI97 121 68 = x17 from (gf_at f99 (c121 hS) (s121 hS) rfl (up_eq u20))); have := (e18 : (x17).toInt = ((x1).toInt) + (1)); have := congrArg Int32.toInt (show FI97 121 69 = x104 from h105); omega), (by have := congrArg Int32.toInt (show FI97 121 68 = x17 from (gf_at f99 (c121 hS) (s121 hS) rfl (up_eq u20))); have := (e18 : (x17).toInt = ((x1).toInt) + (1)); have := congrArg Int32.toInt (show FI97 121 69 = x104 from h105); have := congrArg Int32.toInt (show FI97 121 73 = x9 from (gf_at f99 (c121 hS) (s121 hS) rfl ((up_k u20 (by decide) (h10))))); omega), (by have := congrArg Int32.toInt (show FI97 121 69 = x104 from h105); exact fun h => absurd h (by omega)), (show rl_pm (FI97 121 90) (FI97 121 73) (FI97 166) (FI97 167) (FI97 168) from rl103)⟩
  · refine hw_aloadn (aX12_registered 13 rfl) rfl ?_
    refine hw_ic (v := (1 : Int32)) (aX12_registered 14 rfl) (by decide) ?_
    refine hw_callV (Bs := [.int ((1 : Int32))]) (rest := []) (aX12_registered 15 rfl) wc_RX12_487 (by decide) rfl wi_yX12_fail wv_yX12_fail (c121 hS) (s121 hS) rfl rfl rfl (Nat.le_of_ble_eq_true rfl) (Nat.le_of_ble_eq_true rfl) (n_fail (d := d + 2) hS hF hI24 ((1 : Int32)) (by have := ((by decide : (1 : Int32).toInt = 1) : ((1 : Int32)).toInt = 1); omega)) (fun v107 sv108 p109 => ?_)
    obtain ⟨rfl, FI111, rfl, hI112, f113, t114⟩ := p109
    have rl115 : rl_e (FI111 149) (FI111 121 67) := by rw [show FI111 149 = FI19 149 from gf_row f113 (c149 hS) (s149 hS) rfl rfl, show FI111 121 67 = FI19 121 67 from gf_at f113 (c121 hS) (s121 hS) rfl rfl]; exact rl21
    have rl116 : rl_t (FI111 149) (FL 150) := by rw [show FI111 149 = FI19 149 from gf_row f113 (c149 hS) (s149 hS) rfl rfl]; exact rl22
    have rl117 : rl_pm (FI111 121 90) (FI111 121 73) (FI111 166) (FI111 167) (FI111 168) := by rw [show FI111 166 = FI19 166 from gf_row f113 (c166 hS) (s166 hS) rfl rfl, show FI111 167 = FI19 167 from gf_row f113 (c167 hS) (s167 hS) rfl rfl, show FI111 168 = FI19 168 from gf_row f113 (c168 hS) (s168 hS) rfl rfl, show FI111 121 90 = FI19 121 90 from gf_at f113 (c121 hS) (s121 hS) rfl rfl, show FI111 121 73 = FI19 121 73 from gf_at f113 (c121 hS) (s121 hS) rfl rfl]; exact rl23
    obtain ⟨x118, h119⟩ : ∃ y, FI111 121 69 = y := ⟨_, rfl⟩
    have h119l := congrArg Int32.toInt h119
    have := i_rng x118
    show hw zk base _ _ _ _ _ [] _ _
    refine xw_goto (tgt := 52) (aX12_registered 16 rfl) (by decide) ?_
    refine hw_aloadn (aX12_registered 28 rfl) rfl ?_
    refine hw_get (v := .int (x118)) (aX12_registered 29 rfl) wf_RX12_475 (c121 hS) (s121 hS) (by decide) (congrArg Value.int (show FI111 121 69 = x118 from h119)) ?_
    refine hw_ifeq (tgt := 60) (aX12_registered 30 rfl) (by decide) rfl (fun cd120 => ?_) (fun cd120 => ?_)
    · omega
    · refine xw_vret (aX12_registered 31 rfl) rfl ?_
      exact ⟨rfl, FI111, rfl, hI112, (gf_tr ex_rf (gf_f gf_rf u20 (by decide)) f113 rfl rfl rfl), (by have := congrArg Int32.toInt (show FI111 121 67 = x4 from (gf_at f113 (c121 hS) (s121 hS) rfl ((up_k u20 (by decide) (h5))))); have := congrArg Int32.toInt (show FI111 121 68 = x17 from (gf_at f113 (c121 hS) (s121 hS) rfl (up_eq u20))); have := (e18 : (x17).toInt = ((x1).toInt) + (1)); omega), (by have := congrArg Int32.toInt (show FI111 121 68 = x17 from (gf_at f113 (c121 hS) (s121 hS) rfl (up_eq u20))); have := (e18 : (x17).toInt = ((x1).toInt) + (1)); omega), (by have := congrArg Int32.toInt (show FI111 121 73 = x9 from (gf_at f113 (c121 hS) (s121 hS) rfl ((up_k u20 (by decide) (h10))))); omega), (by have := congrArg Int32.toInt (show FI111 121 73 = x9 from (gf_at f113 (c121 hS) (s121 hS) rfl ((up_k u20 (by decide) (h10))))); omega), (by have := congrArg Int32.toInt (show FI111 121 68 = x17 from (gf_at f113 (c121 hS) (s121 hS) rfl (up_eq u20))); have := (e18 : (x17).toInt = ((x1).toInt) + (1)); have := congrArg Int32.toInt (show FI111 121 69 = x118 from h119); omega), (by have := congrArg Int32.toInt (show FI111 121 68 = x17 from (gf_at f113 (c121 hS) (s121 hS) rfl (up_eq u20))); have := (e18 : (x17).toInt = ((x1).toInt) + (1)); have := congrArg Int32.toInt (show FI111 121 69 = x118 from h119); have := congrArg Int32.toInt (show FI111 121 73 = x9 from (gf_at f113 (c121 hS) (s121 hS) rfl ((up_k u20 (by decide) (h10))))); omega), (by have := congrArg Int32.toInt (show FI111 121 69 = x118 from h119); exact fun h => absurd h (by omega)), (show rl_pm (FI111 121 90) (FI111 121 73) (FI111 166) (FI111 167) (FI111 168) from rl117)⟩
