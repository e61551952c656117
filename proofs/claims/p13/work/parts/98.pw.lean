set_option maxHeartbeats 4000000 in
set_option maxRecDepth 100000 in
theorem n_store2 {sk : xK} {base d n sl : Nat} {SH : Nat → Nat × Nat} {FI : Nat → Nat → Int32} {FL : Nat → Nat → Int64} {FR : Nat → Nat → Option Nat} (hS : h_S n SH) (hF : h_FR FR) (hI : g_I FI) (a1 : Int32) (rel_part : rl_p (FI 143) (FL 144)) : hw sk base (d + 1) none 204 0 [(0, .ref (base + 121)), (1, .int (a1))] [] (n, sl, SH, FI, FL, FR) (h_I (fun r s => ∃ FI' FL', s = (n, sl, SH, FI', FL', FR) ∧ g_I FI' ∧ g_fr n SH [(121, 0), (121, 13), (121, 58), (121, 59)] [123] [] FI FI' ∧ g_fr n SH [] [122] [] FL FL' ∧ (((FI' 121 13).toInt = (FI 121 13).toInt ∧ ((a1).toInt < 1 ∨ 512 < (a1).toInt ∨ 8 * (FI 121 13).toInt < (a1).toInt)) ∨ ((FI' 121 13).toInt = 0 ∧ 1 ≤ (a1).toInt ∧ (a1).toInt ≤ 512 ∧ (a1).toInt ≤ 8 * (FI 121 13).toInt)))) := by
  have rg_a1 := i_rng a1
  obtain ⟨x1, h2⟩ : ∃ y, FI 121 13 = y := ⟨_, rfl⟩
  have h2l := congrArg Int32.toInt h2
  have b3 := gI_121_13 hI; rw [h2] at b3
  refine hw_aloadn (aX12_store 0 rfl) rfl ?_
  refine hw_ic (v := (0 : Int32)) (aX12_store 1 rfl) (by decide) ?_
  refine hv_puti (aX12_store 2 rfl) wf_RX12_187 (c121 hS) (s121 hS) (by decide) rfl rfl (fun FI4 u5 => ?_)
  have rl6 : rl_p (FI4 143) (FL 144) := by rw [show FI4 143 = FI 143 from up_row u5 (by decide) rfl]; exact rel_part
  have hI7 : g_I FI4 := gU_F hI u5 rfl
  refine xw_iloadn (aX12_store 3 rfl) rfl ?_
  refine hw_ic (v := (1 : Int32)) (aX12_store 4 rfl) (by decide) ?_
  refine hw_iclt (tgt := 31) (aX12_store 5 rfl) (by decide) rfl (by decide : (1 : Int32).toInt = 1) (fun cd8 => ?_) (fun cd8 => ?_)
  · refine hw_ic (v := ((-1) : Int32)) (aX12_store 17 rfl) (by decide) ?_
    refine xw_iret (aX12_store 18 rfl) rfl rfl ?_
    have e9 : (((-1) : Int32)).toInt = (-1) := (by decide : ((-1) : Int32).toInt = (-1))
    exact ⟨((-1) : Int32), rfl, FI4, FL, rfl, hI7, (gf_f gf_rf u5 (by decide)), gf_rf, (by have : (((-1) : Int32)).toInt = (-1) := (by decide); have := congrArg Int32.toInt (show FI4 121 13 = x1 from (up_k u5 (by decide) (h2))); omega)⟩
  · refine xw_iloadn (aX12_store 6 rfl) rfl ?_
    refine hw_sp (v := (512 : Int32)) (aX12_store 7 rfl) (by decide) ?_
    refine hw_icgt (tgt := 31) (aX12_store 8 rfl) (by decide) rfl (by decide : (512 : Int32).toInt = 512) (fun cd10 => ?_) (fun cd10 => ?_)
    · refine hw_ic (v := ((-1) : Int32)) (aX12_store 17 rfl) (by decide) ?_
      refine xw_iret (aX12_store 18 rfl) rfl rfl ?_
      have e11 : (((-1) : Int32)).toInt = (-1) := (by decide : ((-1) : Int32).toInt = (-1))
      exact ⟨((-1) : Int32), rfl, FI4, FL, rfl, hI7, (gf_f gf_rf u5 (by decide)), gf_rf, (by have : (((-1) : Int32)).toInt = (-1) := (by decide); have := congrArg Int32.toInt (show FI4 121 13 = x1 from (up_k u5 (by decide) (h2))); omega)⟩
    · refine hw_aloadn (aX12_store 9 rfl) rfl ?_
      refine hw_get (v := .int (x1)) (aX12_store 10 rfl) wf_RX12_190 (c121 hS) (s121 hS) (by decide) (congrArg Value.int (show FI4 121 13 = x1 from (up_k u5 (by decide) (h2)))) ?_
      refine xw_iloadn (aX12_store 11 rfl) rfl ?_
      refine hw_bp (v := (7 : Int32)) (aX12_store 12 rfl) (by decide) ?_
      refine xw_iadd (aX12_store 13 rfl) ?_
      refine hw_tie (A := ((a1).toInt) + (7)) (i_add rfl (by decide : (7 : Int32).toInt = 7) (by omega) (by omega)) (fun x12 e13 => ?_)
      refine hw_bp (v := (8 : Int32)) (aX12_store 14 rfl) (by decide) ?_
      refine xw_idiv (aX12_store 15 rfl) (i_ne0 (by decide : (8 : Int32).toInt = 8) (by omega)) ?_
      refine hw_tie (A := (((a1).toInt) + (7)) / (8)) (i_div e13 (by decide : (8 : Int32).toInt = 8) (by omega) (by omega)) (fun x14 e15 => ?_)
      refine hw_icge (tgt := 33) (aX12_store 16 rfl) (by decide) rfl e15 (fun cd16 => ?_) (fun cd16 => ?_)
      · refine hw_aloadn (aX12_store 19 rfl) rfl ?_
        refine hw_ic (v := (0 : Int32)) (aX12_store 20 rfl) (by decide) ?_
        refine hv_puti (aX12_store 21 rfl) wf_RX12_402 (c121 hS) (s121 hS) (by decide) rfl rfl (fun FI17 u18 => ?_)
        have rl19 : rl_p (FI17 143) (FL 144) := by rw [show FI17 143 = FI4 143 from up_row u18 (by decide) rfl]; exact rl6
        have hI20 : g_I FI17 := gU_F hI7 u18 rfl
        refine hw_aloadn (aX12_store 22 rfl) rfl ?_
        refine hw_ic (v := (0 : Int32)) (aX12_store 23 rfl) (by decide) ?_
        refine hv_puti (aX12_store 24 rfl) wf_RX12_405 (c121 hS) (s121 hS) (by decide) rfl rfl (fun FI21 u22 => ?_)
        have rl23 : rl_p (FI21 143) (FL 144) := by rw [show FI21 143 = FI17 143 from up_row u22 (by decide) rfl]; exact rl19
        have hI24 : g_I FI21 := gU_F hI20 u22 rfl
        refine hw_ic (v := (0 : Int32)) (aX12_store 25 rfl) (by decide) ?_
        refine xw_istoren (L2 := [(2, .int ((0 : Int32))), (0, .ref (base + 121)), (1, .int (a1))]) (aX12_store 26 rfl) (by decide) rfl ?_
        refine hw_ic (v := (0 : Int32)) (aX12_store 27 rfl) (by decide) ?_
        refine xw_istoren (L2 := [(3, .int ((0 : Int32))), (2, .int ((0 : Int32))), (0, .ref (base + 121)), (1, .int (a1))]) (aX12_store 28 rfl) (by decide) rfl ?_
        have lp38 : ∀ (m : Nat) (y3 : Int32) (y2 : Int32) (FIv25 : Nat → Nat → Int32) (FLv26 : Nat → Nat → Int64), (g_fr n SH [(121, 0), (121, 13), (121, 58), (121, 59)] [123] [] FI FIv25) → (g_fr n SH [] [122] [] FL FLv26) → (g_I FIv25) → (FIv25 121 13 = x1) → (FIv25 121 0 = (0 : Int32)) → (rl_p (FIv25 143) (FLv26 144)) → (0 ≤ (y3).toInt ∧ (y3).toInt ≤ 512) → (0 ≤ (FIv25 121 58).toInt ∧ (FIv25 121 58).toInt ≤ 16) → (0 ≤ (FIv25 121 59).toInt ∧ (FIv25 121 59).toInt ≤ 512) → ((y3).toInt ≤ (a1).toInt) → ((FIv25 121 59).toInt ≤ (y3).toInt) → (a1).toInt - (y3).toInt < m → hw sk base (d + 1) none 204 47 [(3, .int (y3)), (2, .int (y2)), (0, .ref (base + 121)), (1, .int (a1))] [] (n, sl, SH, FIv25, FLv26, FR) (h_I (fun r s => ∃ FI' FL', s = (n, sl, SH, FI', FL', FR) ∧ g_I FI' ∧ g_fr n SH [(121, 0), (121, 13), (121, 58), (121, 59)] [123] [] FI FI' ∧ g_fr n SH [] [122] [] FL FL' ∧ (((FI' 121 13).toInt = (FI 121 13).toInt ∧ ((a1).toInt < 1 ∨ 512 < (a1).toInt ∨ 8 * (FI 121 13).toInt < (a1).toInt)) ∨ ((FI' 121 13).toInt = 0 ∧ 1 ≤ (a1).toInt ∧ (a1).toInt ≤ 512 ∧ (a1).toInt ≤ 8 * (FI 121 13).toInt)))) := by
          intro m
          induction m with
          | zero => intro y3 y2 FIv25 FLv26 fr27 fr28 hI29 kp30 kp31 rl32 iv33 iv34 iv35 iv36 iv37 hm; omega
          | succ m ih =>
            intro y3 y2 FIv25 FLv26 fr27 fr28 hI29 kp30 kp31 rl32 iv33 iv34 iv35 iv36 iv37 hm
            have rg_y3 := i_rng y3
            have rg_y2 := i_rng y2
            have := congrArg Int32.toInt kp30
            have := congrArg Int32.toInt kp31
            obtain ⟨x39, h40⟩ : ∃ y, FIv25 121 58 = y := ⟨_, rfl⟩
            have h40l := congrArg Int32.toInt h40
            have := i_rng x39
            obtain ⟨x41, h42⟩ : ∃ y, FIv25 121 59 = y := ⟨_, rfl⟩
            have h42l := congrArg Int32.toInt h42
            have := i_rng x41
            refine xw_iloadn (aX12_store 29 rfl) rfl ?_
            refine xw_iloadn (aX12_store 30 rfl) rfl ?_
            refine hw_icge (tgt := 122) (aX12_store 31 rfl) (by decide) rfl rfl (fun cd43 => ?_) (fun cd43 => ?_)
            · refine hw_aloadn (aX12_store 74 rfl) rfl ?_
              refine hw_ic (v := (0 : Int32)) (aX12_store 75 rfl) (by decide) ?_
              refine hv_puti (aX12_store 76 rfl) wf_RX12_190 (c121 hS) (s121 hS) (by decide) rfl rfl (fun FI44 u45 => ?_)
              have rl46 : rl_p (FI44 143) (FLv26 144) := by rw [show FI44 143 = FIv25 143 from up_row u45 (by decide) rfl]; exact rl32
              have hI47 : g_I FI44 := gU_121_13 hI29 u45 (by have := ((by decide : (0 : Int32).toInt = 0) : ((0 : Int32)).toInt = 0); omega) (by have := ((by decide : (0 : Int32).toInt = 0) : ((0 : Int32)).toInt = 0); omega)
              refine xw_iloadn (aX12_store 77 rfl) rfl ?_
              refine xw_iret (aX12_store 78 rfl) rfl rfl ?_
              exact ⟨y2, rfl, FI44, FLv26, rfl, hI47, (gf_f fr27 u45 (by decide)), fr28, (by have := congrArg Int32.toInt (show FI44 121 13 = (0 : Int32) from up_eq u45); have := ((by decide : (0 : Int32).toInt = 0) : ((0 : Int32)).toInt = 0); omega)⟩
            · refine hw_aloadn (aX12_store 32 rfl) rfl ?_
              refine hw_callV (Bs := []) (rest := []) (aX12_store 33 rfl) wc_RX12_413 (by decide) rfl wi_yX12_goes wv_yX12_goes (c121 hS) (s121 hS) rfl rfl rfl (Nat.le_of_ble_eq_true rfl) (Nat.le_of_ble_eq_true rfl) (n_goes (d := d) hS hF hI29 (by have := congrArg Int32.toInt (show FIv25 121 58 = x39 from h40); have := congrArg Int32.toInt (show FIv25 121 58 = x39 from h40); omega) (by have := congrArg Int32.toInt (show FIv25 121 59 = x41 from h42); have := congrArg Int32.toInt (show FIv25 121 59 = x41 from h42); omega)) (fun v48 sv49 p50 => ?_)
              have := congrArg Int32.toInt (show FIv25 121 59 = x41 from h42)
              obtain ⟨r51, rfl, FI52, rfl, hI53, f54, t55, t56, t57, t58⟩ := p50
              have rl59 : rl_p (FI52 143) (FLv26 144) := by rw [show FI52 143 = FIv25 143 from gf_row f54 (c143 hS) (s143 hS) rfl rfl]; exact rl32
              obtain ⟨x60, h61⟩ : ∃ y, FI52 121 58 = y := ⟨_, rfl⟩
              have h61l := congrArg Int32.toInt h61
              have := i_rng x60
              obtain ⟨x62, h63⟩ : ∃ y, FI52 121 46 = y := ⟨_, rfl⟩
              have h63l := congrArg Int32.toInt h63
              have b64 := gI_121_46 hI53; rw [h63] at b64
              obtain ⟨x65, h66⟩ : ∃ y, FI52 121 59 = y := ⟨_, rfl⟩
              have h66l := congrArg Int32.toInt h66
              have := i_rng x65
              show hw sk base _ _ _ _ _ [.int (r51)] _ _
              refine hw_ifeq (tgt := 122) (aX12_store 34 rfl) (by decide) rfl (fun cd67 => ?_) (fun cd67 => ?_)
              · clear t55
                refine hw_aloadn (aX12_store 74 rfl) rfl ?_
                refine hw_ic (v := (0 : Int32)) (aX12_store 75 rfl) (by decide) ?_
                refine hv_puti (aX12_store 76 rfl) wf_RX12_190 (c121 hS) (s121 hS) (by decide) rfl rfl (fun FI68 u69 => ?_)
                have rl70 : rl_p (FI68 143) (FLv26 144) := by rw [show FI68 143 = FI52 143 from up_row u69 (by decide) rfl]; exact rl59
                have hI71 : g_I FI68 := gU_121_13 hI53 u69 (by have := ((by decide : (0 : Int32).toInt = 0) : ((0 : Int32)).toInt = 0); omega) (by have := ((by decide : (0 : Int32).toInt = 0) : ((0 : Int32)).toInt = 0); omega)
                refine xw_iloadn (aX12_store 77 rfl) rfl ?_
                refine xw_iret (aX12_store 78 rfl) rfl rfl ?_
                exact ⟨y2, rfl, FI68, FLv26, rfl, hI71, (gf_f (gf_tr ex_rf fr27 f54 rfl rfl rfl) u69 (by decide)), fr28, (by have := congrArg Int32.toInt (show FI68 121 13 = (0 : Int32) from up_eq u69); have := ((by decide : (0 : Int32).toInt = 0) : ((0 : Int32)).toInt = 0); omega)⟩
              · replace t55 := t55 (by omega)
                refine hw_aloadn (aX12_store 35 rfl) rfl ?_
                refine hw_aloadn (aX12_store 36 rfl) rfl ?_
                refine hw_get (v := .int (x60)) (aX12_store 37 rfl) wf_RX12_402 (c121 hS) (s121 hS) (by decide) (congrArg Value.int (show FI52 121 58 = x60 from h61)) ?_
                refine hw_aloadn (aX12_store 38 rfl) rfl ?_
                refine hw_get (v := .ref (base + 146)) (aX12_store 39 rfl) wf_RX12_93 (c121 hS) (s121 hS) (by decide) (congrArg (fun r => va_rf (h_rf base r)) (r121_51 hF)) ?_
                refine hw_aloadn (aX12_store 40 rfl) rfl ?_
                refine hw_get (v := .int (x60)) (aX12_store 41 rfl) wf_RX12_402 (c121 hS) (s121 hS) (by decide) (congrArg Value.int (show FI52 121 58 = x60 from h61)) ?_
                obtain ⟨x72, h73⟩ : ∃ y, FI52 146 (x60).toNatClampNeg = y := ⟨_, rfl⟩
                have h73l := congrArg Int32.toInt h73
                have := i_rng x72
                refine hw_iald (v := x72) (aX12_store 42 rfl) (c146 hS) (s146 hS) (h_in rfl (by omega) (by omega)) (show FI52 146 (x60).toNatClampNeg = x72 from h73) ?_
                have b74 := gI_146 hI53 (i_lt (x := x60) rfl (by omega) (by omega)); rw [h73] at b74
                refine xw_i2l (aX12_store 43 rfl) ?_
                refine hw_tle (A := (x72).toInt) (i_2l rfl) (fun x75 e76 => ?_)
                refine hw_aloadn (aX12_store 44 rfl) rfl ?_
                refine hw_get (v := .int (x65)) (aX12_store 45 rfl) wf_RX12_405 (c121 hS) (s121 hS) (by decide) (congrArg Value.int (show FI52 121 59 = x65 from h66)) ?_
                refine xw_i2l (aX12_store 46 rfl) ?_
                refine hw_tle (A := (x65).toInt) (i_2l rfl) (fun x77 e78 => ?_)
                refine xw_ladd (aX12_store 47 rfl) ?_
                refine hw_tle (A := ((x72).toInt) + ((x65).toInt)) (l_add e76 e78 (by omega) (by omega)) (fun x79 e80 => ?_)
                refine hw_aloadn (aX12_store 48 rfl) rfl ?_
                refine hw_get (v := .ref (base + 126)) (aX12_store 49 rfl) wf_RX12_30 (c121 hS) (s121 hS) (by decide) (congrArg (fun r => va_rf (h_rf base r)) (r121_12 hF)) ?_
                refine xw_iloadn (aX12_store 50 rfl) rfl ?_
                refine hw_bp (v := (8 : Int32)) (aX12_store 51 rfl) (by decide) ?_
                refine xw_idiv (aX12_store 52 rfl) (i_ne0 (by decide : (8 : Int32).toInt = 8) (by omega)) ?_
                refine hw_tie (A := ((y3).toInt) / (8)) (i_div rfl (by decide : (8 : Int32).toInt = 8) (by omega) (by omega)) (fun x81 e82 => ?_)
                obtain ⟨x83, h84⟩ : ∃ y, FI52 126 (x81).toNatClampNeg = y := ⟨_, rfl⟩
                have h84l := congrArg Int32.toInt h84
                have := i_rng x83
                refine hw_iald (v := x83) (aX12_store 53 rfl) (c126 hS) (s126 hS) (h_in e82 (by omega) (by omega)) (show FI52 126 (x81).toNatClampNeg = x83 from h84) ?_
                have b85 := gI_126 hI53 (i_lt (x := x81) e82 (by omega) (by omega)); rw [h84] at b85
                refine xw_iloadn (aX12_store 54 rfl) rfl ?_
                refine hw_bp (v := (8 : Int32)) (aX12_store 55 rfl) (by decide) ?_
                refine xw_irem (aX12_store 56 rfl) (i_ne0 (by decide : (8 : Int32).toInt = 8) (by omega)) ?_
                refine hw_tie (A := ((y3).toInt) % (8)) (i_rem rfl (by decide : (8 : Int32).toInt = 8) (by omega) (by omega)) (fun x86 e87 => ?_)
                refine xw_ishr (aX12_store 57 rfl) ?_
                refine hw_ti (fun x88 => ?_)
                have b89 := i_rng x88
                refine hw_ic (v := (1 : Int32)) (aX12_store 58 rfl) (by decide) ?_
                refine xw_iand (aX12_store 59 rfl) ?_
                refine hw_tib (lo := 0) (hi := 1) (i_and (x := x88) (m := (1 : Int32)) (M := 1) (by decide) (by decide)) (fun x90 b91 => ?_)
                refine hw_callV (Bs := [.int (x60), .long (x79), .int (x90)]) (rest := []) (aX12_store 60 rfl) wc_RX12_420 (by decide) rfl wi_yX12_puts_ wv_yX12_puts_ (c121 hS) (s121 hS) rfl rfl rfl (Nat.le_of_ble_eq_true rfl) (Nat.le_of_ble_eq_true rfl) (n_puts_ (d := d) hS hF hI53 (x60) (x79) (x90) (by omega) (by have := (e80 : (x79).toInt = ((x72).toInt) + ((x65).toInt)); have := (e80 : (x79).toInt = ((x72).toInt) + ((x65).toInt)); omega) (show rl_p (FI52 143) (FLv26 144) from rl59)) (fun v92 sv93 p94 => ?_)
                obtain ⟨r95, rfl, FI96, FL97, rfl, hI98, f99, f100, t101⟩ := p94
                have rl102 : rl_p (FI96 143) (FL97 144) := by rw [show FI96 143 = FI52 143 from gf_row f99 (c143 hS) (s143 hS) rfl rfl, show FL97 144 = FLv26 144 from gf_row f100 (c144 hS) (s144 hS) rfl rfl]; exact rl59
                show hw sk base _ _ _ _ _ [.int (r95)] _ _
                refine hw_ifeq (tgt := 106) (aX12_store 61 rfl) (by decide) rfl (fun cd103 => ?_) (fun cd103 => ?_)
                · refine hw_aloadn (aX12_store 66 rfl) rfl ?_
                  refine hw_aloadn (aX12_store 67 rfl) rfl ?_
                  refine hw_get (v := .int (x65)) (aX12_store 68 rfl) wf_RX12_405 (c121 hS) (s121 hS) (by decide) (congrArg Value.int (show FI96 121 59 = x65 from (gf_at f99 (c121 hS) (s121 hS) rfl (h66)))) ?_
                  refine hw_ic (v := (1 : Int32)) (aX12_store 69 rfl) (by decide) ?_
                  refine xw_iadd (aX12_store 70 rfl) ?_
                  refine hw_tie (A := ((x65).toInt) + (1)) (i_add rfl (by decide : (1 : Int32).toInt = 1) (by omega) (by omega)) (fun x104 e105 => ?_)
                  refine hv_puti (aX12_store 71 rfl) wf_RX12_405 (c121 hS) (s121 hS) (by decide) rfl rfl (fun FI106 u107 => ?_)
                  have rl108 : rl_p (FI106 143) (FL97 144) := by rw [show FI106 143 = FI96 143 from up_row u107 (by decide) rfl]; exact rl102
                  have hI109 : g_I FI106 := gU_F hI98 u107 rfl
                  obtain ⟨x110, q112⟩ : ∃ y : Int32, (y3) + Int32.ofInt (1) = y := ⟨_, rfl⟩
                  have e111 : (x110).toInt = (y3).toInt + (1) := by rw [← q112]; exact i_add rfl (by decide) (by omega) (by omega)
                  refine xw_iinc (L2 := [(3, .int (x110)), (2, .int (y2)), (0, .ref (base + 121)), (1, .int (a1))]) (aX12_store 72 rfl) rfl (by decide) (by rw [q112]; rfl) ?_
                  refine xw_goto (tgt := 47) (aX12_store 73 rfl) (by decide) ?_
                  exact hw_L (ih (x110) (y2) FI106 FL97 (gf_f (gf_tr ex_rf (gf_tr ex_rf fr27 f54 rfl rfl rfl) f99 rfl rfl rfl) u107 (by decide)) (gf_tr ex_rf fr28 f100 rfl rfl rfl) hI109 (show FI106 121 13 = x1 from (up_k u107 (by decide) ((gf_at f99 (c121 hS) (s121 hS) rfl ((gf_at f54 (c121 hS) (s121 hS) rfl (kp30))))))) (show FI106 121 0 = (0 : Int32) from (up_k u107 (by decide) ((gf_at f99 (c121 hS) (s121 hS) rfl ((gf_at f54 (c121 hS) (s121 hS) rfl (kp31))))))) (show rl_p (FI106 143) (FL97 144) from rl108) (by have := (e111 : (x110).toInt = (y3).toInt + (1)); omega) (by have := (e111 : (x110).toInt = (y3).toInt + (1)); have := congrArg Int32.toInt (show FI106 121 58 = x60 from (up_k u107 (by decide) ((gf_at f99 (c121 hS) (s121 hS) rfl (h61))))); omega) (by have := (e111 : (x110).toInt = (y3).toInt + (1)); have := congrArg Int32.toInt (show FI106 121 59 = x104 from up_eq u107); have := (e105 : (x104).toInt = ((x65).toInt) + (1)); omega) (by have := (e111 : (x110).toInt = (y3).toInt + (1)); omega) (by have := (e111 : (x110).toInt = (y3).toInt + (1)); have := congrArg Int32.toInt (show FI106 121 59 = x104 from up_eq u107); have := (e105 : (x104).toInt = ((x65).toInt) + (1)); omega) (by have := (e111 : (x110).toInt = (y3).toInt + (1)); omega)) ⟨rfl, rfl, rfl, rfl, trivial⟩
                · refine xw_iloadn (aX12_store 62 rfl) rfl ?_
                  refine hw_ic (v := (1 : Int32)) (aX12_store 63 rfl) (by decide) ?_
                  refine xw_iadd (aX12_store 64 rfl) ?_
                  refine hw_ti (fun x113 => ?_)
                  have b114 := i_rng x113
                  refine xw_istoren (L2 := [(2, .int (x113)), (3, .int (y3)), (0, .ref (base + 121)), (1, .int (a1))]) (aX12_store 65 rfl) (by decide) rfl ?_
                  refine hw_aloadn (aX12_store 66 rfl) rfl ?_
                  refine hw_aloadn (aX12_store 67 rfl) rfl ?_
                  refine hw_get (v := .int (x65)) (aX12_store 68 rfl) wf_RX12_405 (c121 hS) (s121 hS) (by decide) (congrArg Value.int (show FI96 121 59 = x65 from (gf_at f99 (c121 hS) (s121 hS) rfl (h66)))) ?_
                  refine hw_ic (v := (1 : Int32)) (aX12_store 69 rfl) (by decide) ?_
                  refine xw_iadd (aX12_store 70 rfl) ?_
                  refine hw_tie (A := ((x65).toInt) + (1)) (i_add rfl (by decide : (1 : Int32).toInt = 1) (by omega) (by omega)) (fun x115 e116 => ?_)
                  refine hv_puti (aX12_store 71 rfl) wf_RX12_405 (c121 hS) (s121 hS) (by decide) rfl rfl (fun FI117 u118 => ?_)
                  have rl119 : rl_p (FI117 143) (FL97 144) := by rw [show FI117 143 = FI96 143 from up_row u118 (by decide) rfl]; exact rl102
                  have hI120 : g_I FI117 := gU_F hI98 u118 rfl
                  obtain ⟨x121, q123⟩ : ∃ y : Int32, (y3) + Int32.ofInt (1) = y := ⟨_, rfl⟩
                  have e122 : (x121).toInt = (y3).toInt + (1) := by rw [← q123]; exact i_add rfl (by decide) (by omega) (by omega)
                  refine xw_iinc (L2 := [(3, .int (x121)), (2, .int (x113)), (0, .ref (base + 121)), (1, .int (a1))]) (aX12_store 72 rfl) rfl (by decide) (by rw [q123]; rfl) ?_
                  refine xw_goto (tgt := 47) (aX12_store 73 rfl) (by decide) ?_
                  exact hw_L (ih (x121) (x113) FI117 FL97 (gf_f (gf_tr ex_rf (gf_tr ex_rf fr27 f54 rfl rfl rfl) f99 rfl rfl rfl) u118 (by decide)) (gf_tr ex_rf fr28 f100 rfl rfl rfl) hI120 (show FI117 121 13 = x1 from (up_k u118 (by decide) ((gf_at f99 (c121 hS) (s121 hS) rfl ((gf_at f54 (c121 hS) (s121 hS) rfl (kp30))))))) (show FI117 121 0 = (0 : Int32) from (up_k u118 (by decide) ((gf_at f99 (c121 hS) (s121 hS) rfl ((gf_at f54 (c121 hS) (s121 hS) rfl (kp31))))))) (show rl_p (FI117 143) (FL97 144) from rl119) (by have := (e122 : (x121).toInt = (y3).toInt + (1)); omega) (by have := (e122 : (x121).toInt = (y3).toInt + (1)); have := congrArg Int32.toInt (show FI117 121 58 = x60 from (up_k u118 (by decide) ((gf_at f99 (c121 hS) (s121 hS) rfl (h61))))); omega) (by have := (e122 : (x121).toInt = (y3).toInt + (1)); have := congrArg Int32.toInt (show FI117 121 59 = x115 from up_eq u118); have := (e116 : (x115).toInt = ((x65).toInt) + (1)); omega) (by have := (e122 : (x121).toInt = (y3).toInt + (1)); omega) (by have := (e122 : (x121).toInt = (y3).toInt + (1)); have := congrArg Int32.toInt (show FI117 121 59 = x115 from up_eq u118); have := (e116 : (x115).toInt = ((x65).toInt) + (1)); omega) (by have := (e122 : (x121).toInt = (y3).toInt + (1)); omega)) ⟨rfl, rfl, rfl, rfl, trivial⟩
        exact hw_L (lp38 (((a1).toInt - 0 : Int).toNat + 1) ((0 : Int32)) ((0 : Int32)) FI21 FL (gf_f (gf_f (gf_f gf_rf u5 (by decide)) u18 (by decide)) u22 (by decide)) gf_rf hI24 (show FI21 121 13 = x1 from (up_k u22 (by decide) ((up_k u18 (by decide) ((up_k u5 (by decide) (h2))))))) (show FI21 121 0 = (0 : Int32) from (up_k u22 (by decide) ((up_k u18 (by decide) (up_eq u5))))) (show rl_p (FI21 143) (FL 144) from rl23) (by have := ((by decide : (0 : Int32).toInt = 0) : ((0 : Int32)).toInt = 0); have := ((by decide : (0 : Int32).toInt = 0) : ((0 : Int32)).toInt = 0); omega) (by have := ((by decide : (0 : Int32).toInt = 0) : ((0 : Int32)).toInt = 0); have := ((by decide : (0 : Int32).toInt = 0) : ((0 : Int32)).toInt = 0); have := congrArg Int32.toInt (show FI21 121 58 = (0 : Int32) from (up_k u22 (by decide) (up_eq u18))); have := ((by decide : (0 : Int32).toInt = 0) : ((0 : Int32)).toInt = 0); omega) (by have := ((by decide : (0 : Int32).toInt = 0) : ((0 : Int32)).toInt = 0); have := ((by decide : (0 : Int32).toInt = 0) : ((0 : Int32)).toInt = 0); have := congrArg Int32.toInt (show FI21 121 59 = (0 : Int32) from up_eq u22); have := ((by decide : (0 : Int32).toInt = 0) : ((0 : Int32)).toInt = 0); omega) (by have := ((by decide : (0 : Int32).toInt = 0) : ((0 : Int32)).toInt = 0); have := ((by decide : (0 : Int32).toInt = 0) : ((0 : Int32)).toInt = 0); omega) (by have := ((by decide : (0 : Int32).toInt = 0) : ((0 : Int32)).toInt = 0); have := ((by decide : (0 : Int32).toInt = 0) : ((0 : Int32)).toInt = 0); have := congrArg Int32.toInt (show FI21 121 59 = (0 : Int32) from up_eq u22); have := ((by decide : (0 : Int32).toInt = 0) : ((0 : Int32)).toInt = 0); omega) (by have := ((by decide : (0 : Int32).toInt = 0) : ((0 : Int32)).toInt = 0); have := ((by decide : (0 : Int32).toInt = 0) : ((0 : Int32)).toInt = 0); omega)) ⟨rfl, rfl, rfl, rfl, trivial⟩
      · refine hw_ic (v := ((-1) : Int32)) (aX12_store 17 rfl) (by decide) ?_
        refine xw_iret (aX12_store 18 rfl) rfl rfl ?_
        have e124 : (((-1) : Int32)).toInt = (-1) := (by decide : ((-1) : Int32).toInt = (-1))
        exact ⟨((-1) : Int32), rfl, FI4, FL, rfl, hI7, (gf_f gf_rf u5 (by decide)), gf_rf, (by have : (((-1) : Int32)).toInt = (-1) := (by decide); have := congrArg Int32.toInt (show FI4 121 13 = x1 from (up_k u5 (by decide) (h2))); omega)⟩
