set_option maxHeartbeats 4000000 in
set_option maxRecDepth 100000 in
theorem k_frame2 {sk : xK} {base d n sl : Nat} {SH : Nat → Nat × Nat} {FI : Nat → Nat → Int32} {FL : Nat → Nat → Int64} {FR : Nat → Nat → Option Nat} (hS : h_S n SH) (hF : h_FR FR) (hI : g_I FI) (hR : g_R n SH FR) (a1 : Int32) : hw sk base d none 128 0 [(0, .ref (base + 0)), (1, .int (a1))] [] (n, sl, SH, FI, FL, FR) (h_I (fun r s => ∃ FI', s = (n, sl, SH, FI', FL, FR) ∧ g_I FI' ∧ g_fr n (shd SH) [(23, 4)] [] [] FI FI' ∧ (r.toInt = 1 → (-1 ≤ (a1).toInt ∧ (a1).toInt ≤ 15)) ∧ (r.toInt = 0 → ((a1).toInt < -1 ∨ 15 < (a1).toInt)) ∧ (0 ≤ r.toInt ∧ r.toInt ≤ 1))) := by
  have rg_a1 := i_rng a1
  refine xw_iloadn (aX11_frame 0 rfl) rfl ?_
  refine hw_ic (v := ((-1) : Int32)) (aX11_frame 1 rfl) (by decide) ?_
  refine hw_iclt (tgt := 17) (aX11_frame 2 rfl) (by decide) rfl (by decide : ((-1) : Int32).toInt = (-1)) (fun cd1 => ?_) (fun cd1 => ?_)
  · refine hw_ic (v := (0 : Int32)) (aX11_frame 9 rfl) (by decide) ?_
    refine xw_iret (aX11_frame 10 rfl) rfl (by decide) ?_
    have e2 : ((0 : Int32)).toInt = 0 := (by decide : (0 : Int32).toInt = 0)
    exact ⟨(0 : Int32), rfl, FI, rfl, hI, gf_rf, (by have : ((0 : Int32)).toInt = 0 := (by decide); omega), (by have : ((0 : Int32)).toInt = 0 := (by decide); omega), (by have : ((0 : Int32)).toInt = 0 := (by decide); omega)⟩
  · refine xw_iloadn (aX11_frame 3 rfl) rfl ?_
    refine hw_aloadn (aX11_frame 4 rfl) rfl ?_
    refine hw_get (v := .ref (base + 23)) (aX11_frame 5 rfl) wf_RX11_35 (c0 hS) (s0 hS) (by decide) (congrArg (fun r => va_rf (h_rf base r)) (r0_0 hF)) ?_
    refine hw_get (v := .ref (base + 26)) (aX11_frame 6 rfl) wf_RX11_77 (c23 hS) (s23 hS) (by decide) (congrArg (fun r => va_rf (h_rf base r)) (r23_2 hF)) ?_
    refine hw_alen (k := 6) (z := 16) (v := (16 : Int32)) (aX11_frame 7 rfl) (c26 hS) (s26 hS) (by decide) (by decide) ?_
    refine hw_iclt (tgt := 19) (aX11_frame 8 rfl) (by decide) rfl (by decide : (16 : Int32).toInt = 16) (fun cd3 => ?_) (fun cd3 => ?_)
    · refine hw_aloadn (aX11_frame 11 rfl) rfl ?_
      refine hw_get (v := .ref (base + 23)) (aX11_frame 12 rfl) wf_RX11_35 (c0 hS) (s0 hS) (by decide) (congrArg (fun r => va_rf (h_rf base r)) (r0_0 hF)) ?_
      refine xw_iloadn (aX11_frame 13 rfl) rfl ?_
      refine hv_puti (aX11_frame 14 rfl) wf_RX11_105 (c23 hS) (s23 hS) (by decide) rfl rfl (fun FI4 u5 => ?_)
      have hI6 : g_I FI4 := gU_23_4 hI u5 (by omega) (by omega)
      refine hw_ic (v := (1 : Int32)) (aX11_frame 15 rfl) (by decide) ?_
      refine xw_iret (aX11_frame 16 rfl) rfl (by decide) ?_
      have e7 : ((1 : Int32)).toInt = 1 := (by decide : (1 : Int32).toInt = 1)
      exact ⟨(1 : Int32), rfl, FI4, rfl, hI6, (gf_f gf_rf u5 (by decide)), (by have : ((1 : Int32)).toInt = 1 := (by decide); omega), (by have : ((1 : Int32)).toInt = 1 := (by decide); omega), (by have : ((1 : Int32)).toInt = 1 := (by decide); omega)⟩
    · refine hw_ic (v := (0 : Int32)) (aX11_frame 9 rfl) (by decide) ?_
      refine xw_iret (aX11_frame 10 rfl) rfl (by decide) ?_
      have e8 : ((0 : Int32)).toInt = 0 := (by decide : (0 : Int32).toInt = 0)
      exact ⟨(0 : Int32), rfl, FI, rfl, hI, gf_rf, (by have : ((0 : Int32)).toInt = 0 := (by decide); omega), (by have : ((0 : Int32)).toInt = 0 := (by decide); omega), (by have : ((0 : Int32)).toInt = 0 := (by decide); omega)⟩
set_option maxHeartbeats 4000000 in
set_option maxRecDepth 100000 in
theorem k_modelFrame {sk : xK} {base d n sl : Nat} {SH : Nat → Nat × Nat} {FI : Nat → Nat → Int32} {FL : Nat → Nat → Int64} {FR : Nat → Nat → Option Nat} (hS : h_S n SH) (hF : h_FR FR) (hI : g_I FI) (hR : g_R n SH FR) (a1 : Int32) : hw sk base d none 163 0 [(0, .ref (base + 121)), (1, .int (a1))] [] (n, sl, SH, FI, FL, FR) (h_I (fun r s => ∃ FI', s = (n, sl, SH, FI', FL, FR) ∧ g_I FI' ∧ g_fr n (shd SH) [(121, 0), (121, 5)] [] [] FI FI' ∧ (r.toInt = 1 → (-1 ≤ (a1).toInt ∧ (a1).toInt ≤ 15)) ∧ (r.toInt = 0 → ((a1).toInt < -1 ∨ 15 < (a1).toInt)) ∧ (0 ≤ r.toInt ∧ r.toInt ≤ 1))) := by
  have rg_a1 := i_rng a1
  refine hw_aloadn (aX12_frame 0 rfl) rfl ?_
  refine hw_ic (v := (0 : Int32)) (aX12_frame 1 rfl) (by decide) ?_
  refine hv_puti (aX12_frame 2 rfl) wf_RX12_187 (c121 hS) (s121 hS) (by decide) rfl rfl (fun FI1 u2 => ?_)
  have hI3 : g_I FI1 := gU_F hI u2 rfl
  refine xw_iloadn (aX12_frame 3 rfl) rfl ?_
  refine hw_ic (v := ((-1) : Int32)) (aX12_frame 4 rfl) (by decide) ?_
  refine hw_iclt (tgt := 16) (aX12_frame 5 rfl) (by decide) rfl (by decide : ((-1) : Int32).toInt = (-1)) (fun cd4 => ?_) (fun cd4 => ?_)
  · refine hw_ic (v := (0 : Int32)) (aX12_frame 9 rfl) (by decide) ?_
    refine xw_iret (aX12_frame 10 rfl) rfl (by decide) ?_
    have e5 : ((0 : Int32)).toInt = 0 := (by decide : (0 : Int32).toInt = 0)
    exact ⟨(0 : Int32), rfl, FI1, rfl, hI3, (gf_f gf_rf u2 (by decide)), (by have : ((0 : Int32)).toInt = 0 := (by decide); omega), (by have : ((0 : Int32)).toInt = 0 := (by decide); omega), (by have : ((0 : Int32)).toInt = 0 := (by decide); omega)⟩
  · refine xw_iloadn (aX12_frame 6 rfl) rfl ?_
    refine hw_bp (v := (15 : Int32)) (aX12_frame 7 rfl) (by decide) ?_
    refine hw_icle (tgt := 18) (aX12_frame 8 rfl) (by decide) rfl (by decide : (15 : Int32).toInt = 15) (fun cd6 => ?_) (fun cd6 => ?_)
    · refine hw_aloadn (aX12_frame 11 rfl) rfl ?_
      refine xw_iloadn (aX12_frame 12 rfl) rfl ?_
      refine hv_puti (aX12_frame 13 rfl) wf_RX12_23 (c121 hS) (s121 hS) (by decide) rfl rfl (fun FI7 u8 => ?_)
      have hI9 : g_I FI7 := gU_121_5 hI3 u8 (by omega) (by omega)
      refine hw_ic (v := (1 : Int32)) (aX12_frame 14 rfl) (by decide) ?_
      refine xw_iret (aX12_frame 15 rfl) rfl (by decide) ?_
      have e10 : ((1 : Int32)).toInt = 1 := (by decide : (1 : Int32).toInt = 1)
      exact ⟨(1 : Int32), rfl, FI7, rfl, hI9, (gf_f (gf_f gf_rf u2 (by decide)) u8 (by decide)), (by have : ((1 : Int32)).toInt = 1 := (by decide); omega), (by have : ((1 : Int32)).toInt = 1 := (by decide); omega), (by have : ((1 : Int32)).toInt = 1 := (by decide); omega)⟩
    · refine hw_ic (v := (0 : Int32)) (aX12_frame 9 rfl) (by decide) ?_
      refine xw_iret (aX12_frame 10 rfl) rfl (by decide) ?_
      have e11 : ((0 : Int32)).toInt = 0 := (by decide : (0 : Int32).toInt = 0)
      exact ⟨(0 : Int32), rfl, FI1, rfl, hI3, (gf_f gf_rf u2 (by decide)), (by have : ((0 : Int32)).toInt = 0 := (by decide); omega), (by have : ((0 : Int32)).toInt = 0 := (by decide); omega), (by have : ((0 : Int32)).toInt = 0 := (by decide); omega)⟩
set_option maxHeartbeats 4000000 in
set_option maxRecDepth 100000 in
theorem k_load2 {sk : xK} {base d n sl : Nat} {SH : Nat → Nat × Nat} {FI : Nat → Nat → Int32} {FL : Nat → Nat → Int64} {FR : Nat → Nat → Option Nat} (hS : h_S n SH) (hF : h_FR FR) (hI : g_I FI) (hR : g_R n SH FR) (a1 : Int32) (a2 : Int64) : hw sk base d none 124 0 [(0, .ref (base + 0)), (1, .int (a1)), (2, .long (a2))] [] (n, sl, SH, FI, FL, FR) (h_I (fun r s => ∃ FL', s = (n, sl, SH, FI, FL', FR) ∧ g_fr n (shd SH) [] [24] [] FL FL' ∧ (r.toInt = 1 → (0 ≤ (a1).toInt ∧ (a1).toInt ≤ 31)) ∧ (r.toInt = 0 → ((a1).toInt < 0 ∨ 31 < (a1).toInt)) ∧ (0 ≤ r.toInt ∧ r.toInt ≤ 1))) := by
  have rg_a1 := i_rng a1
  have rg_a2 := l_rng a2
  refine xw_iloadn (aX11_load 0 rfl) rfl ?_
  refine hw_iflt (tgt := 16) (aX11_load 1 rfl) (by decide) rfl (fun cd1 => ?_) (fun cd1 => ?_)
  · refine hw_ic (v := (0 : Int32)) (aX11_load 8 rfl) (by decide) ?_
    refine xw_iret (aX11_load 9 rfl) rfl (by decide) ?_
    have e2 : ((0 : Int32)).toInt = 0 := (by decide : (0 : Int32).toInt = 0)
    exact ⟨(0 : Int32), rfl, FL, rfl, gf_rf, (by have : ((0 : Int32)).toInt = 0 := (by decide); omega), (by have : ((0 : Int32)).toInt = 0 := (by decide); omega), (by have : ((0 : Int32)).toInt = 0 := (by decide); omega)⟩
  · refine xw_iloadn (aX11_load 2 rfl) rfl ?_
    refine hw_aloadn (aX11_load 3 rfl) rfl ?_
    refine hw_get (v := .ref (base + 23)) (aX11_load 4 rfl) wf_RX11_35 (c0 hS) (s0 hS) (by decide) (congrArg (fun r => va_rf (h_rf base r)) (r0_0 hF)) ?_
    refine hw_get (v := .ref (base + 24)) (aX11_load 5 rfl) wf_RX11_94 (c23 hS) (s23 hS) (by decide) (congrArg (fun r => va_rf (h_rf base r)) (r23_0 hF)) ?_
    refine hw_alen (k := 1) (z := 32) (v := (32 : Int32)) (aX11_load 6 rfl) (c24 hS) (s24 hS) (by decide) (by decide) ?_
    refine hw_iclt (tgt := 18) (aX11_load 7 rfl) (by decide) rfl (by decide : (32 : Int32).toInt = 32) (fun cd3 => ?_) (fun cd3 => ?_)
    · refine hw_aloadn (aX11_load 10 rfl) rfl ?_
      refine hw_get (v := .ref (base + 23)) (aX11_load 11 rfl) wf_RX11_35 (c0 hS) (s0 hS) (by decide) (congrArg (fun r => va_rf (h_rf base r)) (r0_0 hF)) ?_
      refine hw_get (v := .ref (base + 24)) (aX11_load 12 rfl) wf_RX11_94 (c23 hS) (s23 hS) (by decide) (congrArg (fun r => va_rf (h_rf base r)) (r23_0 hF)) ?_
      refine xw_iloadn (aX11_load 13 rfl) rfl ?_
      refine xw_lloadn (aX11_load 14 rfl) rfl ?_
      refine hv_last (k := (a1).toNatClampNeg) (aX11_load 15 rfl) (c24 hS) (s24 hS) (h_in rfl (by omega) (by omega)) rfl (fun FL4 u5 => ?_)
      refine hw_ic (v := (1 : Int32)) (aX11_load 16 rfl) (by decide) ?_
      refine xw_iret (aX11_load 17 rfl) rfl (by decide) ?_
      have e6 : ((1 : Int32)).toInt = 1 := (by decide : (1 : Int32).toInt = 1)
      exact ⟨(1 : Int32), rfl, FL4, rfl, (gf_a gf_rf u5 (by decide)), (by have : ((1 : Int32)).toInt = 1 := (by decide); omega), (by have : ((1 : Int32)).toInt = 1 := (by decide); omega), (by have : ((1 : Int32)).toInt = 1 := (by decide); omega)⟩
    · refine hw_ic (v := (0 : Int32)) (aX11_load 8 rfl) (by decide) ?_
      refine xw_iret (aX11_load 9 rfl) rfl (by decide) ?_
      have e7 : ((0 : Int32)).toInt = 0 := (by decide : (0 : Int32).toInt = 0)
      exact ⟨(0 : Int32), rfl, FL, rfl, gf_rf, (by have : ((0 : Int32)).toInt = 0 := (by decide); omega), (by have : ((0 : Int32)).toInt = 0 := (by decide); omega), (by have : ((0 : Int32)).toInt = 0 := (by decide); omega)⟩
set_option maxHeartbeats 4000000 in
set_option maxRecDepth 100000 in
theorem k_modelLoad {sk : xK} {base d n sl : Nat} {SH : Nat → Nat × Nat} {FI : Nat → Nat → Int32} {FL : Nat → Nat → Int64} {FR : Nat → Nat → Option Nat} (hS : h_S n SH) (hF : h_FR FR) (hI : g_I FI) (hR : g_R n SH FR) (a1 : Int32) (a2 : Int64) : hw sk base d none 159 0 [(0, .ref (base + 121)), (1, .int (a1)), (2, .long (a2))] [] (n, sl, SH, FI, FL, FR) (h_I (fun r s => ∃ FI' FL', s = (n, sl, SH, FI', FL', FR) ∧ g_I FI' ∧ g_fr n (shd SH) [(121, 0)] [] [] FI FI' ∧ g_fr n (shd SH) [] [122] [] FL FL' ∧ (r.toInt = 1 → (0 ≤ (a1).toInt ∧ (a1).toInt ≤ 31)) ∧ (r.toInt = 0 → ((a1).toInt < 0 ∨ 31 < (a1).toInt)) ∧ (0 ≤ r.toInt ∧ r.toInt ≤ 1))) := by
  have rg_a1 := i_rng a1
  have rg_a2 := l_rng a2
  refine hw_aloadn (aX12_load 0 rfl) rfl ?_
  refine hw_ic (v := (0 : Int32)) (aX12_load 1 rfl) (by decide) ?_
  refine hv_puti (aX12_load 2 rfl) wf_RX12_187 (c121 hS) (s121 hS) (by decide) rfl rfl (fun FI1 u2 => ?_)
  have hI3 : g_I FI1 := gU_F hI u2 rfl
  refine xw_iloadn (aX12_load 3 rfl) rfl ?_
  refine hw_iflt (tgt := 15) (aX12_load 4 rfl) (by decide) rfl (fun cd4 => ?_) (fun cd4 => ?_)
  · refine hw_ic (v := (0 : Int32)) (aX12_load 8 rfl) (by decide) ?_
    refine xw_iret (aX12_load 9 rfl) rfl (by decide) ?_
    have e5 : ((0 : Int32)).toInt = 0 := (by decide : (0 : Int32).toInt = 0)
    exact ⟨(0 : Int32), rfl, FI1, FL, rfl, hI3, (gf_f gf_rf u2 (by decide)), gf_rf, (by have : ((0 : Int32)).toInt = 0 := (by decide); omega), (by have : ((0 : Int32)).toInt = 0 := (by decide); omega), (by have : ((0 : Int32)).toInt = 0 := (by decide); omega)⟩
  · refine xw_iloadn (aX12_load 5 rfl) rfl ?_
    refine hw_bp (v := (31 : Int32)) (aX12_load 6 rfl) (by decide) ?_
    refine hw_icle (tgt := 17) (aX12_load 7 rfl) (by decide) rfl (by decide : (31 : Int32).toInt = 31) (fun cd6 => ?_) (fun cd6 => ?_)
    · refine hw_aloadn (aX12_load 10 rfl) rfl ?_
      refine hw_get (v := .ref (base + 122)) (aX12_load 11 rfl) wf_RX12_7 (c121 hS) (s121 hS) (by decide) (congrArg (fun r => va_rf (h_rf base r)) (r121_1 hF)) ?_
      refine xw_iloadn (aX12_load 12 rfl) rfl ?_
      refine xw_lloadn (aX12_load 13 rfl) rfl ?_
      refine hv_last (k := (a1).toNatClampNeg) (aX12_load 14 rfl) (c122 hS) (s122 hS) (h_in rfl (by omega) (by omega)) rfl (fun FL7 u8 => ?_)
      refine hw_ic (v := (1 : Int32)) (aX12_load 15 rfl) (by decide) ?_
      refine xw_iret (aX12_load 16 rfl) rfl (by decide) ?_
      have e9 : ((1 : Int32)).toInt = 1 := (by decide : (1 : Int32).toInt = 1)
      exact ⟨(1 : Int32), rfl, FI1, FL7, rfl, hI3, (gf_f gf_rf u2 (by decide)), (gf_a gf_rf u8 (by decide)), (by have : ((1 : Int32)).toInt = 1 := (by decide); omega), (by have : ((1 : Int32)).toInt = 1 := (by decide); omega), (by have : ((1 : Int32)).toInt = 1 := (by decide); omega)⟩
    · refine hw_ic (v := (0 : Int32)) (aX12_load 8 rfl) (by decide) ?_
      refine xw_iret (aX12_load 9 rfl) rfl (by decide) ?_
      have e10 : ((0 : Int32)).toInt = 0 := (by decide : (0 : Int32).toInt = 0)
      exact ⟨(0 : Int32), rfl, FI1, FL, rfl, hI3, (gf_f gf_rf u2 (by decide)), gf_rf, (by have : ((0 : Int32)).toInt = 0 := (by decide); omega), (by have : ((0 : Int32)).toInt = 0 := (by decide); omega), (by have : ((0 : Int32)).toInt = 0 := (by decide); omega)⟩
set_option maxHeartbeats 4000000 in
set_option maxRecDepth 100000 in
theorem k_poke2 {sk : xK} {base d n sl : Nat} {SH : Nat → Nat × Nat} {FI : Nat → Nat → Int32} {FL : Nat → Nat → Int64} {FR : Nat → Nat → Option Nat} (hS : h_S n SH) (hF : h_FR FR) (hI : g_I FI) (hR : g_R n SH FR) (a1 : Int32) (a2 : Int32) : hw sk base d none 126 0 [(0, .ref (base + 0)), (1, .int (a1)), (2, .int (a2))] [] (n, sl, SH, FI, FL, FR) (h_I (fun r s => ∃ FI', s = (n, sl, SH, FI', FL, FR) ∧ g_I FI' ∧ g_fr n (shd SH) [] [25] [] FI FI' ∧ (r.toInt = 1 → (0 ≤ (a1).toInt ∧ (a1).toInt ≤ 4095)) ∧ (r.toInt = 0 → ((a1).toInt < 0 ∨ 4095 < (a1).toInt)) ∧ (0 ≤ r.toInt ∧ r.toInt ≤ 1))) := by
  have rg_a1 := i_rng a1
  have rg_a2 := i_rng a2
  refine xw_iloadn (aX11_poke 0 rfl) rfl ?_
  refine hw_iflt (tgt := 16) (aX11_poke 1 rfl) (by decide) rfl (fun cd1 => ?_) (fun cd1 => ?_)
  · refine hw_ic (v := (0 : Int32)) (aX11_poke 8 rfl) (by decide) ?_
    refine xw_iret (aX11_poke 9 rfl) rfl (by decide) ?_
    have e2 : ((0 : Int32)).toInt = 0 := (by decide : (0 : Int32).toInt = 0)
    exact ⟨(0 : Int32), rfl, FI, rfl, hI, gf_rf, (by have : ((0 : Int32)).toInt = 0 := (by decide); omega), (by have : ((0 : Int32)).toInt = 0 := (by decide); omega), (by have : ((0 : Int32)).toInt = 0 := (by decide); omega)⟩
  · refine xw_iloadn (aX11_poke 2 rfl) rfl ?_
    refine hw_aloadn (aX11_poke 3 rfl) rfl ?_
    refine hw_get (v := .ref (base + 23)) (aX11_poke 4 rfl) wf_RX11_35 (c0 hS) (s0 hS) (by decide) (congrArg (fun r => va_rf (h_rf base r)) (r0_0 hF)) ?_
    refine hw_get (v := .ref (base + 25)) (aX11_poke 5 rfl) wf_RX11_102 (c23 hS) (s23 hS) (by decide) (congrArg (fun r => va_rf (h_rf base r)) (r23_1 hF)) ?_
    refine hw_alen (k := 0) (z := 4096) (v := (4096 : Int32)) (aX11_poke 6 rfl) (c25 hS) (s25 hS) (by decide) (by decide) ?_
    refine hw_iclt (tgt := 18) (aX11_poke 7 rfl) (by decide) rfl (by decide : (4096 : Int32).toInt = 4096) (fun cd3 => ?_) (fun cd3 => ?_)
    · refine hw_aloadn (aX11_poke 10 rfl) rfl ?_
      refine hw_get (v := .ref (base + 23)) (aX11_poke 11 rfl) wf_RX11_35 (c0 hS) (s0 hS) (by decide) (congrArg (fun r => va_rf (h_rf base r)) (r0_0 hF)) ?_
      refine hw_get (v := .ref (base + 25)) (aX11_poke 12 rfl) wf_RX11_102 (c23 hS) (s23 hS) (by decide) (congrArg (fun r => va_rf (h_rf base r)) (r23_1 hF)) ?_
      refine xw_iloadn (aX11_poke 13 rfl) rfl ?_
      refine xw_iloadn (aX11_poke 14 rfl) rfl ?_
      refine hw_sp (v := (255 : Int32)) (aX11_poke 15 rfl) (by decide) ?_
      refine xw_iand (aX11_poke 16 rfl) ?_
      refine hw_tib (lo := 0) (hi := 255) (i_and (x := a2) (m := (255 : Int32)) (M := 255) (by decide) (by decide)) (fun x4 b5 => ?_)
      refine hv_iast (k := (a1).toNatClampNeg) (aX11_poke 17 rfl) (c25 hS) (s25 hS) (h_in rfl (by omega) (by omega)) rfl (fun FI6 u7 => ?_)
      have hI8 : g_I FI6 := gU_F hI u7 rfl
      refine hw_ic (v := (1 : Int32)) (aX11_poke 18 rfl) (by decide) ?_
      refine xw_iret (aX11_poke 19 rfl) rfl (by decide) ?_
      have e9 : ((1 : Int32)).toInt = 1 := (by decide : (1 : Int32).toInt = 1)
      exact ⟨(1 : Int32), rfl, FI6, rfl, hI8, (gf_a gf_rf u7 (by decide)), (by have : ((1 : Int32)).toInt = 1 := (by decide); omega), (by have : ((1 : Int32)).toInt = 1 := (by decide); omega), (by have : ((1 : Int32)).toInt = 1 := (by decide); omega)⟩
    · refine hw_ic (v := (0 : Int32)) (aX11_poke 8 rfl) (by decide) ?_
      refine xw_iret (aX11_poke 9 rfl) rfl (by decide) ?_
      have e10 : ((0 : Int32)).toInt = 0 := (by decide : (0 : Int32).toInt = 0)
      exact ⟨(0 : Int32), rfl, FI, rfl, hI, gf_rf, (by have : ((0 : Int32)).toInt = 0 := (by decide); omega), (by have : ((0 : Int32)).toInt = 0 := (by decide); omega), (by have : ((0 : Int32)).toInt = 0 := (by decide); omega)⟩
set_option maxHeartbeats 4000000 in
set_option maxRecDepth 100000 in
theorem k_modelPoke {sk : xK} {base d n sl : Nat} {SH : Nat → Nat × Nat} {FI : Nat → Nat → Int32} {FL : Nat → Nat → Int64} {FR : Nat → Nat → Option Nat} (hS : h_S n SH) (hF : h_FR FR) (hI : g_I FI) (hR : g_R n SH FR) (a1 : Int32) (a2 : Int32) : hw sk base d none 161 0 [(0, .ref (base + 121)), (1, .int (a1)), (2, .int (a2))] [] (n, sl, SH, FI, FL, FR) (h_I (fun r s => ∃ FI', s = (n, sl, SH, FI', FL, FR) ∧ g_I FI' ∧ g_fr n (shd SH) [(121, 0)] [123] [] FI FI' ∧ (r.toInt = 1 → (0 ≤ (a1).toInt ∧ (a1).toInt ≤ 4095)) ∧ (r.toInt = 0 → ((a1).toInt < 0 ∨ 4095 < (a1).toInt)) ∧ (0 ≤ r.toInt ∧ r.toInt ≤ 1))) := by
  have rg_a1 := i_rng a1
  have rg_a2 := i_rng a2
  refine hw_aloadn (aX12_poke 0 rfl) rfl ?_
  refine hw_ic (v := (0 : Int32)) (aX12_poke 1 rfl) (by decide) ?_
  refine hv_puti (aX12_poke 2 rfl) wf_RX12_187 (c121 hS) (s121 hS) (by decide) rfl rfl (fun FI1 u2 => ?_)
  have hI3 : g_I FI1 := gU_F hI u2 rfl
  refine xw_iloadn (aX12_poke 3 rfl) rfl ?_
  refine hw_iflt (tgt := 16) (aX12_poke 4 rfl) (by decide) rfl (fun cd4 => ?_) (fun cd4 => ?_)
  · refine hw_ic (v := (0 : Int32)) (aX12_poke 8 rfl) (by decide) ?_
    refine xw_iret (aX12_poke 9 rfl) rfl (by decide) ?_
    have e5 : ((0 : Int32)).toInt = 0 := (by decide : (0 : Int32).toInt = 0)
    exact ⟨(0 : Int32), rfl, FI1, rfl, hI3, (gf_f gf_rf u2 (by decide)), (by have : ((0 : Int32)).toInt = 0 := (by decide); omega), (by have : ((0 : Int32)).toInt = 0 := (by decide); omega), (by have : ((0 : Int32)).toInt = 0 := (by decide); omega)⟩
  · refine xw_iloadn (aX12_poke 5 rfl) rfl ?_
    refine hw_sp (v := (4095 : Int32)) (aX12_poke 6 rfl) (by decide) ?_
    refine hw_icle (tgt := 18) (aX12_poke 7 rfl) (by decide) rfl (by decide : (4095 : Int32).toInt = 4095) (fun cd6 => ?_) (fun cd6 => ?_)
    · refine hw_aloadn (aX12_poke 10 rfl) rfl ?_
      refine hw_get (v := .ref (base + 123)) (aX12_poke 11 rfl) wf_RX12_13 (c121 hS) (s121 hS) (by decide) (congrArg (fun r => va_rf (h_rf base r)) (r121_2 hF)) ?_
      refine xw_iloadn (aX12_poke 12 rfl) rfl ?_
      refine xw_iloadn (aX12_poke 13 rfl) rfl ?_
      refine hw_sp (v := (255 : Int32)) (aX12_poke 14 rfl) (by decide) ?_
      refine xw_iand (aX12_poke 15 rfl) ?_
      refine hw_tib (lo := 0) (hi := 255) (i_and (x := a2) (m := (255 : Int32)) (M := 255) (by decide) (by decide)) (fun x7 b8 => ?_)
      refine hv_iast (k := (a1).toNatClampNeg) (aX12_poke 16 rfl) (c123 hS) (s123 hS) (h_in rfl (by omega) (by omega)) rfl (fun FI9 u10 => ?_)
      have hI11 : g_I FI9 := gU_F hI3 u10 rfl
      refine hw_ic (v := (1 : Int32)) (aX12_poke 17 rfl) (by decide) ?_
      refine xw_iret (aX12_poke 18 rfl) rfl (by decide) ?_
      have e12 : ((1 : Int32)).toInt = 1 := (by decide : (1 : Int32).toInt = 1)
      exact ⟨(1 : Int32), rfl, FI9, rfl, hI11, (gf_a (gf_f gf_rf u2 (by decide)) u10 (by decide)), (by have : ((1 : Int32)).toInt = 1 := (by decide); omega), (by have : ((1 : Int32)).toInt = 1 := (by decide); omega), (by have : ((1 : Int32)).toInt = 1 := (by decide); omega)⟩
    · refine hw_ic (v := (0 : Int32)) (aX12_poke 8 rfl) (by decide) ?_
      refine xw_iret (aX12_poke 9 rfl) rfl (by decide) ?_
      have e13 : ((0 : Int32)).toInt = 0 := (by decide : (0 : Int32).toInt = 0)
      exact ⟨(0 : Int32), rfl, FI1, rfl, hI3, (gf_f gf_rf u2 (by decide)), (by have : ((0 : Int32)).toInt = 0 := (by decide); omega), (by have : ((0 : Int32)).toInt = 0 := (by decide); omega), (by have : ((0 : Int32)).toInt = 0 := (by decide); omega)⟩
set_option maxHeartbeats 4000000 in
set_option maxRecDepth 100000 in
theorem k_cfa2 {sk : xK} {base d n sl : Nat} {SH : Nat → Nat × Nat} {FI : Nat → Nat → Int32} {FL : Nat → Nat → Int64} {FR : Nat → Nat → Option Nat} (hS : h_S n SH) (hF : h_FR FR) (hI : g_I FI) (hR : g_R n SH FR) (a1 : Int32) (a2 : Int64) : hw sk base d none 129 0 [(0, .ref (base + 0)), (1, .int (a1)), (2, .long (a2))] [] (n, sl, SH, FI, FL, FR) (h_I (fun r s => ∃ FI' FL', s = (n, sl, SH, FI', FL', FR) ∧ g_I FI' ∧ g_fr n (shd SH) [(23, 5)] [] [] FI FI' ∧ g_fr n (shd SH) [(23, 6)] [] [] FL FL' ∧ (r.toInt = 1 → (-1 ≤ (a1).toInt ∧ (a1).toInt ≤ 31)) ∧ (r.toInt = 0 → ((a1).toInt < -1 ∨ 31 < (a1).toInt)) ∧ (0 ≤ r.toInt ∧ r.toInt ≤ 1))) := by
  have rg_a1 := i_rng a1
  have rg_a2 := l_rng a2
  refine xw_iloadn (aX11_cfa 0 rfl) rfl ?_
  refine hw_ic (v := ((-1) : Int32)) (aX11_cfa 1 rfl) (by decide) ?_
  refine hw_iclt (tgt := 17) (aX11_cfa 2 rfl) (by decide) rfl (by decide : ((-1) : Int32).toInt = (-1)) (fun cd1 => ?_) (fun cd1 => ?_)
  · refine hw_ic (v := (0 : Int32)) (aX11_cfa 9 rfl) (by decide) ?_
    refine xw_iret (aX11_cfa 10 rfl) rfl (by decide) ?_
    have e2 : ((0 : Int32)).toInt = 0 := (by decide : (0 : Int32).toInt = 0)
    exact ⟨(0 : Int32), rfl, FI, FL, rfl, hI, gf_rf, gf_rf, (by have : ((0 : Int32)).toInt = 0 := (by decide); omega), (by have : ((0 : Int32)).toInt = 0 := (by decide); omega), (by have : ((0 : Int32)).toInt = 0 := (by decide); omega)⟩
  · refine xw_iloadn (aX11_cfa 3 rfl) rfl ?_
    refine hw_aloadn (aX11_cfa 4 rfl) rfl ?_
    refine hw_get (v := .ref (base + 23)) (aX11_cfa 5 rfl) wf_RX11_35 (c0 hS) (s0 hS) (by decide) (congrArg (fun r => va_rf (h_rf base r)) (r0_0 hF)) ?_
    refine hw_get (v := .ref (base + 24)) (aX11_cfa 6 rfl) wf_RX11_94 (c23 hS) (s23 hS) (by decide) (congrArg (fun r => va_rf (h_rf base r)) (r23_0 hF)) ?_
    refine hw_alen (k := 1) (z := 32) (v := (32 : Int32)) (aX11_cfa 7 rfl) (c24 hS) (s24 hS) (by decide) (by decide) ?_
    refine hw_iclt (tgt := 19) (aX11_cfa 8 rfl) (by decide) rfl (by decide : (32 : Int32).toInt = 32) (fun cd3 => ?_) (fun cd3 => ?_)
    · refine hw_aloadn (aX11_cfa 11 rfl) rfl ?_
      refine hw_get (v := .ref (base + 23)) (aX11_cfa 12 rfl) wf_RX11_35 (c0 hS) (s0 hS) (by decide) (congrArg (fun r => va_rf (h_rf base r)) (r0_0 hF)) ?_
      refine xw_iloadn (aX11_cfa 13 rfl) rfl ?_
      refine hv_puti (aX11_cfa 14 rfl) wf_RX11_108 (c23 hS) (s23 hS) (by decide) rfl rfl (fun FI4 u5 => ?_)
      have hI6 : g_I FI4 := gU_23_5 hI u5 (by omega) (by omega)
      refine hw_aloadn (aX11_cfa 15 rfl) rfl ?_
      refine hw_get (v := .ref (base + 23)) (aX11_cfa 16 rfl) wf_RX11_35 (c0 hS) (s0 hS) (by decide) (congrArg (fun r => va_rf (h_rf base r)) (r0_0 hF)) ?_
      refine xw_lloadn (aX11_cfa 17 rfl) rfl ?_
      refine hv_putl (aX11_cfa 18 rfl) wf_RX11_111 (c23 hS) (s23 hS) (by decide) rfl rfl (fun FL7 u8 => ?_)
      refine hw_ic (v := (1 : Int32)) (aX11_cfa 19 rfl) (by decide) ?_
      refine xw_iret (aX11_cfa 20 rfl) rfl (by decide) ?_
      have e9 : ((1 : Int32)).toInt = 1 := (by decide : (1 : Int32).toInt = 1)
      exact ⟨(1 : Int32), rfl, FI4, FL7, rfl, hI6, (gf_f gf_rf u5 (by decide)), (gf_f gf_rf u8 (by decide)), (by have : ((1 : Int32)).toInt = 1 := (by decide); omega), (by have : ((1 : Int32)).toInt = 1 := (by decide); omega), (by have : ((1 : Int32)).toInt = 1 := (by decide); omega)⟩
    · refine hw_ic (v := (0 : Int32)) (aX11_cfa 9 rfl) (by decide) ?_
      refine xw_iret (aX11_cfa 10 rfl) rfl (by decide) ?_
      have e10 : ((0 : Int32)).toInt = 0 := (by decide : (0 : Int32).toInt = 0)
      exact ⟨(0 : Int32), rfl, FI, FL, rfl, hI, gf_rf, gf_rf, (by have : ((0 : Int32)).toInt = 0 := (by decide); omega), (by have : ((0 : Int32)).toInt = 0 := (by decide); omega), (by have : ((0 : Int32)).toInt = 0 := (by decide); omega)⟩
set_option maxHeartbeats 4000000 in
set_option maxRecDepth 100000 in
theorem k_modelCfa {sk : xK} {base d n sl : Nat} {SH : Nat → Nat × Nat} {FI : Nat → Nat → Int32} {FL : Nat → Nat → Int64} {FR : Nat → Nat → Option Nat} (hS : h_S n SH) (hF : h_FR FR) (hI : g_I FI) (hR : g_R n SH FR) (a1 : Int32) (a2 : Int64) : hw sk base d none 164 0 [(0, .ref (base + 121)), (1, .int (a1)), (2, .long (a2))] [] (n, sl, SH, FI, FL, FR) (h_I (fun r s => ∃ FI' FL', s = (n, sl, SH, FI', FL', FR) ∧ g_I FI' ∧ g_fr n (shd SH) [(121, 0), (121, 6)] [] [] FI FI' ∧ g_fr n (shd SH) [(121, 7)] [] [] FL FL' ∧ (r.toInt = 1 → (-1 ≤ (a1).toInt ∧ (a1).toInt ≤ 31)) ∧ (r.toInt = 0 → ((a1).toInt < -1 ∨ 31 < (a1).toInt)) ∧ (0 ≤ r.toInt ∧ r.toInt ≤ 1))) := by
  have rg_a1 := i_rng a1
  have rg_a2 := l_rng a2
  refine hw_aloadn (aX12_cfa 0 rfl) rfl ?_
  refine hw_ic (v := (0 : Int32)) (aX12_cfa 1 rfl) (by decide) ?_
  refine hv_puti (aX12_cfa 2 rfl) wf_RX12_187 (c121 hS) (s121 hS) (by decide) rfl rfl (fun FI1 u2 => ?_)
  have hI3 : g_I FI1 := gU_F hI u2 rfl
  refine xw_iloadn (aX12_cfa 3 rfl) rfl ?_
  refine hw_ic (v := ((-1) : Int32)) (aX12_cfa 4 rfl) (by decide) ?_
  refine hw_iclt (tgt := 16) (aX12_cfa 5 rfl) (by decide) rfl (by decide : ((-1) : Int32).toInt = (-1)) (fun cd4 => ?_) (fun cd4 => ?_)
  · refine hw_ic (v := (0 : Int32)) (aX12_cfa 9 rfl) (by decide) ?_
    refine xw_iret (aX12_cfa 10 rfl) rfl (by decide) ?_
    have e5 : ((0 : Int32)).toInt = 0 := (by decide : (0 : Int32).toInt = 0)
    exact ⟨(0 : Int32), rfl, FI1, FL, rfl, hI3, (gf_f gf_rf u2 (by decide)), gf_rf, (by have : ((0 : Int32)).toInt = 0 := (by decide); omega), (by have : ((0 : Int32)).toInt = 0 := (by decide); omega), (by have : ((0 : Int32)).toInt = 0 := (by decide); omega)⟩
  · refine xw_iloadn (aX12_cfa 6 rfl) rfl ?_
    refine hw_bp (v := (31 : Int32)) (aX12_cfa 7 rfl) (by decide) ?_
    refine hw_icle (tgt := 18) (aX12_cfa 8 rfl) (by decide) rfl (by decide : (31 : Int32).toInt = 31) (fun cd6 => ?_) (fun cd6 => ?_)
    · refine hw_aloadn (aX12_cfa 11 rfl) rfl ?_
      refine xw_iloadn (aX12_cfa 12 rfl) rfl ?_
      refine hv_puti (aX12_cfa 13 rfl) wf_RX12_27 (c121 hS) (s121 hS) (by decide) rfl rfl (fun FI7 u8 => ?_)
      have hI9 : g_I FI7 := gU_121_6 hI3 u8 (by omega) (by omega)
      refine hw_aloadn (aX12_cfa 14 rfl) rfl ?_
      refine xw_lloadn (aX12_cfa 15 rfl) rfl ?_
      refine hv_putl (aX12_cfa 16 rfl) wf_RX12_201 (c121 hS) (s121 hS) (by decide) rfl rfl (fun FL10 u11 => ?_)
      refine hw_ic (v := (1 : Int32)) (aX12_cfa 17 rfl) (by decide) ?_
      refine xw_iret (aX12_cfa 18 rfl) rfl (by decide) ?_
      have e12 : ((1 : Int32)).toInt = 1 := (by decide : (1 : Int32).toInt = 1)
      exact ⟨(1 : Int32), rfl, FI7, FL10, rfl, hI9, (gf_f (gf_f gf_rf u2 (by decide)) u8 (by decide)), (gf_f gf_rf u11 (by decide)), (by have : ((1 : Int32)).toInt = 1 := (by decide); omega), (by have : ((1 : Int32)).toInt = 1 := (by decide); omega), (by have : ((1 : Int32)).toInt = 1 := (by decide); omega)⟩
    · refine hw_ic (v := (0 : Int32)) (aX12_cfa 9 rfl) (by decide) ?_
      refine xw_iret (aX12_cfa 10 rfl) rfl (by decide) ?_
      have e13 : ((0 : Int32)).toInt = 0 := (by decide : (0 : Int32).toInt = 0)
      exact ⟨(0 : Int32), rfl, FI1, FL, rfl, hI3, (gf_f gf_rf u2 (by decide)), gf_rf, (by have : ((0 : Int32)).toInt = 0 := (by decide); omega), (by have : ((0 : Int32)).toInt = 0 := (by decide); omega), (by have : ((0 : Int32)).toInt = 0 := (by decide); omega)⟩
set_option maxHeartbeats 4000000 in
set_option maxRecDepth 100000 in
theorem k_set2 {sk : xK} {base d n sl : Nat} {SH : Nat → Nat × Nat} {FI : Nat → Nat → Int32} {FL : Nat → Nat → Int64} {FR : Nat → Nat → Option Nat} (hS : h_S n SH) (hF : h_FR FR) (hI : g_I FI) (hR : g_R n SH FR) (a1 : Int32) (a2 : Int64) (a3 : Int32) (g0 : 0 ≤ (a3).toInt ∧ (a3).toInt ≤ 1) : hw sk base d none 130 0 [(0, .ref (base + 0)), (1, .int (a1)), (2, .long (a2)), (4, .int (a3))] [] (n, sl, SH, FI, FL, FR) (h_I (fun r s => ∃ FI' FL', s = (n, sl, SH, FI', FL', FR) ∧ g_I FI' ∧ g_fr n (shd SH) [(23, 7), (23, 9)] [] [] FI FI' ∧ g_fr n (shd SH) [(23, 8), (23, 10)] [] [] FL FL' ∧ (r.toInt = 1 → (0 ≤ (a1).toInt ∧ (a1).toInt ≤ 1)) ∧ (r.toInt = 0 → ((a1).toInt < 0 ∨ 1 < (a1).toInt)) ∧ (0 ≤ r.toInt ∧ r.toInt ≤ 1))) := by
  have rg_a1 := i_rng a1
  have rg_a2 := l_rng a2
  have rg_a3 := i_rng a3
  refine xw_iloadn (aX11_set 0 rfl) rfl ?_
  refine hw_ifne (tgt := 23) (aX11_set 1 rfl) (by decide) rfl (fun cd1 => ?_) (fun cd1 => ?_)
  · refine xw_iloadn (aX11_set 12 rfl) rfl ?_
    refine hw_ic (v := (1 : Int32)) (aX11_set 13 rfl) (by decide) ?_
    refine hw_icne (tgt := 47) (aX11_set 14 rfl) (by decide) rfl (by decide : (1 : Int32).toInt = 1) (fun cd2 => ?_) (fun cd2 => ?_)
    · refine hw_ic (v := (0 : Int32)) (aX11_set 25 rfl) (by decide) ?_
      refine xw_iret (aX11_set 26 rfl) rfl (by decide) ?_
      have e3 : ((0 : Int32)).toInt = 0 := (by decide : (0 : Int32).toInt = 0)
      exact ⟨(0 : Int32), rfl, FI, FL, rfl, hI, gf_rf, gf_rf, (by have : ((0 : Int32)).toInt = 0 := (by decide); omega), (by have : ((0 : Int32)).toInt = 0 := (by decide); omega), (by have : ((0 : Int32)).toInt = 0 := (by decide); omega)⟩
    · refine hw_aloadn (aX11_set 15 rfl) rfl ?_
      refine hw_get (v := .ref (base + 23)) (aX11_set 16 rfl) wf_RX11_35 (c0 hS) (s0 hS) (by decide) (congrArg (fun r => va_rf (h_rf base r)) (r0_0 hF)) ?_
      refine xw_lloadn (aX11_set 17 rfl) rfl ?_
      refine hv_putl (aX11_set 18 rfl) wf_RX11_122 (c23 hS) (s23 hS) (by decide) rfl rfl (fun FL4 u5 => ?_)
      refine hw_aloadn (aX11_set 19 rfl) rfl ?_
      refine hw_get (v := .ref (base + 23)) (aX11_set 20 rfl) wf_RX11_35 (c0 hS) (s0 hS) (by decide) (congrArg (fun r => va_rf (h_rf base r)) (r0_0 hF)) ?_
      refine xw_iload (aX11_set 21 rfl) rfl ?_
      refine hv_putz (aX11_set 22 rfl) wf_RX11_125 (c23 hS) (s23 hS) (by decide) rfl rfl (i_01 rfl (by omega) (by omega)) (fun FI6 u7 => ?_)
      have hI8 : g_I FI6 := gU_23_9 hI u7 (by omega) (by omega)
      refine hw_ic (v := (1 : Int32)) (aX11_set 23 rfl) (by decide) ?_
      refine xw_iret (aX11_set 24 rfl) rfl (by decide) ?_
      have e9 : ((1 : Int32)).toInt = 1 := (by decide : (1 : Int32).toInt = 1)
      exact ⟨(1 : Int32), rfl, FI6, FL4, rfl, hI8, (gf_f gf_rf u7 (by decide)), (gf_f gf_rf u5 (by decide)), (by have : ((1 : Int32)).toInt = 1 := (by decide); omega), (by have : ((1 : Int32)).toInt = 1 := (by decide); omega), (by have : ((1 : Int32)).toInt = 1 := (by decide); omega)⟩
  · refine hw_aloadn (aX11_set 2 rfl) rfl ?_
    refine hw_get (v := .ref (base + 23)) (aX11_set 3 rfl) wf_RX11_35 (c0 hS) (s0 hS) (by decide) (congrArg (fun r => va_rf (h_rf base r)) (r0_0 hF)) ?_
    refine xw_lloadn (aX11_set 4 rfl) rfl ?_
    refine hv_putl (aX11_set 5 rfl) wf_RX11_115 (c23 hS) (s23 hS) (by decide) rfl rfl (fun FL10 u11 => ?_)
    refine hw_aloadn (aX11_set 6 rfl) rfl ?_
    refine hw_get (v := .ref (base + 23)) (aX11_set 7 rfl) wf_RX11_35 (c0 hS) (s0 hS) (by decide) (congrArg (fun r => va_rf (h_rf base r)) (r0_0 hF)) ?_
    refine xw_iload (aX11_set 8 rfl) rfl ?_
    refine hv_putz (aX11_set 9 rfl) wf_RX11_118 (c23 hS) (s23 hS) (by decide) rfl rfl (i_01 rfl (by omega) (by omega)) (fun FI12 u13 => ?_)
    have hI14 : g_I FI12 := gU_23_7 hI u13 (by omega) (by omega)
    refine hw_ic (v := (1 : Int32)) (aX11_set 10 rfl) (by decide) ?_
    refine xw_iret (aX11_set 11 rfl) rfl (by decide) ?_
    have e15 : ((1 : Int32)).toInt = 1 := (by decide : (1 : Int32).toInt = 1)
    exact ⟨(1 : Int32), rfl, FI12, FL10, rfl, hI14, (gf_f gf_rf u13 (by decide)), (gf_f gf_rf u11 (by decide)), (by have : ((1 : Int32)).toInt = 1 := (by decide); omega), (by have : ((1 : Int32)).toInt = 1 := (by decide); omega), (by have : ((1 : Int32)).toInt = 1 := (by decide); omega)⟩
set_option maxHeartbeats 4000000 in
set_option maxRecDepth 100000 in
theorem k_modelSet {sk : xK} {base d n sl : Nat} {SH : Nat → Nat × Nat} {FI : Nat → Nat → Int32} {FL : Nat → Nat → Int64} {FR : Nat → Nat → Option Nat} (hS : h_S n SH) (hF : h_FR FR) (hI : g_I FI) (hR : g_R n SH FR) (a1 : Int32) (a2 : Int64) (a3 : Int32) (g0 : 0 ≤ (a3).toInt ∧ (a3).toInt ≤ 1) : hw sk base d none 165 0 [(0, .ref (base + 121)), (1, .int (a1)), (2, .long (a2)), (4, .int (a3))] [] (n, sl, SH, FI, FL, FR) (h_I (fun r s => ∃ FI' FL', s = (n, sl, SH, FI', FL', FR) ∧ g_I FI' ∧ g_fr n (shd SH) [(121, 0), (121, 10), (121, 11)] [] [] FI FI' ∧ g_fr n (shd SH) [(121, 8), (121, 9)] [] [] FL FL' ∧ (r.toInt = 1 → (0 ≤ (a1).toInt ∧ (a1).toInt ≤ 1)) ∧ (r.toInt = 0 → ((a1).toInt < 0 ∨ 1 < (a1).toInt)) ∧ (0 ≤ r.toInt ∧ r.toInt ≤ 1))) := by
  have rg_a1 := i_rng a1
  have rg_a2 := l_rng a2
  have rg_a3 := i_rng a3
  refine hw_aloadn (aX12_set 0 rfl) rfl ?_
  refine hw_ic (v := (0 : Int32)) (aX12_set 1 rfl) (by decide) ?_
  refine hv_puti (aX12_set 2 rfl) wf_RX12_187 (c121 hS) (s121 hS) (by decide) rfl rfl (fun FI1 u2 => ?_)
  have hI3 : g_I FI1 := gU_F hI u2 rfl
  refine xw_iloadn (aX12_set 3 rfl) rfl ?_
  refine hw_iflt (tgt := 14) (aX12_set 4 rfl) (by decide) rfl (fun cd4 => ?_) (fun cd4 => ?_)
  · refine hw_ic (v := (0 : Int32)) (aX12_set 8 rfl) (by decide) ?_
    refine xw_iret (aX12_set 9 rfl) rfl (by decide) ?_
    have e5 : ((0 : Int32)).toInt = 0 := (by decide : (0 : Int32).toInt = 0)
    exact ⟨(0 : Int32), rfl, FI1, FL, rfl, hI3, (gf_f gf_rf u2 (by decide)), gf_rf, (by have : ((0 : Int32)).toInt = 0 := (by decide); omega), (by have : ((0 : Int32)).toInt = 0 := (by decide); omega), (by have : ((0 : Int32)).toInt = 0 := (by decide); omega)⟩
  · refine xw_iloadn (aX12_set 5 rfl) rfl ?_
    refine hw_ic (v := (1 : Int32)) (aX12_set 6 rfl) (by decide) ?_
    refine hw_icle (tgt := 16) (aX12_set 7 rfl) (by decide) rfl (by decide : (1 : Int32).toInt = 1) (fun cd6 => ?_) (fun cd6 => ?_)
    · refine xw_iloadn (aX12_set 10 rfl) rfl ?_
      refine hw_ifne (tgt := 34) (aX12_set 11 rfl) (by decide) rfl (fun cd7 => ?_) (fun cd7 => ?_)
      · refine hw_aloadn (aX12_set 19 rfl) rfl ?_
        refine xw_lloadn (aX12_set 20 rfl) rfl ?_
        refine hv_putl (aX12_set 21 rfl) wf_RX12_212 (c121 hS) (s121 hS) (by decide) rfl rfl (fun FL8 u9 => ?_)
        refine hw_aloadn (aX12_set 22 rfl) rfl ?_
        refine xw_iload (aX12_set 23 rfl) rfl ?_
        refine hv_putz (aX12_set 24 rfl) wf_RX12_215 (c121 hS) (s121 hS) (by decide) rfl rfl (i_01 rfl (by omega) (by omega)) (fun FI10 u11 => ?_)
        have hI12 : g_I FI10 := gU_121_11 hI3 u11 (by omega) (by omega)
        refine hw_ic (v := (1 : Int32)) (aX12_set 25 rfl) (by decide) ?_
        refine xw_iret (aX12_set 26 rfl) rfl (by decide) ?_
        have e13 : ((1 : Int32)).toInt = 1 := (by decide : (1 : Int32).toInt = 1)
        exact ⟨(1 : Int32), rfl, FI10, FL8, rfl, hI12, (gf_f (gf_f gf_rf u2 (by decide)) u11 (by decide)), (gf_f gf_rf u9 (by decide)), (by have : ((1 : Int32)).toInt = 1 := (by decide); omega), (by have : ((1 : Int32)).toInt = 1 := (by decide); omega), (by have : ((1 : Int32)).toInt = 1 := (by decide); omega)⟩
      · refine hw_aloadn (aX12_set 12 rfl) rfl ?_
        refine xw_lloadn (aX12_set 13 rfl) rfl ?_
        refine hv_putl (aX12_set 14 rfl) wf_RX12_205 (c121 hS) (s121 hS) (by decide) rfl rfl (fun FL14 u15 => ?_)
        refine hw_aloadn (aX12_set 15 rfl) rfl ?_
        refine xw_iload (aX12_set 16 rfl) rfl ?_
        refine hv_putz (aX12_set 17 rfl) wf_RX12_208 (c121 hS) (s121 hS) (by decide) rfl rfl (i_01 rfl (by omega) (by omega)) (fun FI16 u17 => ?_)
        have hI18 : g_I FI16 := gU_121_10 hI3 u17 (by omega) (by omega)
        refine xw_goto (tgt := 45) (aX12_set 18 rfl) (by decide) ?_
        refine hw_ic (v := (1 : Int32)) (aX12_set 25 rfl) (by decide) ?_
        refine xw_iret (aX12_set 26 rfl) rfl (by decide) ?_
        have e19 : ((1 : Int32)).toInt = 1 := (by decide : (1 : Int32).toInt = 1)
        exact ⟨(1 : Int32), rfl, FI16, FL14, rfl, hI18, (gf_f (gf_f gf_rf u2 (by decide)) u17 (by decide)), (gf_f gf_rf u15 (by decide)), (by have : ((1 : Int32)).toInt = 1 := (by decide); omega), (by have : ((1 : Int32)).toInt = 1 := (by decide); omega), (by have : ((1 : Int32)).toInt = 1 := (by decide); omega)⟩
    · refine hw_ic (v := (0 : Int32)) (aX12_set 8 rfl) (by decide) ?_
      refine xw_iret (aX12_set 9 rfl) rfl (by decide) ?_
      have e20 : ((0 : Int32)).toInt = 0 := (by decide : (0 : Int32).toInt = 0)
      exact ⟨(0 : Int32), rfl, FI1, FL, rfl, hI3, (gf_f gf_rf u2 (by decide)), gf_rf, (by have : ((0 : Int32)).toInt = 0 := (by decide); omega), (by have : ((0 : Int32)).toInt = 0 := (by decide); omega), (by have : ((0 : Int32)).toInt = 0 := (by decide); omega)⟩
set_option maxHeartbeats 4000000 in
set_option maxRecDepth 100000 in
theorem k_tapeIntoT26 {sk : xK} {base d n sl : Nat} {SH : Nat → Nat × Nat} {FI : Nat → Nat → Int32} {FL : Nat → Nat → Int64} {FR : Nat → Nat → Option Nat} (hS : h_S n SH) (hF : h_FR FR) (hI : g_I FI) (hR : g_R n SH FR) (a2 : Int32) (gp : Nat → Nat) (gw : Nat → Nat) (gs : Nat → Nat) (gg0 : g_T n SH FI FR gp gw gs) : hw sk base (d + 2) none 123 0 [(0, .ref (base + 0)), (1, .ref (base + 26)), (2, .int (a2))] [] (n, sl, SH, FI, FL, FR) (h_I (fun r s => ∃ n' sl' SH' FI' FL' FR', s = (n', sl', SH', FI', FL', FR') ∧ g_ex n SH n' SH' ∧ h_S n' SH' ∧ g_I FI' ∧ g_fr n (shd SH) [(0, 9)] [] [] FI FI' ∧ g_fr n (shd SH) [] [] [] FL FL' ∧ g_fr n (shd SH) [] [26] [] FR FR' ∧ h_FR FR' ∧ g_R n' SH' FR' ∧ ((n' : Int) ≤ n + 1) ∧ ((sl' : Int) + (FI' 0 9).toInt ≤ sl + (FI 0 9).toInt) ∧ ((FI' 0 9).toInt ≤ (FI 0 9).toInt) ∧ (∃ gp2 gw2 gs2, g_T n' SH' FI' FR' gp2 gw2 gs2 ∧ (∀ c, c < n → gp2 c = gp c ∧ gw2 c = gw c ∧ gs2 c = gs c) ∧ True))) := by
  have rg_a2 := i_rng a2
  have hk0 : ∀ c, c < n → gp c = gp c ∧ gw c = gw c ∧ gs c = gs c := fun _ _ => ⟨rfl, rfl, rfl⟩
  obtain ⟨x1, h2⟩ : ∃ y, FI 0 9 = y := ⟨_, rfl⟩
  have h2l := congrArg Int32.toInt h2
  have b3 := gI_0_9 hI; rw [h2] at b3
  refine xw_iloadn (aX11_tapeInto 0 rfl) rfl ?_
  refine hw_iflt (tgt := 20) (aX11_tapeInto 1 rfl) (by decide) rfl (fun cd4 => ?_) (fun cd4 => ?_)
  · refine hw_ic (v := ((-1) : Int32)) (aX11_tapeInto 10 rfl) (by decide) ?_
    refine xw_iret (aX11_tapeInto 11 rfl) rfl rfl ?_
    have e5 : (((-1) : Int32)).toInt = (-1) := (by decide : ((-1) : Int32).toInt = (-1))
    exact ⟨((-1) : Int32), rfl, n, sl, SH, FI, FL, FR, rfl, ex_rf, hS, hI, gf_rf, gf_rf, gf_rf, hF, hR, (by have : (((-1) : Int32)).toInt = (-1) := (by decide); omega), (by have : (((-1) : Int32)).toInt = (-1) := (by decide); have := congrArg Int32.toInt (show FI 0 9 = x1 from h2); omega), (by have : (((-1) : Int32)).toInt = (-1) := (by decide); have := congrArg Int32.toInt (show FI 0 9 = x1 from h2); omega), (by exact ⟨gp, gw, gs, gg0, hk0, trivial⟩)⟩
  · refine xw_iloadn (aX11_tapeInto 2 rfl) rfl ?_
    refine hw_aloadn (aX11_tapeInto 3 rfl) rfl ?_
    refine hw_alen (k := 6) (z := 16) (v := (16 : Int32)) (aX11_tapeInto 4 rfl) (c26 hS) (s26 hS) (by decide) (by decide) ?_
    refine hw_icge (tgt := 20) (aX11_tapeInto 5 rfl) (by decide) rfl (by decide : (16 : Int32).toInt = 16) (fun cd6 => ?_) (fun cd6 => ?_)
    · refine hw_ic (v := ((-1) : Int32)) (aX11_tapeInto 10 rfl) (by decide) ?_
      refine xw_iret (aX11_tapeInto 11 rfl) rfl rfl ?_
      have e7 : (((-1) : Int32)).toInt = (-1) := (by decide : ((-1) : Int32).toInt = (-1))
      exact ⟨((-1) : Int32), rfl, n, sl, SH, FI, FL, FR, rfl, ex_rf, hS, hI, gf_rf, gf_rf, gf_rf, hF, hR, (by have : (((-1) : Int32)).toInt = (-1) := (by decide); omega), (by have : (((-1) : Int32)).toInt = (-1) := (by decide); have := congrArg Int32.toInt (show FI 0 9 = x1 from h2); omega), (by have : (((-1) : Int32)).toInt = (-1) := (by decide); have := congrArg Int32.toInt (show FI 0 9 = x1 from h2); omega), (by exact ⟨gp, gw, gs, gg0, hk0, trivial⟩)⟩
    · refine hw_aloadn (aX11_tapeInto 6 rfl) rfl ?_
      refine hw_get (v := .int (x1)) (aX11_tapeInto 7 rfl) wf_RX11_69 (c0 hS) (s0 hS) (by decide) (congrArg Value.int (show FI 0 9 = x1 from h2)) ?_
      refine hw_sp (v := (600 : Int32)) (aX11_tapeInto 8 rfl) (by decide) ?_
      refine hw_icle (tgt := 22) (aX11_tapeInto 9 rfl) (by decide) rfl (by decide : (600 : Int32).toInt = 600) (fun cd8 => ?_) (fun cd8 => ?_)
      · refine hw_aloadn (aX11_tapeInto 12 rfl) rfl ?_
        refine hw_get (v := .int (x1)) (aX11_tapeInto 13 rfl) wf_RX11_69 (c0 hS) (s0 hS) (by decide) (congrArg Value.int (show FI 0 9 = x1 from h2)) ?_
        refine xw_istoren (L2 := [(3, .int (x1)), (0, .ref (base + 0)), (1, .ref (base + 26)), (2, .int (a2))]) (aX11_tapeInto 14 rfl) (by decide) rfl ?_
        refine hw_aloadn (aX11_tapeInto 15 rfl) rfl ?_
        refine xw_iloadn (aX11_tapeInto 16 rfl) rfl ?_
        refine hw_aloadn (aX11_tapeInto 17 rfl) rfl ?_
        refine hw_get (v := .ref (base + 19)) (aX11_tapeInto 18 rfl) wf_RX11_16 (c0 hS) (s0 hS) (by decide) (congrArg (fun r => va_rf (h_rf base r)) (r0_6 hF)) ?_
        refine xw_iloadn (aX11_tapeInto 19 rfl) rfl ?_
        refine hw_callS (As := [.ref (base + 19), .int (x1)]) (rest := [.int (a2), .ref (base + 26)]) (aX11_tapeInto 20 rfl) wc_RX11_88 (by decide) rfl wt_yJ7_copyOf_59c91 rfl rfl (Nat.le_of_ble_eq_true rfl) (Nat.le_of_ble_eq_true rfl) (k_copyOf19 (d := d) hS hF hI hR (x1) (by omega)) (fun v9 sv10 p11 => ?_)
        obtain ⟨r12, rfl, n27, sl28, SH29, FI13, FL14, FR15, rfl, ex30, hS31, hI16, f17, f18, f19, hF20, hR21, t22, t23, u24, ht25, nn26, hfr32⟩ := p11
        obtain ⟨r33, rfl⟩ : ∃ q, r12 = some q := Option.ne_none_iff_exists'.mp nn26
        have fq34 := hfr32 r33 rfl
        have dq35 : 176 ≤ r33 := Nat.le_trans hS.1 fq34
        obtain ⟨lt37, ow38, sh39⟩ := ht25 r33 rfl
        have hT40 : g_T n27 SH29 FI13 FR15 gp gw gs := gT_ar (L := []) (A := []) (T := []) (L2 := []) (A2 := []) (T2 := []) hS hR gg0 (by omega) ex30 (by rw [show n = r33 by omega]; exact sh39) f17 f19 (by decide) (by decide)
        show hw sk base _ _ _ _ _ [.ref (base + r33), .int (a2), .ref (base + 26)] _ _
        refine hv_aastI (i2 := (a2).toNatClampNeg) (aX11_tapeInto 21 rfl) (c26 hS31) (s26 hS31) (nin_1 (i := 95) rfl rfl) lt37 sh39 (h_in rfl (by omega) (by omega)) rfl (fun FR41 u42 => ?_)
        have hT43 : g_T n27 SH29 FI13 FR41 gp gw gs := gT_wo hT40 (by rw [(s26 hS31)]; decide) (by rw [(s26 hS31)]; decide) u42
        have hF44 : h_FR FR41 := hF_ua hS31 hF20 u42 (s26 hS31) (by decide +kernel)
        have hR45 : g_R n27 SH29 FR41 := gR_up hR21 u42 (s26 hS31) (fun r e => by cases e; exact ⟨lt37, ow38, by rw [sh39]; rfl⟩) (fun h => absurd h (by have := (by decide : 26 < 176); omega)) (fun _ => by simp) (fun h => absurd h.1 (by decide))
        refine hw_aloadn (aX11_tapeInto 22 rfl) rfl ?_
        refine hw_ic (v := (0 : Int32)) (aX11_tapeInto 23 rfl) (by decide) ?_
        refine hv_puti (aX11_tapeInto 24 rfl) wf_RX11_69 (c0 hS31) (s0 hS31) (by decide) rfl rfl (fun FI46 u47 => ?_)
        have hT48 : g_T n27 SH29 FI46 FR41 gp gw gs := gT_wi hT43 (fun h => absurd h (by rw [(s0 hS31)]; decide)) u47
        have hI49 : g_I FI46 := gU_0_9 hI16 u47 (by have := ((by decide : (0 : Int32).toInt = 0) : ((0 : Int32)).toInt = 0); omega) (by have := ((by decide : (0 : Int32).toInt = 0) : ((0 : Int32)).toInt = 0); omega)
        refine xw_iloadn (aX11_tapeInto 25 rfl) rfl ?_
        refine xw_iret (aX11_tapeInto 26 rfl) rfl rfl ?_
        exact ⟨x1, rfl, n27, sl28, SH29, FI46, FL14, FR41, rfl, ex30, hS31, hI49, (gf_f (gf_tr ex_rf gf_rf f17 rfl rfl rfl) u47 (by decide)), (gf_tr ex_rf gf_rf f18 rfl rfl rfl), (gf_a (gf_tr ex_rf gf_rf f19 rfl rfl rfl) u42 (by decide)), hF44, hR45, (by omega), (by have := congrArg Int32.toInt (show FI46 0 9 = (0 : Int32) from up_eq u47); have := ((by decide : (0 : Int32).toInt = 0) : ((0 : Int32)).toInt = 0); omega), (by have := congrArg Int32.toInt (show FI46 0 9 = (0 : Int32) from up_eq u47); have := ((by decide : (0 : Int32).toInt = 0) : ((0 : Int32)).toInt = 0); omega), (by exact ⟨gp, gw, gs, hT48, hk0, trivial⟩)⟩
      · refine hw_ic (v := ((-1) : Int32)) (aX11_tapeInto 10 rfl) (by decide) ?_
        refine xw_iret (aX11_tapeInto 11 rfl) rfl rfl ?_
        have e50 : (((-1) : Int32)).toInt = (-1) := (by decide : ((-1) : Int32).toInt = (-1))
        exact ⟨((-1) : Int32), rfl, n, sl, SH, FI, FL, FR, rfl, ex_rf, hS, hI, gf_rf, gf_rf, gf_rf, hF, hR, (by have : (((-1) : Int32)).toInt = (-1) := (by decide); omega), (by have : (((-1) : Int32)).toInt = (-1) := (by decide); have := congrArg Int32.toInt (show FI 0 9 = x1 from h2); omega), (by have : (((-1) : Int32)).toInt = (-1) := (by decide); have := congrArg Int32.toInt (show FI 0 9 = x1 from h2); omega), (by exact ⟨gp, gw, gs, gg0, hk0, trivial⟩)⟩
set_option maxHeartbeats 4000000 in
set_option maxRecDepth 100000 in
theorem k_tapeIntoT43 {sk : xK} {base d n sl : Nat} {SH : Nat → Nat × Nat} {FI : Nat → Nat → Int32} {FL : Nat → Nat → Int64} {FR : Nat → Nat → Option Nat} (hS : h_S n SH) (hF : h_FR FR) (hI : g_I FI) (hR : g_R n SH FR) (a2 : Int32) (gp : Nat → Nat) (gw : Nat → Nat) (gs : Nat → Nat) (gg0 : g_T n SH FI FR gp gw gs) : hw sk base (d + 2) none 123 0 [(0, .ref (base + 0)), (1, .ref (base + 43)), (2, .int (a2))] [] (n, sl, SH, FI, FL, FR) (h_I (fun r s => ∃ n' sl' SH' FI' FL' FR', s = (n', sl', SH', FI', FL', FR') ∧ g_ex n SH n' SH' ∧ h_S n' SH' ∧ g_I FI' ∧ g_fr n (shd SH) [(0, 9)] [] [] FI FI' ∧ g_fr n (shd SH) [] [] [] FL FL' ∧ g_fr n (shd SH) [] [43] [] FR FR' ∧ h_FR FR' ∧ g_R n' SH' FR' ∧ ((n' : Int) ≤ n + 1) ∧ ((sl' : Int) + (FI' 0 9).toInt ≤ sl + (FI 0 9).toInt) ∧ ((FI' 0 9).toInt ≤ (FI 0 9).toInt) ∧ (∃ gp2 gw2 gs2, g_T n' SH' FI' FR' gp2 gw2 gs2 ∧ (∀ c, c < n → gp2 c = gp c ∧ gw2 c = gw c ∧ gs2 c = gs c) ∧ True))) := by
  have rg_a2 := i_rng a2
  have hk0 : ∀ c, c < n → gp c = gp c ∧ gw c = gw c ∧ gs c = gs c := fun _ _ => ⟨rfl, rfl, rfl⟩
  obtain ⟨x1, h2⟩ : ∃ y, FI 0 9 = y := ⟨_, rfl⟩
  have h2l := congrArg Int32.toInt h2
  have b3 := gI_0_9 hI; rw [h2] at b3
  refine xw_iloadn (aX11_tapeInto 0 rfl) rfl ?_
  refine hw_iflt (tgt := 20) (aX11_tapeInto 1 rfl) (by decide) rfl (fun cd4 => ?_) (fun cd4 => ?_)
  · refine hw_ic (v := ((-1) : Int32)) (aX11_tapeInto 10 rfl) (by decide) ?_
    refine xw_iret (aX11_tapeInto 11 rfl) rfl rfl ?_
    have e5 : (((-1) : Int32)).toInt = (-1) := (by decide : ((-1) : Int32).toInt = (-1))
    exact ⟨((-1) : Int32), rfl, n, sl, SH, FI, FL, FR, rfl, ex_rf, hS, hI, gf_rf, gf_rf, gf_rf, hF, hR, (by have : (((-1) : Int32)).toInt = (-1) := (by decide); omega), (by have : (((-1) : Int32)).toInt = (-1) := (by decide); have := congrArg Int32.toInt (show FI 0 9 = x1 from h2); omega), (by have : (((-1) : Int32)).toInt = (-1) := (by decide); have := congrArg Int32.toInt (show FI 0 9 = x1 from h2); omega), (by exact ⟨gp, gw, gs, gg0, hk0, trivial⟩)⟩
  · refine xw_iloadn (aX11_tapeInto 2 rfl) rfl ?_
    refine hw_aloadn (aX11_tapeInto 3 rfl) rfl ?_
    refine hw_alen (k := 6) (z := 4) (v := (4 : Int32)) (aX11_tapeInto 4 rfl) (c43 hS) (s43 hS) (by decide) (by decide) ?_
    refine hw_icge (tgt := 20) (aX11_tapeInto 5 rfl) (by decide) rfl (by decide : (4 : Int32).toInt = 4) (fun cd6 => ?_) (fun cd6 => ?_)
    · refine hw_ic (v := ((-1) : Int32)) (aX11_tapeInto 10 rfl) (by decide) ?_
      refine xw_iret (aX11_tapeInto 11 rfl) rfl rfl ?_
      have e7 : (((-1) : Int32)).toInt = (-1) := (by decide : ((-1) : Int32).toInt = (-1))
      exact ⟨((-1) : Int32), rfl, n, sl, SH, FI, FL, FR, rfl, ex_rf, hS, hI, gf_rf, gf_rf, gf_rf, hF, hR, (by have : (((-1) : Int32)).toInt = (-1) := (by decide); omega), (by have : (((-1) : Int32)).toInt = (-1) := (by decide); have := congrArg Int32.toInt (show FI 0 9 = x1 from h2); omega), (by have : (((-1) : Int32)).toInt = (-1) := (by decide); have := congrArg Int32.toInt (show FI 0 9 = x1 from h2); omega), (by exact ⟨gp, gw, gs, gg0, hk0, trivial⟩)⟩
    · refine hw_aloadn (aX11_tapeInto 6 rfl) rfl ?_
      refine hw_get (v := .int (x1)) (aX11_tapeInto 7 rfl) wf_RX11_69 (c0 hS) (s0 hS) (by decide) (congrArg Value.int (show FI 0 9 = x1 from h2)) ?_
      refine hw_sp (v := (600 : Int32)) (aX11_tapeInto 8 rfl) (by decide) ?_
      refine hw_icle (tgt := 22) (aX11_tapeInto 9 rfl) (by decide) rfl (by decide : (600 : Int32).toInt = 600) (fun cd8 => ?_) (fun cd8 => ?_)
      · refine hw_aloadn (aX11_tapeInto 12 rfl) rfl ?_
        refine hw_get (v := .int (x1)) (aX11_tapeInto 13 rfl) wf_RX11_69 (c0 hS) (s0 hS) (by decide) (congrArg Value.int (show FI 0 9 = x1 from h2)) ?_
        refine xw_istoren (L2 := [(3, .int (x1)), (0, .ref (base + 0)), (1, .ref (base + 43)), (2, .int (a2))]) (aX11_tapeInto 14 rfl) (by decide) rfl ?_
        refine hw_aloadn (aX11_tapeInto 15 rfl) rfl ?_
        refine xw_iloadn (aX11_tapeInto 16 rfl) rfl ?_
        refine hw_aloadn (aX11_tapeInto 17 rfl) rfl ?_
        refine hw_get (v := .ref (base + 19)) (aX11_tapeInto 18 rfl) wf_RX11_16 (c0 hS) (s0 hS) (by decide) (congrArg (fun r => va_rf (h_rf base r)) (r0_6 hF)) ?_
        refine xw_iloadn (aX11_tapeInto 19 rfl) rfl ?_
        refine hw_callS (As := [.ref (base + 19), .int (x1)]) (rest := [.int (a2), .ref (base + 43)]) (aX11_tapeInto 20 rfl) wc_RX11_88 (by decide) rfl wt_yJ7_copyOf_59c91 rfl rfl (Nat.le_of_ble_eq_true rfl) (Nat.le_of_ble_eq_true rfl) (k_copyOf19 (d := d) hS hF hI hR (x1) (by omega)) (fun v9 sv10 p11 => ?_)
        obtain ⟨r12, rfl, n27, sl28, SH29, FI13, FL14, FR15, rfl, ex30, hS31, hI16, f17, f18, f19, hF20, hR21, t22, t23, u24, ht25, nn26, hfr32⟩ := p11
        obtain ⟨r33, rfl⟩ : ∃ q, r12 = some q := Option.ne_none_iff_exists'.mp nn26
        have fq34 := hfr32 r33 rfl
        have dq35 : 176 ≤ r33 := Nat.le_trans hS.1 fq34
        obtain ⟨lt37, ow38, sh39⟩ := ht25 r33 rfl
        have hT40 : g_T n27 SH29 FI13 FR15 gp gw gs := gT_ar (L := []) (A := []) (T := []) (L2 := []) (A2 := []) (T2 := []) hS hR gg0 (by omega) ex30 (by rw [show n = r33 by omega]; exact sh39) f17 f19 (by decide) (by decide)
        show hw sk base _ _ _ _ _ [.ref (base + r33), .int (a2), .ref (base + 43)] _ _
        refine hv_aastI (i2 := (a2).toNatClampNeg) (aX11_tapeInto 21 rfl) (c43 hS31) (s43 hS31) (nin_1 (i := 95) rfl rfl) lt37 sh39 (h_in rfl (by omega) (by omega)) rfl (fun FR41 u42 => ?_)
        have hT43 : g_T n27 SH29 FI13 FR41 gp gw gs := gT_wo hT40 (by rw [(s43 hS31)]; decide) (by rw [(s43 hS31)]; decide) u42
        have hF44 : h_FR FR41 := hF_ua hS31 hF20 u42 (s43 hS31) (by decide +kernel)
        have hR45 : g_R n27 SH29 FR41 := gR_up hR21 u42 (s43 hS31) (fun r e => by cases e; exact ⟨lt37, ow38, by rw [sh39]; rfl⟩) (fun h => absurd h (by have := (by decide : 43 < 176); omega)) (fun _ => by simp) (fun h => absurd h.1 (by decide))
        refine hw_aloadn (aX11_tapeInto 22 rfl) rfl ?_
        refine hw_ic (v := (0 : Int32)) (aX11_tapeInto 23 rfl) (by decide) ?_
        refine hv_puti (aX11_tapeInto 24 rfl) wf_RX11_69 (c0 hS31) (s0 hS31) (by decide) rfl rfl (fun FI46 u47 => ?_)
        have hT48 : g_T n27 SH29 FI46 FR41 gp gw gs := gT_wi hT43 (fun h => absurd h (by rw [(s0 hS31)]; decide)) u47
        have hI49 : g_I FI46 := gU_0_9 hI16 u47 (by have := ((by decide : (0 : Int32).toInt = 0) : ((0 : Int32)).toInt = 0); omega) (by have := ((by decide : (0 : Int32).toInt = 0) : ((0 : Int32)).toInt = 0); omega)
        refine xw_iloadn (aX11_tapeInto 25 rfl) rfl ?_
        refine xw_iret (aX11_tapeInto 26 rfl) rfl rfl ?_
        exact ⟨x1, rfl, n27, sl28, SH29, FI46, FL14, FR41, rfl, ex30, hS31, hI49, (gf_f (gf_tr ex_rf gf_rf f17 rfl rfl rfl) u47 (by decide)), (gf_tr ex_rf gf_rf f18 rfl rfl rfl), (gf_a (gf_tr ex_rf gf_rf f19 rfl rfl rfl) u42 (by decide)), hF44, hR45, (by omega), (by have := congrArg Int32.toInt (show FI46 0 9 = (0 : Int32) from up_eq u47); have := ((by decide : (0 : Int32).toInt = 0) : ((0 : Int32)).toInt = 0); omega), (by have := congrArg Int32.toInt (show FI46 0 9 = (0 : Int32) from up_eq u47); have := ((by decide : (0 : Int32).toInt = 0) : ((0 : Int32)).toInt = 0); omega), (by exact ⟨gp, gw, gs, hT48, hk0, trivial⟩)⟩
      · refine hw_ic (v := ((-1) : Int32)) (aX11_tapeInto 10 rfl) (by decide) ?_
        refine xw_iret (aX11_tapeInto 11 rfl) rfl rfl ?_
        have e50 : (((-1) : Int32)).toInt = (-1) := (by decide : ((-1) : Int32).toInt = (-1))
        exact ⟨((-1) : Int32), rfl, n, sl, SH, FI, FL, FR, rfl, ex_rf, hS, hI, gf_rf, gf_rf, gf_rf, hF, hR, (by have : (((-1) : Int32)).toInt = (-1) := (by decide); omega), (by have : (((-1) : Int32)).toInt = (-1) := (by decide); have := congrArg Int32.toInt (show FI 0 9 = x1 from h2); omega), (by have : (((-1) : Int32)).toInt = (-1) := (by decide); have := congrArg Int32.toInt (show FI 0 9 = x1 from h2); omega), (by exact ⟨gp, gw, gs, gg0, hk0, trivial⟩)⟩
set_option maxHeartbeats 4000000 in
set_option maxRecDepth 100000 in
theorem k_expressionT {sk : xK} {base d n sl : Nat} {SH : Nat → Nat × Nat} {FI : Nat → Nat → Int32} {FL : Nat → Nat → Int64} {FR : Nat → Nat → Option Nat} (hS : h_S n SH) (hF : h_FR FR) (hI : g_I FI) (hR : g_R n SH FR) (a1 : Int32) (gp : Nat → Nat) (gw : Nat → Nat) (gs : Nat → Nat) (gg0 : g_T n SH FI FR gp gw gs) : hw sk base (d + 3) none 121 0 [(0, .ref (base + 0)), (1, .int (a1))] [] (n, sl, SH, FI, FL, FR) (h_I (fun r s => ∃ n' sl' SH' FI' FL' FR', s = (n', sl', SH', FI', FL', FR') ∧ g_ex n SH n' SH' ∧ h_S n' SH' ∧ g_I FI' ∧ g_fr n (shd SH) [(0, 9)] [] [] FI FI' ∧ g_fr n (shd SH) [] [] [] FL FL' ∧ g_fr n (shd SH) [] [26] [] FR FR' ∧ h_FR FR' ∧ g_R n' SH' FR' ∧ ((n' : Int) ≤ n + 1) ∧ ((sl' : Int) + (FI' 0 9).toInt ≤ sl + (FI 0 9).toInt) ∧ ((FI' 0 9).toInt ≤ (FI 0 9).toInt) ∧ (∃ gp2 gw2 gs2, g_T n' SH' FI' FR' gp2 gw2 gs2 ∧ (∀ c, c < n → gp2 c = gp c ∧ gw2 c = gw c ∧ gs2 c = gs c) ∧ True))) := by
  have rg_a1 := i_rng a1
  have hk0 : ∀ c, c < n → gp c = gp c ∧ gw c = gw c ∧ gs c = gs c := fun _ _ => ⟨rfl, rfl, rfl⟩
  obtain ⟨x1, h2⟩ : ∃ y, FI 0 9 = y := ⟨_, rfl⟩
  have h2l := congrArg Int32.toInt h2
  have b3 := gI_0_9 hI; rw [h2] at b3
  refine hw_aloadn (aX11_expression 0 rfl) rfl ?_
  refine hw_aloadn (aX11_expression 1 rfl) rfl ?_
  refine hw_get (v := .ref (base + 23)) (aX11_expression 2 rfl) wf_RX11_35 (c0 hS) (s0 hS) (by decide) (congrArg (fun r => va_rf (h_rf base r)) (r0_0 hF)) ?_
  refine hw_get (v := .ref (base + 26)) (aX11_expression 3 rfl) wf_RX11_77 (c23 hS) (s23 hS) (by decide) (congrArg (fun r => va_rf (h_rf base r)) (r23_2 hF)) ?_
  refine xw_iloadn (aX11_expression 4 rfl) rfl ?_
  refine hw_callV (Bs := [.ref (base + 26), .int (a1)]) (rest := []) (aX11_expression 5 rfl) wc_RX11_81 (by decide) rfl wi_yX11_tapeInto wv_yX11_tapeInto (c0 hS) (s0 hS) rfl rfl rfl (Nat.le_of_ble_eq_true rfl) (Nat.le_of_ble_eq_true rfl) (k_tapeIntoT26 (d := d) hS hF hI hR (a1) (gp) (gw) (gs) (gg0)) (fun v4 sv5 p6 => ?_)
  have := congrArg Int32.toInt (show FI 0 9 = x1 from h2)
  have := congrArg Int32.toInt (show FI 0 9 = x1 from h2)
  obtain ⟨r7, rfl, n23, sl24, SH25, FI8, FL9, FR10, rfl, ex26, hS27, hI11, f12, f13, f14, hF15, hR16, t17, t18, t19, u20⟩ := p6
  obtain ⟨gp28, gw29, gs30, hT31, hkp32, hq33⟩ := u20
  have hk34 : ∀ c, c < n → gp28 c = gp c ∧ gw29 c = gw c ∧ gs30 c = gs c := fun c hc => by obtain ⟨k1, k2, k3⟩ := hk0 c hc; obtain ⟨m1, m2, m3⟩ := hkp32 c (Nat.lt_of_lt_of_le hc (Nat.le_refl _)); exact ⟨m1.trans k1, m2.trans k2, m3.trans k3⟩
  have rg_r7 := i_rng r7
  obtain ⟨x35, h36⟩ : ∃ y, FI8 0 9 = y := ⟨_, rfl⟩
  have h36l := congrArg Int32.toInt h36
  have b37 := gI_0_9 hI11; rw [h36] at b37
  show hw sk base _ _ _ _ _ [.int (r7)] _ _
  refine xw_iret (aX11_expression 6 rfl) rfl rfl ?_
  exact ⟨r7, rfl, n23, sl24, SH25, FI8, FL9, FR10, rfl, ex26, hS27, hI11, (gf_tr ex_rf gf_rf f12 rfl rfl rfl), (gf_tr ex_rf gf_rf f13 rfl rfl rfl), (gf_tr ex_rf gf_rf f14 rfl rfl rfl), hF15, hR16, (by omega), (by have := congrArg Int32.toInt (show FI8 0 9 = x35 from h36); omega), (by have := congrArg Int32.toInt (show FI8 0 9 = x35 from h36); omega), (by exact ⟨gp28, gw29, gs30, hT31, hk34, trivial⟩)⟩
set_option maxHeartbeats 4000000 in
set_option maxRecDepth 100000 in
theorem k_listT {sk : xK} {base d n sl : Nat} {SH : Nat → Nat × Nat} {FI : Nat → Nat → Int32} {FL : Nat → Nat → Int64} {FR : Nat → Nat → Option Nat} (hS : h_S n SH) (hF : h_FR FR) (hI : g_I FI) (hR : g_R n SH FR) (a1 : Int32) (gp : Nat → Nat) (gw : Nat → Nat) (gs : Nat → Nat) (gg0 : g_T n SH FI FR gp gw gs) : hw sk base (d + 3) none 122 0 [(0, .ref (base + 0)), (1, .int (a1))] [] (n, sl, SH, FI, FL, FR) (h_I (fun r s => ∃ n' sl' SH' FI' FL' FR', s = (n', sl', SH', FI', FL', FR') ∧ g_ex n SH n' SH' ∧ h_S n' SH' ∧ g_I FI' ∧ g_fr n (shd SH) [(0, 9)] [] [] FI FI' ∧ g_fr n (shd SH) [] [] [] FL FL' ∧ g_fr n (shd SH) [] [43] [] FR FR' ∧ h_FR FR' ∧ g_R n' SH' FR' ∧ ((n' : Int) ≤ n + 1) ∧ ((sl' : Int) + (FI' 0 9).toInt ≤ sl + (FI 0 9).toInt) ∧ ((FI' 0 9).toInt ≤ (FI 0 9).toInt) ∧ (∃ gp2 gw2 gs2, g_T n' SH' FI' FR' gp2 gw2 gs2 ∧ (∀ c, c < n → gp2 c = gp c ∧ gw2 c = gw c ∧ gs2 c = gs c) ∧ True))) := by
  have rg_a1 := i_rng a1
  have hk0 : ∀ c, c < n → gp c = gp c ∧ gw c = gw c ∧ gs c = gs c := fun _ _ => ⟨rfl, rfl, rfl⟩
  obtain ⟨x1, h2⟩ : ∃ y, FI 0 9 = y := ⟨_, rfl⟩
  have h2l := congrArg Int32.toInt h2
  have b3 := gI_0_9 hI; rw [h2] at b3
  refine hw_aloadn (aX11_list 0 rfl) rfl ?_
  refine hw_aloadn (aX11_list 1 rfl) rfl ?_
  refine hw_get (v := .ref (base + 23)) (aX11_list 2 rfl) wf_RX11_35 (c0 hS) (s0 hS) (by decide) (congrArg (fun r => va_rf (h_rf base r)) (r0_0 hF)) ?_
  refine hw_get (v := .ref (base + 43)) (aX11_list 3 rfl) wf_RX11_85 (c23 hS) (s23 hS) (by decide) (congrArg (fun r => va_rf (h_rf base r)) (r23_3 hF)) ?_
  refine xw_iloadn (aX11_list 4 rfl) rfl ?_
  refine hw_callV (Bs := [.ref (base + 43), .int (a1)]) (rest := []) (aX11_list 5 rfl) wc_RX11_81 (by decide) rfl wi_yX11_tapeInto wv_yX11_tapeInto (c0 hS) (s0 hS) rfl rfl rfl (Nat.le_of_ble_eq_true rfl) (Nat.le_of_ble_eq_true rfl) (k_tapeIntoT43 (d := d) hS hF hI hR (a1) (gp) (gw) (gs) (gg0)) (fun v4 sv5 p6 => ?_)
  have := congrArg Int32.toInt (show FI 0 9 = x1 from h2)
  have := congrArg Int32.toInt (show FI 0 9 = x1 from h2)
  obtain ⟨r7, rfl, n23, sl24, SH25, FI8, FL9, FR10, rfl, ex26, hS27, hI11, f12, f13, f14, hF15, hR16, t17, t18, t19, u20⟩ := p6
  obtain ⟨gp28, gw29, gs30, hT31, hkp32, hq33⟩ := u20
  have hk34 : ∀ c, c < n → gp28 c = gp c ∧ gw29 c = gw c ∧ gs30 c = gs c := fun c hc => by obtain ⟨k1, k2, k3⟩ := hk0 c hc; obtain ⟨m1, m2, m3⟩ := hkp32 c (Nat.lt_of_lt_of_le hc (Nat.le_refl _)); exact ⟨m1.trans k1, m2.trans k2, m3.trans k3⟩
  have rg_r7 := i_rng r7
  obtain ⟨x35, h36⟩ : ∃ y, FI8 0 9 = y := ⟨_, rfl⟩
  have h36l := congrArg Int32.toInt h36
  have b37 := gI_0_9 hI11; rw [h36] at b37
  show hw sk base _ _ _ _ _ [.int (r7)] _ _
  refine xw_iret (aX11_list 6 rfl) rfl rfl ?_
  exact ⟨r7, rfl, n23, sl24, SH25, FI8, FL9, FR10, rfl, ex26, hS27, hI11, (gf_tr ex_rf gf_rf f12 rfl rfl rfl), (gf_tr ex_rf gf_rf f13 rfl rfl rfl), (gf_tr ex_rf gf_rf f14 rfl rfl rfl), hF15, hR16, (by omega), (by have := congrArg Int32.toInt (show FI8 0 9 = x35 from h36); omega), (by have := congrArg Int32.toInt (show FI8 0 9 = x35 from h36); omega), (by exact ⟨gp28, gw29, gs30, hT31, hk34, trivial⟩)⟩
