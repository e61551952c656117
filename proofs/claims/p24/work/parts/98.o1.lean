section
set_option maxHeartbeats 4000000 in
set_option maxRecDepth 100000 in
theorem k_frame2 {sk : xK} {base d n sl : Nat} {SH : Nat → Nat × Nat} {FI : Nat → Nat → Int32} {FL : Nat → Nat → Int64} {FR : Nat → Nat → Option Nat} (hS : h_S n SH) (hF : h_FR FR) (hI : g_I FI) (hR : g_R n SH FR) (a1 : Int32) : hw sk base d none 128 0 [(0, .ref (base + 0)), (1, .int (a1))] [] (n, sl, SH, FI, FL, FR) (h_I (fun r s => ∃ FI', s = (n, sl, SH, FI', FL, FR) ∧ g_I FI' ∧ g_fr n (shd SH) [(23, 4)] [] [] FI FI' ∧ (r.toInt = 1 → (-1 ≤ (a1).toInt ∧ (a1).toInt ≤ 15)) ∧ (r.toInt = 0 → ((a1).toInt < -1 ∨ 15 < (a1).toInt)) ∧ (0 ≤ r.toInt ∧ r.toInt ≤ 1))) := by
  have rg_a1 := i_rng a1
  refine xw_iloadn (aX11_frame 0 rfl) rfl ?_
  refine hw_ic (v := ((-1) : Int32)) (aX11_frame 1 rfl) (by decide) ?_
  refine hw_iclt (tgt := 17) (aX11_frame 2 rfl) (by decide) rfl (by decide : ((-1) : Int32).toInt = (-1)) (fun cd1 => ?_) (fun cd1 => ?_)
  · refine hw_ic (v := (0 : Int32)) (aX11_frame 9 rfl) (by decide) ?_
    refine xw_iret (aX11_frame 10 rfl) rfl (by decide) ?_
    have e2 : ((0 : Int32)).toInt = 0 := (by decide : (0 : Int32).toInt = 0)
    exact ⟨(0 : Int32), rfl, FI, rfl, hI, gf_rf, (by have : ((0 : Int32)).toInt = 0 := (by decide); omega), (by have : ((0 : Int32)).toInt = 0 := (by decide); omega), (by have : ((0 : Int32)).toInt = 0 := (by decide); omega)⟩
  · refine xw_iloadn (aX11_frame 3 rfl) rfl ?_
    refine hw_aloadn (aX11_frame 4 rfl) rfl ?_
    refine hw_get (v := .ref (base + 23)) (aX11_frame 5 rfl) wf_RX11_35 (c0 hS) (s0 hS) (by decide) (congrArg (fun r => va_rf (h_rf base r)) (r0_0 hF)) ?_
    refine hw_get (v := .ref (base + 26)) (aX11_frame 6 rfl) wf_RX11_77 (c23 hS) (s23 hS) (by decide) (congrArg (fun r => va_rf (h_rf base r)) (r23_2 hF)) ?_
    refine hw_alen (k := 6) (z := 16) (v := (16 : Int32)) (aX11_frame 7 rfl) (c26 hS) (s26 hS) (by decide) (by decide) ?_
    refine hw_iclt (tgt := 19) (aX11_frame 8 rfl) (by decide) rfl (by decide : (16 : Int32).toInt = 16) (fun cd3 => ?_) (fun cd3 => ?_)
    · refine hw_aloadn (aX11_frame 11 rfl) rfl ?_
      refine hw_get (v := .ref (base + 23)) (aX11_frame 12 rfl) wf_RX11_35 (c0 hS) (s0 hS) (by decide) (congrArg (fun r => va_rf (h_rf base r)) (r0_0 hF)) ?_
      refine xw_iloadn (aX11_frame 13 rfl) rfl ?_
      refine hv_puti (aX11_frame 14 rfl) wf_RX11_105 (c23 hS) (s23 hS) (by decide) rfl rfl (fun FI4 u5 => ?_)
      have hI6 : g_I FI4 := gU_23_4 hI u5 (by omega) (by omega)
      refine hw_ic (v := (1 : Int32)) (aX11_frame 15 rfl) (by decide) ?_
      refine xw_iret (aX11_frame 16 rfl) rfl (by decide) ?_
      have e7 : ((1 : Int32)).toInt = 1 := (by decide : (1 : Int32).toInt = 1)
      exact ⟨(1 : Int32), rfl, FI4, rfl, hI6, (gf_f gf_rf u5 (by decide)), (by have : ((1 : Int32)).toInt = 1 := (by decide); omega), (by have : ((1 : Int32)).toInt = 1 := (by decide); omega), (by have : ((1 : Int32)).toInt = 1 := (by decide); omega)⟩
    · refine hw_ic (v := (0 : Int32)) (aX11_frame 9 rfl) (by decide) ?_
      refine xw_iret (aX11_frame 10 rfl) rfl (by decide) ?_
      have e8 : ((0 : Int32)).toInt = 0 := (by decide : (0 : Int32).toInt = 0)
      exact ⟨(0 : Int32), rfl, FI, rfl, hI, gf_rf, (by have : ((0 : Int32)).toInt = 0 := (by decide); omega), (by have : ((0 : Int32)).toInt = 0 := (by decide); omega), (by have : ((0 : Int32)).toInt = 0 := (by decide); omega)⟩
set_option maxHeartbeats 4000000 in
set_option maxRecDepth 100000 in
theorem k_modelFrame {sk : xK} {base d n sl : Nat} {SH : Nat → Nat × Nat} {FI : Nat → Nat → Int32} {FL : Nat → Nat → Int64} {FR : Nat → Nat → Option Nat} (hS : h_S n SH) (hF : h_FR FR) (hI : g_I FI) (hR : g_R n SH FR) (a1 : Int32) : hw sk base d none 163 0 [(0, .ref (base + 121)), (1, .int (a1))] [] (n, sl, SH, FI, FL, FR) (h_I (fun r s => ∃ FI', s = (n, sl, SH, FI', FL, FR) ∧ g_I FI' ∧ g_fr n (shd SH) [(121, 0), (121, 5)] [] [] FI FI' ∧ (r.toInt = 1 → (-1 ≤ (a1).toInt ∧ (a1).toInt ≤ 15)) ∧ (r.toInt = 0 → ((a1).toInt < -1 ∨ 15 < (a1).toInt)) ∧ (0 ≤ r.toInt ∧ r.toInt ≤ 1))) := by
  have rg_a1 := i_rng a1
  refine hw_aloadn (aX12_frame 0 rfl) rfl ?_
  refine hw_ic (v := (0 : Int32)) (aX12_frame 1 rfl) (by decide) ?_
  refine hv_puti (aX12_frame 2 rfl) wf_RX12_187 (c121 hS) (s121 hS) (by decide) rfl rfl (fun FI1 u2 => ?_)
  have hI3 : g_I FI1 := gU_F hI u2 rfl
  refine xw_iloadn (aX12_frame 3 rfl) rfl ?_
  refine hw_ic (v := ((-1) : Int32)) (aX12_frame 4 rfl) (by decide) ?_
  refine hw_iclt (tgt := 16) (aX12_frame 5 rfl) (by decide) rfl (by decide : ((-1) : Int32).toInt = (-1)) (fun cd4 => ?_) (fun cd4 => ?_)
  · refine hw_ic (v := (0 : Int32)) (aX12_frame 9 rfl) (by decide) ?_
    refine xw_iret (aX12_frame 10 rfl) rfl (by decide) ?_
    have e5 : ((0 : Int32)).toInt = 0 := (by decide : (0 : Int32).toInt = 0)
    exact ⟨(0 : Int32), rfl, FI1, rfl, hI3, (gf_f gf_rf u2 (by decide)), (by have : ((0 : Int32)).toInt = 0 := (by decide); omega), (by have : ((0 : Int32)).toInt = 0 := (by decide); omega), (by have : ((0 : Int32)).toInt = 0 := (by decide); omega)⟩
  · refine xw_iloadn (aX12_frame 6 rfl) rfl ?_
    refine hw_bp (v := (15 : Int32)) (aX12_frame 7 rfl) (by decide) ?_
    refine hw_icle (tgt := 18) (aX12_frame 8 rfl) (by decide) rfl (by decide : (15 : Int32).toInt = 15) (fun cd6 => ?_) (fun cd6 => ?_)
    · refine hw_aloadn (aX12_frame 11 rfl) rfl ?_
      refine xw_iloadn (aX12_frame 12 rfl) rfl ?_
      refine hv_puti (aX12_frame 13 rfl) wf_RX12_23 (c121 hS) (s121 hS) (by decide) rfl rfl (fun FI7 u8 => ?_)
      have hI9 : g_I FI7 := gU_121_5 hI3 u8 (by omega) (by omega)
      refine hw_ic (v := (1 : Int32)) (aX12_frame 14 rfl) (by decide) ?_
      refine xw_iret (aX12_frame 15 rfl) rfl (by decide) ?_
      have e10 : ((1 : Int32)).toInt = 1 := (by decide : (1 : Int32).toInt = 1)
      exact ⟨(1 : Int32), rfl, FI7, rfl, hI9, (gf_f (gf_f gf_rf u2 (by decide)) u8 (by decide)), (by have : ((1 : Int32)).toInt = 1 := (by decide); omega), (by have : ((1 : Int32)).toInt = 1 := (by decide); omega), (by have : ((1 : Int32)).toInt = 1 := (by decide); omega)⟩
    · refine hw_ic (v := (0 : Int32)) (aX12_frame 9 rfl) (by decide) ?_
      refine xw_iret (aX12_frame 10 rfl) rfl (by decide) ?_
      have e11 : ((0 : Int32)).toInt = 0 := (by decide : (0 : Int32).toInt = 0)
      exact ⟨(0 : Int32), rfl, FI1, rfl, hI3, (gf_f gf_rf u2 (by decide)), (by have : ((0 : Int32)).toInt = 0 := (by decide); omega), (by have : ((0 : Int32)).toInt = 0 := (by decide); omega), (by have : ((0 : Int32)).toInt = 0 := (by decide); omega)⟩
set_option maxHeartbeats 4000000 in
set_option maxRecDepth 100000 in
theorem k_load2 {sk : xK} {base d n sl : Nat} {SH : Nat → Nat × Nat} {FI : Nat → Nat → Int32} {FL : Nat → Nat → Int64} {FR : Nat → Nat → Option Nat} (hS : h_S n SH) (hF : h_FR FR) (hI : g_I FI) (hR : g_R n SH FR) (a1 : Int32) (a2 : Int64) : hw sk base d none 124 0 [(0, .ref (base + 0)), (1, .int (a1)), (2, .long (a2))] [] (n, sl, SH, FI, FL, FR) (h_I (fun r s => ∃ FL', s = (n, sl, SH, FI, FL', FR) ∧ g_fr n (shd SH) [] [24] [] FL FL' ∧ (r.toInt = 1 → (0 ≤ (a1).toInt ∧ (a1).toInt ≤ 31)) ∧ (r.toInt = 0 → ((a1).toInt < 0 ∨ 31 < (a1).toInt)) ∧ (0 ≤ r.toInt ∧ r.toInt ≤ 1))) := by
  have rg_a1 := i_rng a1
  have rg_a2 := l_rng a2
  refine xw_iloadn (aX11_load 0 rfl) rfl ?_
  refine hw_iflt (tgt := 16) (aX11_load 1 rfl) (by decide) rfl (fun cd1 => ?_) (fun cd1 => ?_)
  · refine hw_ic (v := (0 : Int32)) (aX11_load 8 rfl) (by decide) ?_
    refine xw_iret (aX11_load 9 rfl) rfl (by decide) ?_
    have e2 : ((0 : Int32)).toInt = 0 := (by decide : (0 : Int32).toInt = 0)
    exact ⟨(0 : Int32), rfl, FL, rfl, gf_rf, (by have : ((0 : Int32)).toInt = 0 := (by decide); omega), (by have : ((0 : Int32)).toInt = 0 := (by decide); omega), (by have : ((0 : Int32)).toInt = 0 := (by decide); omega)⟩
  · refine xw_iloadn (aX11_load 2 rfl) rfl ?_
    refine hw_aloadn (aX11_load 3 rfl) rfl ?_
    refine hw_get (v := .ref (base + 23)) (aX11_load 4 rfl) wf_RX11_35 (c0 hS) (s0 hS) (by decide) (congrArg (fun r => va_rf (h_rf base r)) (r0_0 hF)) ?_
    refine hw_get (v := .ref (base + 24)) (aX11_load 5 rfl) wf_RX11_94 (c23 hS) (s23 hS) (by decide) (congrArg (fun r => va_rf (h_rf base r)) (r23_0 hF)) ?_
    refine hw_alen (k := 1) (z := 32) (v := (32 : Int32)) (aX11_load 6 rfl) (c24 hS) (s24 hS) (by decide) (by decide) ?_
    refine hw_iclt (tgt := 18) (aX11_load 7 rfl) (by decide) rfl (by decide : (32 : Int32).toInt = 32) (fun cd3 => ?_) (fun cd3 => ?_)
    · refine hw_aloadn (aX11_load 10 rfl) rfl ?_
      refine hw_get (v := .ref (base + 23)) (aX11_load 11 rfl) wf_RX11_35 (c0 hS) (s0 hS) (by decide) (congrArg (fun r => va_rf (h_rf base r)) (r0_0 hF)) ?_
      refine hw_get (v := .ref (base + 24)) (aX11_load 12 rfl) wf_RX11_94 (c23 hS) (s23 hS) (by decide) (congrArg (fun r => va_rf (h_rf base r)) (r23_0 hF)) ?_
      refine xw_iloadn (aX11_load 13 rfl) rfl ?_
      refine xw_lloadn (aX11_load 14 rfl) rfl ?_
      refine hv_last (k := (a1).toNatClampNeg) (aX11_load 15 rfl) (c24 hS) (s24 hS) (h_in rfl (by omega) (by omega)) rfl (fun FL4 u5 => ?_)
      refine hw_ic (v := (1 : Int32)) (aX11_load 16 rfl) (by decide) ?_
      refine xw_iret (aX11_load 17 rfl) rfl (by decide) ?_
      have e6 : ((1 : Int32)).toInt = 1 := (by decide : (1 : Int32).toInt = 1)
      exact ⟨(1 : Int32), rfl, FL4, rfl, (gf_a gf_rf u5 (by decide)), (by have : ((1 : Int32)).toInt = 1 := (by decide); omega), (by have : ((1 : Int32)).toInt = 1 := (by decide); omega), (by have : ((1 : Int32)).toInt = 1 := (by decide); omega)⟩
    · refine hw_ic (v := (0 : Int32)) (aX11_load 8 rfl) (by decide) ?_
      refine xw_iret (aX11_load 9 rfl) rfl (by decide) ?_
      have e7 : ((0 : Int32)).toInt = 0 := (by decide : (0 : Int32).toInt = 0)
      exact ⟨(0 : Int32), rfl, FL, rfl, gf_rf, (by have : ((0 : Int32)).toInt = 0 := (by decide); omega), (by have : ((0 : Int32)).toInt = 0 := (by decide); omega), (by have : ((0 : Int32)).toInt = 0 := (by decide); omega)⟩
set_option maxHeartbeats 4000000 in
set_option maxRecDepth 100000 in
theorem k_modelLoad {sk : xK} {base d n sl : Nat} {SH : Nat → Nat × Nat} {FI : Nat → Nat → Int32} {FL : Nat → Nat → Int64} {FR : Nat → Nat → Option Nat} (hS : h_S n SH) (hF : h_FR FR) (hI : g_I FI) (hR : g_R n SH FR) (a1 : Int32) (a2 : Int64) : hw sk base d none 159 0 [(0, .ref (base + 121)), (1, .int (a1)), (2, .long (a2))] [] (n, sl, SH, FI, FL, FR) (h_I (fun r s => ∃ FI' FL', s = (n, sl, SH, FI', FL', FR) ∧ g_I FI' ∧ g_fr n (shd SH) [(121, 0)] [] [] FI FI' ∧ g_fr n (shd SH) [] [122] [] FL FL' ∧ (r.toInt = 1 → (0 ≤ (a1).toInt ∧ (a1).toInt ≤ 31)) ∧ (r.toInt = 0 → ((a1).toInt < 0 ∨ 31 < (a1).toInt)) ∧ (0 ≤ r.toInt ∧ r.toInt ≤ 1))) := by
  have rg_a1 := i_rng a1
  have rg_a2 := l_rng a2
  refine hw_aloadn (aX12_load 0 rfl) rfl ?_
  refine hw_ic (v := (0 : Int32)) (aX12_load 1 rfl) (by decide) ?_
  refine hv_puti (aX12_load 2 rfl) wf_RX12_187 (c121 hS) (s121 hS) (by decide) rfl rfl (fun FI1 u2 => ?_)
  have hI3 : g_I FI1 := gU_F hI u2 rfl
  refine xw_iloadn (aX12_load 3 rfl) rfl ?_
  refine hw_iflt (tgt := 15) (aX12_load 4 rfl) (by decide) rfl (fun cd4 => ?_) (fun cd4 => ?_)
  · refine hw_ic (v := (0 : Int32)) (aX12_load 8 rfl) (by decide) ?_
    refine xw_iret (aX12_load 9 rfl) rfl (by decide) ?_
    have e5 : ((0 : Int32)).toInt = 0 := (by decide : (0 : Int32).toInt = 0)
    exact ⟨(0 : Int32), rfl, FI1, FL, rfl, hI3, (gf_f gf_rf u2 (by decide)), gf_rf, (by have : ((0 : Int32)).toInt = 0 := (by decide); omega), (by have : ((0 : Int32)).toInt = 0 := (by decide); omega), (by have : ((0 : Int32)).toInt = 0 := (by decide); omega)⟩
  · refine xw_iloadn (aX12_load 5 rfl) rfl ?_
    refine hw_bp (v := (31 : Int32)) (aX12_load 6 rfl) (by decide) ?_
    refine hw_icle (tgt := 17) (aX12_load 7 rfl) (by decide) rfl (by decide : (31 : Int32).toInt = 31) (fun cd6 => ?_) (fun cd6 => ?_)
    · refine hw_aloadn (aX12_load 10 rfl) rfl ?_
      refine hw_get (v := .ref (base + 122)) (aX12_load 11 rfl) wf_RX12_7 (c121 hS) (s121 hS) (by decide) (congrArg (fun r => va_rf (h_rf base r)) (r121_1 hF)) ?_
      refine xw_iloadn (aX12_load 12 rfl) rfl ?_
      refine xw_lloadn (aX12_load 13 rfl) rfl ?_
      refine hv_last (k := (a1).toNatClampNeg) (aX12_load 14 rfl) (c122 hS) (s122 hS) (h_in rfl (by omega) (by omega)) rfl (fun FL7 u8 => ?_)
      refine hw_ic (v := (1 : Int32)) (aX12_load 15 rfl) (by decide) ?_
      refine xw_iret (aX12_load 16 rfl) rfl (by decide) ?_
      have e9 : ((1 : Int32)).toInt = 1 := (by decide : (1 : Int32).toInt = 1)
      exact ⟨(1 : Int32), rfl, FI1, FL7, rfl, hI3, (gf_f gf_rf u2 (by decide)), (gf_a gf_rf u8 (by decide)), (by have : ((1 : Int32)).toInt = 1 := (by decide); omega), (by have : ((1 : Int32)).toInt = 1 := (by decide); omega), (by have : ((1 : Int32)).toInt = 1 := (by decide); omega)⟩
    · refine hw_ic (v := (0 : Int32)) (aX12_load 8 rfl) (by decide) ?_
      refine xw_iret (aX12_load 9 rfl) rfl (by decide) ?_
      have e10 : ((0 : Int32)).toInt = 0 := (by decide : (0 : Int32).toInt = 0)
      exact ⟨(0 : Int32), rfl, FI1, FL, rfl, hI3, (gf_f gf_rf u2 (by decide)), gf_rf, (by have : ((0 : Int32)).toInt = 0 := (by decide); omega), (by have : ((0 : Int32)).toInt = 0 := (by decide); omega), (by have : ((0 : Int32)).toInt = 0 := (by decide); omega)⟩
set_option maxHeartbeats 4000000 in
set_option maxRecDepth 100000 in
theorem k_poke2 {sk : xK} {base d n sl : Nat} {SH : Nat → Nat × Nat} {FI : Nat → Nat → Int32} {FL : Nat → Nat → Int64} {FR : Nat → Nat → Option Nat} (hS : h_S n SH) (hF : h_FR FR) (hI : g_I FI) (hR : g_R n SH FR) (a1 : Int32) (a2 : Int32) : hw sk base d none 126 0 [(0, .ref (base + 0)), (1, .int (a1)), (2, .int (a2))] [] (n, sl, SH, FI, FL, FR) (h_I (fun r s => ∃ FI', s = (n, sl, SH, FI', FL, FR) ∧ g_I FI' ∧ g_fr n (shd SH) [] [25] [] FI FI' ∧ (r.toInt = 1 → (0 ≤ (a1).toInt ∧ (a1).toInt ≤ 4095)) ∧ (r.toInt = 0 → ((a1).toInt < 0 ∨ 4095 < (a1).toInt)) ∧ (0 ≤ r.toInt ∧ r.toInt ≤ 1))) := by
  have rg_a1 := i_rng a1
  have rg_a2 := i_rng a2
  refine xw_iloadn (aX11_poke 0 rfl) rfl ?_
  refine hw_iflt (tgt := 16) (aX11_poke 1 rfl) (by decide) rfl (fun cd1 => ?_) (fun cd1 => ?_)
  · refine hw_ic (v := (0 : Int32)) (aX11_poke 8 rfl) (by decide) ?_
    refine xw_iret (aX11_poke 9 rfl) rfl (by decide) ?_
    have e2 : ((0 : Int32)).toInt = 0 := (by decide : (0 : Int32).toInt = 0)
    exact ⟨(0 : Int32), rfl, FI, rfl, hI, gf_rf, (by have : ((0 : Int32)).toInt = 0 := (by decide); omega), (by have : ((0 : Int32)).toInt = 0 := (by decide); omega), (by have : ((0 : Int32)).toInt = 0 := (by decide); omega)⟩
  · refine xw_iloadn (aX11_poke 2 rfl) rfl ?_
    refine hw_aloadn (aX11_poke 3 rfl) rfl ?_
    refine hw_get (v := .ref (base + 23)) (aX11_poke 4 rfl) wf_RX11_35 (c0 hS) (s0 hS) (by decide) (congrArg (fun r => va_rf (h_rf base r)) (r0_0 hF)) ?_
    refine hw_get (v := .ref (base + 25)) (aX11_poke 5 rfl) wf_RX11_102 (c23 hS) (s23 hS) (by decide) (congrArg (fun r => va_rf (h_rf base r)) (r23_1 hF)) ?_
    refine hw_alen (k := 0) (z := 4096) (v := (4096 : Int32)) (aX11_poke 6 rfl) (c25 hS) (s25 hS) (by decide) (by decide) ?_
    refine hw_iclt (tgt := 18) (aX11_poke 7 rfl) (by decide) rfl (by decide : (4096 : Int32).toInt = 4096) (fun cd3 => ?_) (fun cd3 => ?_)
    · refine hw_aloadn (aX11_poke 10 rfl) rfl ?_
      refine hw_get (v := .ref (base + 23)) (aX11_poke 11 rfl) wf_RX11_35 (c0 hS) (s0 hS) (by decide) (congrArg (fun r => va_rf (h_rf base r)) (r0_0 hF)) ?_
      refine hw_get (v := .ref (base + 25)) (aX11_poke 12 rfl) wf_RX11_102 (c23 hS) (s23 hS) (by decide) (congrArg (fun r => va_rf (h_rf base r)) (r23_1 hF)) ?_
      refine xw_iloadn (aX11_poke 13 rfl) rfl ?_
      refine xw_iloadn (aX11_poke 14 rfl) rfl ?_
      refine hw_sp (v := (255 : Int32)) (aX11_poke 15 rfl) (by decide) ?_
      refine xw_iand (aX11_poke 16 rfl) ?_
      refine hw_tib (lo := 0) (hi := 255) (i_and (x := a2) (m := (255 : Int32)) (M := 255) (by decide) (by decide)) (fun x4 b5 => ?_)
      refine hv_iast (k := (a1).toNatClampNeg) (aX11_poke 17 rfl) (c25 hS) (s25 hS) (h_in rfl (by omega) (by omega)) rfl (fun FI6 u7 => ?_)
      have hI8 : g_I FI6 := gU_F hI u7 rfl
      refine hw_ic (v := (1 : Int32)) (aX11_poke 18 rfl) (by decide) ?_
      refine xw_iret (aX11_poke 19 rfl) rfl (by decide) ?_
      have e9 : ((1 : Int32)).toInt = 1 := (by decide : (1 : Int32).toInt = 1)
      exact ⟨(1 : Int32), rfl, FI6, rfl, hI8, (gf_a gf_rf u7 (by decide)), (by have : ((1 : Int32)).toInt = 1 := (by decide); omega), (by have : ((1 : Int32)).toInt = 1 := (by decide); omega), (by have : ((1 : Int32)).toInt = 1 := (by decide); omega)⟩
    · refine hw_ic (v := (0 : Int32)) (aX11_poke 8 rfl) (by decide) ?_
      refine xw_iret (aX11_poke 9 rfl) rfl (by decide) ?_
      have e10 : ((0 : Int32)).toInt = 0 := (by decide : (0 : Int32).toInt = 0)
      exact ⟨(0 : Int32), rfl, FI, rfl, hI, gf_rf, (by have : ((0 : Int32)).toInt = 0 := (by decide); omega), (by have : ((0 : Int32)).toInt = 0 := (by decide); omega), (by have : ((0 : Int32)).toInt = 0 := (by decide); omega)⟩
set_option maxHeartbeats 4000000 in
set_option maxRecDepth 100000 in
theorem k_modelPoke {sk : xK} {base d n sl : Nat} {SH : Nat → Nat × Nat} {FI : Nat → Nat → Int32} {FL : Nat → Nat → Int64} {FR : Nat → Nat → Option Nat} (hS : h_S n SH) (hF : h_FR FR) (hI : g_I FI) (hR : g_R n SH FR) (a1 : Int32) (a2 : Int32) : hw sk base d none 161 0 [(0, .ref (base + 121)), (1, .int (a1)), (2, .int (a2))] [] (n, sl, SH, FI, FL, FR) (h_I (fun r s => ∃ FI', s = (n, sl, SH, FI', FL, FR) ∧ g_I FI' ∧ g_fr n (shd SH) [(121, 0)] [123] [] FI FI' ∧ (r.toInt = 1 → (0 ≤ (a1).toInt ∧ (a1).toInt ≤ 4095)) ∧ (r.toInt = 0 → ((a1).toInt < 0 ∨ 4095 < (a1).toInt)) ∧ (0 ≤ r.toInt ∧ r.toInt ≤ 1))) := by
  have rg_a1 := i_rng a1
  have rg_a2 := i_rng a2
  refine hw_aloadn (aX12_poke 0 rfl) rfl ?_
  refine hw_ic (v := (0 : Int32)) (aX12_poke 1 rfl) (by decide) ?_
  refine hv_puti (aX12_poke 2 rfl) wf_RX12_187 (c121 hS) (s121 hS) (by decide) rfl rfl (fun FI1 u2 => ?_)
  have hI3 : g_I FI1 := gU_F hI u2 rfl
  refine xw_iloadn (aX12_poke 3 rfl) rfl ?_
  refine hw_iflt (tgt := 16) (aX12_poke 4 rfl) (by decide) rfl (fun cd4 => ?_) (fun cd4 => ?_)
  · refine hw_ic (v := (0 : Int32)) (aX12_poke 8 rfl) (by decide) ?_
    refine xw_iret (aX12_poke 9 rfl) rfl (by decide) ?_
    have e5 : ((0 : Int32)).toInt = 0 := (by decide : (0 : Int32).toInt = 0)
    exact ⟨(0 : Int32), rfl, FI1, rfl, hI3, (gf_f gf_rf u2 (by decide)), (by have : ((0 : Int32)).toInt = 0 := (by decide); omega), (by have : ((0 : Int32)).toInt = 0 := (by decide); omega), (by have : ((0 : Int32)).toInt = 0 := (by decide); omega)⟩
  · refine xw_iloadn (aX12_poke 5 rfl) rfl ?_
    refine hw_sp (v := (4095 : Int32)) (aX12_poke 6 rfl) (by decide) ?_
    refine hw_icle (tgt := 18) (aX12_poke 7 rfl) (by decide) rfl (by decide : (4095 : Int32).toInt = 4095) (fun cd6 => ?_) (fun cd6 => ?_)
    · refine hw_aloadn (aX12_poke 10 rfl) rfl ?_
      refine hw_get (v := .ref (base + 123)) (aX12_poke 11 rfl) wf_RX12_13 (c121 hS) (s121 hS) (by decide) (congrArg (fun r => va_rf (h_rf base r)) (r121_2 hF)) ?_
      refine xw_iloadn (aX12_poke 12 rfl) rfl ?_
      refine xw_iloadn (aX12_poke 13 rfl) rfl ?_
      refine hw_sp (v := (255 : Int32)) (aX12_poke 14 rfl) (by decide) ?_
      refine xw_iand (aX12_poke 15 rfl) ?_
      refine hw_tib (lo := 0) (hi := 255) (i_and (x := a2) (m := (255 : Int32)) (M := 255) (by decide) (by decide)) (fun x7 b8 => ?_)
      refine hv_iast (k := (a1).toNatClampNeg) (aX12_poke 16 rfl) (c123 hS) (s123 hS) (h_in rfl (by omega) (by omega)) rfl (fun FI9 u10 => ?_)
      have hI11 : g_I FI9 := gU_F hI3 u10 rfl
      refine hw_ic (v := (1 : Int32)) (aX12_poke 17 rfl) (by decide) ?_
      refine xw_iret (aX12_poke 18 rfl) rfl (by decide) ?_
      have e12 : ((1 : Int32)).toInt = 1 := (by decide : (1 : Int32).toInt = 1)
      exact ⟨(1 : Int32), rfl, FI9, rfl, hI11, (gf_a (gf_f gf_rf u2 (by decide)) u10 (by decide)), (by have : ((1 : Int32)).toInt = 1 := (by decide); omega), (by have : ((1 : Int32)).toInt = 1 := (by decide); omega), (by have : ((1 : Int32)).toInt = 1 := (by decide); omega)⟩
    · refine hw_ic (v := (0 : Int32)) (aX12_poke 8 rfl) (by decide) ?_
      refine xw_iret (aX12_poke 9 rfl) rfl (by decide) ?_
      have e13 : ((0 : Int32)).toInt = 0 := (by decide : (0 : Int32).toInt = 0)
      exact ⟨(0 : Int32), rfl, FI1, rfl, hI3, (gf_f gf_rf u2 (by decide)), (by have : ((0 : Int32)).toInt = 0 := (by decide); omega), (by have : ((0 : Int32)).toInt = 0 := (by decide); omega), (by have : ((0 : Int32)).toInt = 0 := (by decide); omega)⟩
set_option maxHeartbeats 4000000 in
set_option maxRecDepth 100000 in
theorem k_cfa2 {sk : xK} {base d n sl : Nat} {SH : Nat → Nat × Nat} {FI : Nat → Nat → Int32} {FL : Nat → Nat → Int64} {FR : Nat → Nat → Option Nat} (hS : h_S n SH) (hF : h_FR FR) (hI : g_I FI) (hR : g_R n SH FR) (a1 : Int32) (a2 : Int64) : hw sk base d none 129 0 [(0, .ref (base + 0)), (1, .int (a1)), (2, .long (a2))] [] (n, sl, SH, FI, FL, FR) (h_I (fun r s => ∃ FI' FL', s = (n, sl, SH, FI', FL', FR) ∧ g_I FI' ∧ g_fr n (shd SH) [(23, 5)] [] [] FI FI' ∧ g_fr n (shd SH) [(23, 6)] [] [] FL FL' ∧ (r.toInt = 1 → (-1 ≤ (a1).toInt ∧ (a1).toInt ≤ 31)) ∧ (r.toInt = 0 → ((a1).toInt < -1 ∨ 31 < (a1).toInt)) ∧ (0 ≤ r.toInt ∧ r.toInt ≤ 1))) := by
  have rg_a1 := i_rng a1
  have rg_a2 := l_rng a2
  refine xw_iloadn (aX11_cfa 0 rfl) rfl ?_
  refine hw_ic (v := ((-1) : Int32)) (aX11_cfa 1 rfl) (by decide) ?_
  refine hw_iclt (tgt := 17) (aX11_cfa 2 rfl) (by decide) rfl (by decide : ((-1) : Int32).toInt = (-1)) (fun cd1 => ?_) (fun cd1 => ?_)
  · refine hw_ic (v := (0 : Int32)) (aX11_cfa 9 rfl) (by decide) ?_
    refine xw_iret (aX11_cfa 10 rfl) rfl (by decide) ?_
    have e2 : ((0 : Int32)).toInt = 0 := (by decide : (0 : Int32).toInt = 0)
    exact ⟨(0 : Int32), rfl, FI, FL, rfl, hI, gf_rf, gf_rf, (by have : ((0 : Int32)).toInt = 0 := (by decide); omega), (by have : ((0 : Int32)).toInt = 0 := (by decide); omega), (by have : ((0 : Int32)).toInt = 0 := (by decide); omega)⟩
  · refine xw_iloadn (aX11_cfa 3 rfl) rfl ?_
    refine hw_aloadn (aX11_cfa 4 rfl) rfl ?_
    refine hw_get (v := .ref (base + 23)) (aX11_cfa 5 rfl) wf_RX11_35 (c0 hS) (s0 hS) (by decide) (congrArg (fun r => va_rf (h_rf base r)) (r0_0 hF)) ?_
    refine hw_get (v := .ref (base + 24)) (aX11_cfa 6 rfl) wf_RX11_94 (c23 hS) (s23 hS) (by decide) (congrArg (fun r => va_rf (h_rf base r)) (r23_0 hF)) ?_
    refine hw_alen (k := 1) (z := 32) (v := (32 : Int32)) (aX11_cfa 7 rfl) (c24 hS) (s24 hS) (by decide) (by decide) ?_
    refine hw_iclt (tgt := 19) (aX11_cfa 8 rfl) (by decide) rfl (by decide : (32 : Int32).toInt = 32) (fun cd3 => ?_) (fun cd3 => ?_)
    · refine hw_aloadn (aX11_cfa 11 rfl) rfl ?_
      refine hw_get (v := .ref (base + 23)) (aX11_cfa 12 rfl) wf_RX11_35 (c0 hS) (s0 hS) (by decide) (congrArg (fun r => va_rf (h_rf base r)) (r0_0 hF)) ?_
      refine xw_iloadn (aX11_cfa 13 rfl) rfl ?_
      refine hv_puti (aX11_cfa 14 rfl) wf_RX11_108 (c23 hS) (s23 hS) (by decide) rfl rfl (fun FI4 u5 => ?_)
      have hI6 : g_I FI4 := gU_23_5 hI u5 (by omega) (by omega)
      refine hw_aloadn (aX11_cfa 15 rfl) rfl ?_
      refine hw_get (v := .ref (base + 23)) (aX11_cfa 16 rfl) wf_RX11_35 (c0 hS) (s0 hS) (by decide) (congrArg (fun r => va_rf (h_rf base r)) (r0_0 hF)) ?_
      refine xw_lloadn (aX11_cfa 17 rfl) rfl ?_
      refine hv_putl (aX11_cfa 18 rfl) wf_RX11_111 (c23 hS) (s23 hS) (by decide) rfl rfl (fun FL7 u8 => ?_)
      refine hw_ic (v := (1 : Int32)) (aX11_cfa 19 rfl) (by decide) ?_
      refine xw_iret (aX11_cfa 20 rfl) rfl (by decide) ?_
      have e9 : ((1 : Int32)).toInt = 1 := (by decide : (1 : Int32).toInt = 1)
      exact ⟨(1 : Int32), rfl, FI4, FL7, rfl, hI6, (gf_f gf_rf u5 (by decide)), (gf_f gf_rf u8 (by decide)), (by have : ((1 : Int32)).toInt = 1 := (by decide); omega), (by have : ((1 : Int32)).toInt = 1 := (by decide); omega), (by have : ((1 : Int32)).toInt = 1 := (by decide); omega)⟩
    · refine hw_ic (v := (0 : Int32)) (aX11_cfa 9 rfl) (by decide) ?_
      refine xw_iret (aX11_cfa 10 rfl) rfl (by decide) ?_
      have e10 : ((0 : Int32)).toInt = 0 := (by decide : (0 : Int32).toInt = 0)
      exact ⟨(0 : Int32), rfl, FI, FL, rfl, hI, gf_rf, gf_rf, (by have : ((0 : Int32)).toInt = 0 := (by decide); omega), (by have : ((0 : Int32)).toInt = 0 := (by decide); omega), (by have : ((0 : Int32)).toInt = 0 := (by decide); omega)⟩
set_option maxHeartbeats 4000000 in
set_option maxRecDepth 100000 in
theorem k_modelCfa {sk : xK} {base d n sl : Nat} {SH : Nat → Nat × Nat} {FI : Nat → Nat → Int32} {FL : Nat → Nat → Int64} {FR : Nat → Nat → Option Nat} (hS : h_S n SH) (hF : h_FR FR) (hI : g_I FI) (hR : g_R n SH FR) (a1 : Int32) (a2 : Int64) : hw sk base d none 164 0 [(0, .ref (base + 121)), (1, .int (a1)), (2, .long (a2))] [] (n, sl, SH, FI, FL, FR) (h_I (fun r s => ∃ FI' FL', s = (n, sl, SH, FI', FL', FR) ∧ g_I FI' ∧ g_fr n (shd SH) [(121, 0), (121, 6)] [] [] FI FI' ∧ g_fr n (shd SH) [(121, 7)] [] [] FL FL' ∧ (r.toInt = 1 → (-1 ≤ (a1).toInt ∧ (a1).toInt ≤ 31)) ∧ (r.toInt = 0 → ((a1).toInt < -1 ∨ 31 < (a1).toInt)) ∧ (0 ≤ r.toInt ∧ r.toInt ≤ 1))) := by
  have rg_a1 := i_rng a1
  have rg_a2 := l_rng a2
  refine hw_aloadn (aX12_cfa 0 rfl) rfl ?_
  refine hw_ic (v := (0 : Int32)) (aX12_cfa 1 rfl) (by decide) ?_
  refine hv_puti (aX12_cfa 2 rfl) wf_RX12_187 (c121 hS) (s121 hS) (by decide) rfl rfl (fun FI1 u2 => ?_)
  have hI3 : g_I FI1 := gU_F hI u2 rfl
  refine xw_iloadn (aX12_cfa 3 rfl) rfl ?_
  refine hw_ic (v := ((-1) : Int32)) (aX12_cfa 4 rfl) (by decide) ?_
  refine hw_iclt (tgt := 16) (aX12_cfa 5 rfl) (by decide) rfl (by decide : ((-1) : Int32).toInt = (-1)) (fun cd4 => ?_) (fun cd4 => ?_)
  · refine hw_ic (v := (0 : Int32)) (aX12_cfa 9 rfl) (by decide) ?_
    refine xw_iret (aX12_cfa 10 rfl) rfl (by decide) ?_
    have e5 : ((0 : Int32)).toInt = 0 := (by decide : (0 : Int32).toInt = 0)
    exact ⟨(0 : Int32), rfl, FI1, FL, rfl, hI3, (gf_f gf_rf u2 (by decide)), gf_rf, (by have : ((0 : Int32)).toInt = 0 := (by decide); omega), (by have : ((0 : Int32)).toInt = 0 := (by decide); omega), (by have : ((0 : Int32)).toInt = 0 := (by decide); omega)⟩
  · refine xw_iloadn (aX12_cfa 6 rfl) rfl ?_
    refine hw_bp (v := (31 : Int32)) (aX12_cfa 7 rfl) (by decide) ?_
    refine hw_icle (tgt := 18) (aX12_cfa 8 rfl) (by decide) rfl (by decide : (31 : Int32).toInt = 31) (fun cd6 => ?_) (fun cd6 => ?_)
    · refine hw_aloadn (aX12_cfa 11 rfl) rfl ?_
      refine xw_iloadn (aX12_cfa 12 rfl) rfl ?_
      refine hv_puti (aX12_cfa 13 rfl) wf_RX12_27 (c121 hS) (s121 hS) (by decide) rfl rfl (fun FI7 u8 => ?_)
      have hI9 : g_I FI7 := gU_121_6 hI3 u8 (by omega) (by omega)
      refine hw_aloadn (aX12_cfa 14 rfl) rfl ?_
      refine xw_lloadn (aX12_cfa 15 rfl) rfl ?_
      refine hv_putl (aX12_cfa 16 rfl) wf_RX12_201 (c121 hS) (s121 hS) (by decide) rfl rfl (fun FL10 u11 => ?_)
      refine hw_ic (v := (1 : Int32)) (aX12_cfa 17 rfl) (by decide) ?_
      refine xw_iret (aX12_cfa 18 rfl) rfl (by decide) ?_
      have e12 : ((1 : Int32)).toInt = 1 := (by decide : (1 : Int32).toInt = 1)
      exact ⟨(1 : Int32), rfl, FI7, FL10, rfl, hI9, (gf_f (gf_f gf_rf u2 (by decide)) u8 (by decide)), (gf_f gf_rf u11 (by decide)), (by have : ((1 : Int32)).toInt = 1 := (by decide); omega), (by have : ((1 : Int32)).toInt = 1 := (by decide); omega), (by have : ((1 : Int32)).toInt = 1 := (by decide); omega)⟩
    · refine hw_ic (v := (0 : Int32)) (aX12_cfa 9 rfl) (by decide) ?_
      refine xw_iret (aX12_cfa 10 rfl) rfl (by decide) ?_
      have e13 : ((0 : Int32)).toInt = 0 := (by decide : (0 : Int32).toInt = 0)
      exact ⟨(0 : Int32), rfl, FI1, FL, rfl, hI3, (gf_f gf_rf u2 (by decide)), gf_rf, (by have : ((0 : Int32)).toInt = 0 := (by decide); omega), (by have : ((0 : Int32)).toInt = 0 := (by decide); omega), (by have : ((0 : Int32)).toInt = 0 := (by decide); omega)⟩
set_option maxHeartbeats 4000000 in
set_option maxRecDepth 100000 in
theorem k_set2 {sk : xK} {base d n sl : Nat} {SH : Nat → Nat × Nat} {FI : Nat → Nat → Int32} {FL : Nat → Nat → Int64} {FR : Nat → Nat → Option Nat} (hS : h_S n SH) (hF : h_FR FR) (hI : g_I FI) (hR : g_R n SH FR) (a1 : Int32) (a2 : Int64) (a3 : Int32) (g0 : 0 ≤ (a3).toInt ∧ (a3).toInt ≤ 1) : hw sk base d none 130 0 [(0, .ref (base + 0)), (1, .int (a1)), (2, .long (a2)), (4, .int (a3))] [] (n, sl, SH, FI, FL, FR) (h_I (fun r s => ∃ FI' FL', s = (n, sl, SH, FI', FL', FR) ∧ g_I FI' ∧ g_fr n (shd SH) [(23, 7), (23, 9)] [] [] FI FI' ∧ g_fr n (shd SH) [(23, 8), (23, 10)] [] [] FL FL' ∧ (r.toInt = 1 → (0 ≤ (a1).toInt ∧ (a1).toInt ≤ 1)) ∧ (r.toInt = 0 → ((a1).toInt < 0 ∨ 1 < (a1).toInt)) ∧ (0 ≤ r.toInt ∧ r.toInt ≤ 1))) := by
  have rg_a1 := i_rng a1
  have rg_a2 := l_rng a2
  have rg_a3 := i_rng a3
  refine xw_iloadn (aX11_set 0 rfl) rfl ?_
  refine hw_ifne (tgt := 23) (aX11_set 1 rfl) (by decide) rfl (fun cd1 => ?_) (fun cd1 => ?_)
  · refine xw_iloadn (aX11_set 12 rfl) rfl ?_
    refine hw_ic (v := (1 : Int32)) (aX11_set 13 rfl) (by decide) ?_
    refine hw_icne (tgt := 47) (aX11_set 14 rfl) (by decide) rfl (by decide : (1 : Int32).toInt = 1) (fun cd2 => ?_) (fun cd2 => ?_)
    · refine hw_ic (v := (0 : Int32)) (aX11_set 25 rfl) (by decide) ?_
      refine xw_iret (aX11_set 26 rfl) rfl (by decide) ?_
      have e3 : ((0 : Int32)).toInt = 0 := (by decide : (0 : Int32).toInt = 0)
      exact ⟨(0 : Int32), rfl, FI, FL, rfl, hI, gf_rf, gf_rf, (by have : ((0 : Int32)).toInt = 0 := (by decide); omega), (by have : ((0 : Int32)).toInt = 0 := (by decide); omega), (by have : ((0 : Int32)).toInt = 0 := (by decide); omega)⟩
    · refine hw_aloadn (aX11_set 15 rfl) rfl ?_
      refine hw_get (v := .ref (base + 23)) (aX11_set 16 rfl) wf_RX11_35 (c0 hS) (s0 hS) (by decide) (congrArg (fun r => va_rf (h_rf base r)) (r0_0 hF)) ?_
      refine xw_lloadn (aX11_set 17 rfl) rfl ?_
      refine hv_putl (aX11_set 18 rfl) wf_RX11_122 (c23 hS) (s23 hS) (by decide) rfl rfl (fun FL4 u5 => ?_)
      refine hw_aloadn (aX11_set 19 rfl) rfl ?_
      refine hw_get (v := .ref (base + 23)) (aX11_set 20 rfl) wf_RX11_35 (c0 hS) (s0 hS) (by decide) (congrArg (fun r => va_rf (h_rf base r)) (r0_0 hF)) ?_
      refine xw_iload (aX11_set 21 rfl) rfl ?_
      refine hv_putz (aX11_set 22 rfl) wf_RX11_125 (c23 hS) (s23 hS) (by decide) rfl rfl (i_01 rfl (by omega) (by omega)) (fun FI6 u7 => ?_)
      have hI8 : g_I FI6 := gU_23_9 hI u7 (by omega) (by omega)
      refine hw_ic (v := (1 : Int32)) (aX11_set 23 rfl) (by decide) ?_
      refine xw_iret (aX11_set 24 rfl) rfl (by decide) ?_
      have e9 : ((1 : Int32)).toInt = 1 := (by decide : (1 : Int32).toInt = 1)
      exact ⟨(1 : Int32), rfl, FI6, FL4, rfl, hI8, (gf_f gf_rf u7 (by decide)), (gf_f gf_rf u5 (by decide)), (by have : ((1 : Int32)).toInt = 1 := (by decide); omega), (by have : ((1 : Int32)).toInt = 1 := (by decide); omega), (by have : ((1 : Int32)).toInt = 1 := (by decide); omega)⟩
  · refine hw_aloadn (aX11_set 2 rfl) rfl ?_
    refine hw_get (v := .ref (base + 23)) (aX11_set 3 rfl) wf_RX11_35 (c0 hS) (s0 hS) (by decide) (congrArg (fun r => va_rf (h_rf base r)) (r0_0 hF)) ?_
    refine xw_lloadn (aX11_set 4 rfl) rfl ?_
    refine hv_putl (aX11_set 5 rfl) wf_RX11_115 (c23 hS) (s23 hS) (by decide) rfl rfl (fun FL10 u11 => ?_)
    refine hw_aloadn (aX11_set 6 rfl) rfl ?_
    refine hw_get (v := .ref (base + 23)) (aX11_set 7 rfl) wf_RX11_35 (c0 hS) (s0 hS) (by decide) (congrArg (fun r => va_rf (h_rf base r)) (r0_0 hF)) ?_
    refine xw_iload (aX11_set 8 rfl) rfl ?_
    refine hv_putz (aX11_set 9 rfl) wf_RX11_118 (c23 hS) (s23 hS) (by decide) rfl rfl (i_01 rfl (by omega) (by omega)) (fun FI12 u13 => ?_)
    have hI14 : g_I FI12 := gU_23_7 hI u13 (by omega) (by omega)
    refine hw_ic (v := (1 : Int32)) (aX11_set 10 rfl) (by decide) ?_
    refine xw_iret (aX11_set 11 rfl) rfl (by decide) ?_
    have e15 : ((1 : Int32)).toInt = 1 := (by decide : (1 : Int32).toInt = 1)
    exact ⟨(1 : Int32), rfl, FI12, FL10, rfl, hI14, (gf_f gf_rf u13 (by decide)), (gf_f gf_rf u11 (by decide)), (by have : ((1 : Int32)).toInt = 1 := (by decide); omega), (by have : ((1 : Int32)).toInt = 1 := (by decide); omega), (by have : ((1 : Int32)).toInt = 1 := (by decide); omega)⟩
set_option maxHeartbeats 4000000 in
set_option maxRecDepth 100000 in
theorem k_modelSet {sk : xK} {base d n sl : Nat} {SH : Nat → Nat × Nat} {FI : Nat → Nat → Int32} {FL : Nat → Nat → Int64} {FR : Nat → Nat → Option Nat} (hS : h_S n SH) (hF : h_FR FR) (hI : g_I FI) (hR : g_R n SH FR) (a1 : Int32) (a2 : Int64) (a3 : Int32) (g0 : 0 ≤ (a3).toInt ∧ (a3).toInt ≤ 1) : hw sk base d none 165 0 [(0, .ref (base + 121)), (1, .int (a1)), (2, .long (a2)), (4, .int (a3))] [] (n, sl, SH, FI, FL, FR) (h_I (fun r s => ∃ FI' FL', s = (n, sl, SH, FI', FL', FR) ∧ g_I FI' ∧ g_fr n (shd SH) [(121, 0), (121, 10), (121, 11)] [] [] FI FI' ∧ g_fr n (shd SH) [(121, 8), (121, 9)] [] [] FL FL' ∧ (r.toInt = 1 → (0 ≤ (a1).toInt ∧ (a1).toInt ≤ 1)) ∧ (r.toInt = 0 → ((a1).toInt < 0 ∨ 1 < (a1).toInt)) ∧ (0 ≤ r.toInt ∧ r.toInt ≤ 1))) := by
  have rg_a1 := i_rng a1
  have rg_a2 := l_rng a2
  have rg_a3 := i_rng a3
  refine hw_aloadn (aX12_set 0 rfl) rfl ?_
  refine hw_ic (v := (0 : Int32)) (aX12_set 1 rfl) (by decide) ?_
  refine hv_puti (aX12_set 2 rfl) wf_RX12_187 (c121 hS) (s121 hS) (by decide) rfl rfl (fun FI1 u2 => ?_)
  have hI3 : g_I FI1 := gU_F hI u2 rfl
  refine xw_iloadn (aX12_set 3 rfl) rfl ?_
  refine hw_iflt (tgt := 14) (aX12_set 4 rfl) (by decide) rfl (fun cd4 => ?_) (fun cd4 => ?_)
  · refine hw_ic (v := (0 : Int32)) (aX12_set 8 rfl) (by decide) ?_
    refine xw_iret (aX12_set 9 rfl) rfl (by decide) ?_
    have e5 : ((0 : Int32)).toInt = 0 := (by decide : (0 : Int32).toInt = 0)
    exact ⟨(0 : Int32), rfl, FI1, FL, rfl, hI3, (gf_f gf_rf u2 (by decide)), gf_rf, (by have : ((0 : Int32)).toInt = 0 := (by decide); omega), (by have : ((0 : Int32)).toInt = 0 := (by decide); omega), (by have : ((0 : Int32)).toInt = 0 := (by decide); omega)⟩
  · refine xw_iloadn (aX12_set 5 rfl) rfl ?_
    refine hw_ic (v := (1 : Int32)) (aX12_set 6 rfl) (by decide) ?_
    refine hw_icle (tgt := 16) (aX12_set 7 rfl) (by decide) rfl (by decide : (1 : Int32).toInt = 1) (fun cd6 => ?_) (fun cd6 => ?_)
    · refine xw_iloadn (aX12_set 10 rfl) rfl ?_
      refine hw_ifne (tgt := 34) (aX12_set 11 rfl) (by decide) rfl (fun cd7 => ?_) (fun cd7 => ?_)
      · refine hw_aloadn (aX12_set 19 rfl) rfl ?_
        refine xw_lloadn (aX12_set 20 rfl) rfl ?_
        refine hv_putl (aX12_set 21 rfl) wf_RX12_212 (c121 hS) (s121 hS) (by decide) rfl rfl (fun FL8 u9 => ?_)
        refine hw_aloadn (aX12_set 22 rfl) rfl ?_
        refine xw_iload (aX12_set 23 rfl) rfl ?_
        refine hv_putz (aX12_set 24 rfl) wf_RX12_215 (c121 hS) (s121 hS) (by decide) rfl rfl (i_01 rfl (by omega) (by omega)) (fun FI10 u11 => ?_)
        have hI12 : g_I FI10 := gU_121_11 hI3 u11 (by omega) (by omega)
        refine hw_ic (v := (1 : Int32)) (aX12_set 25 rfl) (by decide) ?_
        refine xw_iret (aX12_set 26 rfl) rfl (by decide) ?_
        have e13 : ((1 : Int32)).toInt = 1 := (by decide : (1 : Int32).toInt = 1)
        exact ⟨(1 : Int32), rfl, FI10, FL8, rfl, hI12, (gf_f (gf_f gf_rf u2 (by decide)) u11 (by decide)), (gf_f gf_rf u9 (by decide)), (by have : ((1 : Int32)).toInt = 1 := (by decide); omega), (by have : ((1 : Int32)).toInt = 1 := (by decide); omega), (by have : ((1 : Int32)).toInt = 1 := (by decide); omega)⟩
      · refine hw_aloadn (aX12_set 12 rfl) rfl ?_
        refine xw_lloadn (aX12_set 13 rfl) rfl ?_
        refine hv_putl (aX12_set 14 rfl) wf_RX12_205 (c121 hS) (s121 hS) (by decide) rfl rfl (fun FL14 u15 => ?_)
        refine hw_aloadn (aX12_set 15 rfl) rfl ?_
        refine xw_iload (aX12_set 16 rfl) rfl ?_
        refine hv_putz (aX12_set 17 rfl) wf_RX12_208 (c121 hS) (s121 hS) (by decide) rfl rfl (i_01 rfl (by omega) (by omega)) (fun FI16 u17 => ?_)
        have hI18 : g_I FI16 := gU_121_10 hI3 u17 (by omega) (by omega)
        refine xw_goto (tgt := 45) (aX12_set 18 rfl) (by decide) ?_
        refine hw_ic (v := (1 : Int32)) (aX12_set 25 rfl) (by decide) ?_
        refine xw_iret (aX12_set 26 rfl) rfl (by decide) ?_
        have e19 : ((1 : Int32)).toInt = 1 := (by decide : (1 : Int32).toInt = 1)
        exact ⟨(1 : Int32), rfl, FI16, FL14, rfl, hI18, (gf_f (gf_f gf_rf u2 (by decide)) u17 (by decide)), (gf_f gf_rf u15 (by decide)), (by have : ((1 : Int32)).toInt = 1 := (by decide); omega), (by have : ((1 : Int32)).toInt = 1 := (by decide); omega), (by have : ((1 : Int32)).toInt = 1 := (by decide); omega)⟩
    · refine hw_ic (v := (0 : Int32)) (aX12_set 8 rfl) (by decide) ?_
      refine xw_iret (aX12_set 9 rfl) rfl (by decide) ?_
      have e20 : ((0 : Int32)).toInt = 0 := (by decide : (0 : Int32).toInt = 0)
      exact ⟨(0 : Int32), rfl, FI1, FL, rfl, hI3, (gf_f gf_rf u2 (by decide)), gf_rf, (by have : ((0 : Int32)).toInt = 0 := (by decide); omega), (by have : ((0 : Int32)).toInt = 0 := (by decide); omega), (by have : ((0 : Int32)).toInt = 0 := (by decide); omega)⟩
set_option maxHeartbeats 4000000 in
set_option maxRecDepth 100000 in
theorem k_tapeIntoT26 {sk : xK} {base d n sl : Nat} {SH : Nat → Nat × Nat} {FI : Nat → Nat → Int32} {FL : Nat → Nat → Int64} {FR : Nat → Nat → Option Nat} (hS : h_S n SH) (hF : h_FR FR) (hI : g_I FI) (hR : g_R n SH FR) (a2 : Int32) (gp : Nat → Nat) (gw : Nat → Nat) (gs : Nat → Nat) (gg0 : g_T n SH FI FR gp gw gs) : hw sk base (d + 2) none 123 0 [(0, .ref (base + 0)), (1, .ref (base + 26)), (2, .int (a2))] [] (n, sl, SH, FI, FL, FR) (h_I (fun r s => ∃ n' sl' SH' FI' FL' FR', s = (n', sl', SH', FI', FL', FR') ∧ g_ex n SH n' SH' ∧ h_S n' SH' ∧ g_I FI' ∧ g_fr n (shd SH) [(0, 9)] [] [] FI FI' ∧ g_fr n (shd SH) [] [] [] FL FL' ∧ g_fr n (shd SH) [] [26] [] FR FR' ∧ h_FR FR' ∧ g_R n' SH' FR' ∧ ((n' : Int) ≤ n + 1) ∧ ((sl' : Int) + (FI' 0 9).toInt ≤ sl + (FI 0 9).toInt) ∧ ((FI' 0 9).toInt ≤ (FI 0 9).toInt) ∧ (∃ gp2 gw2 gs2, g_T n' SH' FI' FR' gp2 gw2 gs2 ∧ (∀ c, c < n → gp2 c = gp c ∧ gw2 c = gw c ∧ gs2 c = gs c) ∧ True))) := by
  have rg_a2 := i_rng a2
  have hk0 : ∀ c, c < n → gp c = gp c ∧ gw c = gw c ∧ gs c = gs c := fun _ _ => ⟨rfl, rfl, rfl⟩
  obtain ⟨x1, h2⟩ : ∃ y, FI 0 9 = y := ⟨_, rfl⟩
  have h2l := congrArg Int32.toInt h2
  have b3 := gI_0_9 hI; rw [h2] at b3
  refine xw_iloadn (aX11_tapeInto 0 rfl) rfl ?_
  refine hw_iflt (tgt := 20) (aX11_tapeInto 1 rfl) (by decide) rfl (fun cd4 => ?_) (fun cd4 => ?_)
  · refine hw_ic (v := ((-1) : Int32)) (aX11_tapeInto 10 rfl) (by decide) ?_
    refine xw_iret (aX11_tapeInto 11 rfl) rfl rfl ?_
    have e5 : (((-1) : Int32)).toInt = (-1) := (by decide : ((-1) : Int32).toInt = (-1))
    exact ⟨((-1) : Int32), rfl, n, sl, SH, FI, FL, FR, rfl, ex_rf, hS, hI, gf_rf, gf_rf, gf_rf, hF, hR, (by have : (((-1) : Int32)).toInt = (-1) := (by decide); omega), (by have : (((-1) : Int32)).toInt = (-1) := (by decide); have := congrArg Int32.toInt (show FI 0 9 = x1 from h2); omega), (by have : (((-1) : Int32)).toInt = (-1) := (by decide); have := congrArg Int32.toInt (show FI 0 9 = x1 from h2); omega), (by exact ⟨gp, gw, gs, gg0, hk0, trivial⟩)⟩
  · refine xw_iloadn (aX11_tapeInto 2 rfl) rfl ?_
    refine hw_aloadn (aX11_tapeInto 3 rfl) rfl ?_
    refine hw_alen (k := 6) (z := 16) (v := (16 : Int32)) (aX11_tapeInto 4 rfl) (c26 hS) (s26 hS) (by decide) (by decide) ?_
    refine hw_icge (tgt := 20) (aX11_tapeInto 5 rfl) (by decide) rfl (by decide : (16 : Int32).toInt = 16) (fun cd6 => ?_) (fun cd6 => ?_)
    · refine hw_ic (v := ((-1) : Int32)) (aX11_tapeInto 10 rfl) (by decide) ?_
      refine xw_iret (aX11_tapeInto 11 rfl) rfl rfl ?_
      have e7 : (((-1) : Int32)).toInt = (-1) := (by decide : ((-1) : Int32).toInt = (-1))
      exact ⟨((-1) : Int32), rfl, n, sl, SH, FI, FL, FR, rfl, ex_rf, hS, hI, gf_rf, gf_rf, gf_rf, hF, hR, (by have : (((-1) : Int32)).toInt = (-1) := (by decide); omega), (by have : (((-1) : Int32)).toInt = (-1) := (by decide); have := congrArg Int32.toInt (show FI 0 9 = x1 from h2); omega), (by have : (((-1) : Int32)).toInt = (-1) := (by decide); have := congrArg Int32.toInt (show FI 0 9 = x1 from h2); omega), (by exact ⟨gp, gw, gs, gg0, hk0, trivial⟩)⟩
    · refine hw_aloadn (aX11_tapeInto 6 rfl) rfl ?_
      refine hw_get (v := .int (x1)) (aX11_tapeInto 7 rfl) wf_RX11_69 (c0 hS) (s0 hS) (by decide) (congrArg Value.int (show FI 0 9 = x1 from h2)) ?_
      refine hw_sp (v := (600 : Int32)) (aX11_tapeInto 8 rfl) (by decide) ?_
      refine hw_icle (tgt := 22) (aX11_tapeInto 9 rfl) (by decide) rfl (by decide : (600 : Int32).toInt = 600) (fun cd8 => ?_) (fun cd8 => ?_)
      · refine hw_aloadn (aX11_tapeInto 12 rfl) rfl ?_
        refine hw_get (v := .int (x1)) (aX11_tapeInto 13 rfl) wf_RX11_69 (c0 hS) (s0 hS) (by decide) (congrArg Value.int (show FI 0 9 = x1 from h2)) ?_
        refine xw_istoren (L2 := [(3, .int (x1)), (0, .ref (base + 0)), (1, .ref (base + 26)), (2, .int (a2))]) (aX11_tapeInto 14 rfl) (by decide) rfl ?_
        refine hw_aloadn (aX11_tapeInto 15 rfl) rfl ?_
        refine xw_iloadn (aX11_tapeInto 16 rfl) rfl ?_
        refine hw_aloadn (aX11_tapeInto 17 rfl) rfl ?_
        refine hw_get (v := .ref (base + 19)) (aX11_tapeInto 18 rfl) wf_RX11_16 (c0 hS) (s0 hS) (by decide) (congrArg (fun r => va_rf (h_rf base r)) (r0_6 hF)) ?_
        refine xw_iloadn (aX11_tapeInto 19 rfl) rfl ?_
        refine hw_callS (As := [.ref (base + 19), .int (x1)]) (rest := [.int (a2), .ref (base + 26)]) (aX11_tapeInto 20 rfl) wc_RX11_88 (by decide) rfl wt_yJ7_copyOf_59c91 rfl rfl (Nat.le_of_ble_eq_true rfl) (Nat.le_of_ble_eq_true rfl) (k_copyOf19 (d := d) hS hF hI hR (x1) (by omega)) (fun v9 sv10 p11 => ?_)
        obtain ⟨r12, rfl, n27, sl28, SH29, FI13, FL14, FR15, rfl, ex30, hS31, hI16, f17, f18, f19, hF20, hR21, t22, t23, u24, ht25, nn26, hfr32⟩ := p11
        obtain ⟨r33, rfl⟩ : ∃ q, r12 = some q := Option.ne_none_iff_exists'.mp nn26
        have fq34 := hfr32 r33 rfl
        have dq35 : 176 ≤ r33 := Nat.le_trans hS.1 fq34
        obtain ⟨lt37, ow38, sh39⟩ := ht25 r33 rfl
        have hT40 : g_T n27 SH29 FI13 FR15 gp gw gs := gT_ar (L := []) (A := []) (T := []) (L2 := []) (A2 := []) (T2 := []) hS hR gg0 (by omega) ex30 (by rw [show n = r33 by omega]; exact sh39) f17 f19 (by decide) (by decide)
        show hw sk base _ _ _ _ _ [.ref (base + r33), .int (a2), .ref (base + 26)] _ _
        refine hv_aastI (i2 := (a2).toNatClampNeg) (aX11_tapeInto 21 rfl) (c26 hS31) (s26 hS31) (nin_1 (i := 95) rfl rfl) lt37 sh39 (h_in rfl (by omega) (by omega)) rfl (fun FR41 u42 => ?_)
        have hT43 : g_T n27 SH29 FI13 FR41 gp gw gs := gT_wo hT40 (by rw [(s26 hS31)]; decide) (by rw [(s26 hS31)]; decide) u42
        have hF44 : h_FR FR41 := hF_ua hS31 hF20 u42 (s26 hS31) (by decide +kernel)
        have hR45 : g_R n27 SH29 FR41 := gR_up hR21 u42 (s26 hS31) (fun r e => by cases e; exact ⟨lt37, ow38, by rw [sh39]; rfl⟩) (fun h => absurd h (by have := (by decide : 26 < 176); omega)) (fun _ => by simp) (fun h => absurd h.1 (by decide))
        refine hw_aloadn (aX11_tapeInto 22 rfl) rfl ?_
        refine hw_ic (v := (0 : Int32)) (aX11_tapeInto 23 rfl) (by decide) ?_
        refine hv_puti (aX11_tapeInto 24 rfl) wf_RX11_69 (c0 hS31) (s0 hS31) (by decide) rfl rfl (fun FI46 u47 => ?_)
        have hT48 : g_T n27 SH29 FI46 FR41 gp gw gs := gT_wi hT43 (fun h => absurd h (by rw [(s0 hS31)]; decide)) u47
        have hI49 : g_I FI46 := gU_0_9 hI16 u47 (by have := ((by decide : (0 : Int32).toInt = 0) : ((0 : Int32)).toInt = 0); omega) (by have := ((by decide : (0 : Int32).toInt = 0) : ((0 : Int32)).toInt = 0); omega)
        refine xw_iloadn (aX11_tapeInto 25 rfl) rfl ?_
        refine xw_iret (aX11_tapeInto 26 rfl) rfl rfl ?_
        exact ⟨x1, rfl, n27, sl28, SH29, FI46, FL14, FR41, rfl, ex30, hS31, hI49, (gf_f (gf_tr ex_rf gf_rf f17 rfl rfl rfl) u47 (by decide)), (gf_tr ex_rf gf_rf f18 rfl rfl rfl), (gf_a (gf_tr ex_rf gf_rf f19 rfl rfl rfl) u42 (by decide)), hF44, hR45, (by omega), (by have := congrArg Int32.toInt (show FI46 0 9 = (0 : Int32) from up_eq u47); have := ((by decide : (0 : Int32).toInt = 0) : ((0 : Int32)).toInt = 0); omega), (by have := congrArg Int32.toInt (show FI46 0 9 = (0 : Int32) from up_eq u47); have := ((by decide : (0 : Int32).toInt = 0) : ((0 : Int32)).toInt = 0); omega), (by exact ⟨gp, gw, gs, hT48, hk0, trivial⟩)⟩
      · refine hw_ic (v := ((-1) : Int32)) (aX11_tapeInto 10 rfl) (by decide) ?_
        refine xw_iret (aX11_tapeInto 11 rfl) rfl rfl ?_
        have e50 : (((-1) : Int32)).toInt = (-1) := (by decide : ((-1) : Int32).toInt = (-1))
        exact ⟨((-1) : Int32), rfl, n, sl, SH, FI, FL, FR, rfl, ex_rf, hS, hI, gf_rf, gf_rf, gf_rf, hF, hR, (by have : (((-1) : Int32)).toInt = (-1) := (by decide); omega), (by have : (((-1) : Int32)).toInt = (-1) := (by decide); have := congrArg Int32.toInt (show FI 0 9 = x1 from h2); omega), (by have : (((-1) : Int32)).toInt = (-1) := (by decide); have := congrArg Int32.toInt (show FI 0 9 = x1 from h2); omega), (by exact ⟨gp, gw, gs, gg0, hk0, trivial⟩)⟩
set_option maxHeartbeats 4000000 in
set_option maxRecDepth 100000 in
theorem k_tapeIntoT43 {sk : xK} {base d n sl : Nat} {SH : Nat → Nat × Nat} {FI : Nat → Nat → Int32} {FL : Nat → Nat → Int64} {FR : Nat → Nat → Option Nat} (hS : h_S n SH) (hF : h_FR FR) (hI : g_I FI) (hR : g_R n SH FR) (a2 : Int32) (gp : Nat → Nat) (gw : Nat → Nat) (gs : Nat → Nat) (gg0 : g_T n SH FI FR gp gw gs) : hw sk base (d + 2) none 123 0 [(0, .ref (base + 0)), (1, .ref (base + 43)), (2, .int (a2))] [] (n, sl, SH, FI, FL, FR) (h_I (fun r s => ∃ n' sl' SH' FI' FL' FR', s = (n', sl', SH', FI', FL', FR') ∧ g_ex n SH n' SH' ∧ h_S n' SH' ∧ g_I FI' ∧ g_fr n (shd SH) [(0, 9)] [] [] FI FI' ∧ g_fr n (shd SH) [] [] [] FL FL' ∧ g_fr n (shd SH) [] [43] [] FR FR' ∧ h_FR FR' ∧ g_R n' SH' FR' ∧ ((n' : Int) ≤ n + 1) ∧ ((sl' : Int) + (FI' 0 9).toInt ≤ sl + (FI 0 9).toInt) ∧ ((FI' 0 9).toInt ≤ (FI 0 9).toInt) ∧ (∃ gp2 gw2 gs2, g_T n' SH' FI' FR' gp2 gw2 gs2 ∧ (∀ c, c < n → gp2 c = gp c ∧ gw2 c = gw c ∧ gs2 c = gs c) ∧ True))) := by
  have rg_a2 := i_rng a2
  have hk0 : ∀ c, c < n → gp c = gp c ∧ gw c = gw c ∧ gs c = gs c := fun _ _ => ⟨rfl, rfl, rfl⟩
  obtain ⟨x1, h2⟩ : ∃ y, FI 0 9 = y := ⟨_, rfl⟩
  have h2l := congrArg Int32.toInt h2
  have b3 := gI_0_9 hI; rw [h2] at b3
  refine xw_iloadn (aX11_tapeInto 0 rfl) rfl ?_
  refine hw_iflt (tgt := 20) (aX11_tapeInto 1 rfl) (by decide) rfl (fun cd4 => ?_) (fun cd4 => ?_)
  · refine hw_ic (v := ((-1) : Int32)) (aX11_tapeInto 10 rfl) (by decide) ?_
    refine xw_iret (aX11_tapeInto 11 rfl) rfl rfl ?_
    have e5 : (((-1) : Int32)).toInt = (-1) := (by decide : ((-1) : Int32).toInt = (-1))
    exact ⟨((-1) : Int32), rfl, n, sl, SH, FI, FL, FR, rfl, ex_rf, hS, hI, gf_rf, gf_rf, gf_rf, hF, hR, (by have : (((-1) : Int32)).toInt = (-1) := (by decide); omega), (by have : (((-1) : Int32)).toInt = (-1) := (by decide); have := congrArg Int32.toInt (show FI 0 9 = x1 from h2); omega), (by have : (((-1) : Int32)).toInt = (-1) := (by decide); have := congrArg Int32.toInt (show FI 0 9 = x1 from h2); omega), (by exact ⟨gp, gw, gs, gg0, hk0, trivial⟩)⟩
  · refine xw_iloadn (aX11_tapeInto 2 rfl) rfl ?_
    refine hw_aloadn (aX11_tapeInto 3 rfl) rfl ?_
    refine hw_alen (k := 6) (z := 4) (v := (4 : Int32)) (aX11_tapeInto 4 rfl) (c43 hS) (s43 hS) (by decide) (by decide) ?_
    refine hw_icge (tgt := 20) (aX11_tapeInto 5 rfl) (by decide) rfl (by decide : (4 : Int32).toInt = 4) (fun cd6 => ?_) (fun cd6 => ?_)
    · refine hw_ic (v := ((-1) : Int32)) (aX11_tapeInto 10 rfl) (by decide) ?_
      refine xw_iret (aX11_tapeInto 11 rfl) rfl rfl ?_
      have e7 : (((-1) : Int32)).toInt = (-1) := (by decide : ((-1) : Int32).toInt = (-1))
      exact ⟨((-1) : Int32), rfl, n, sl, SH, FI, FL, FR, rfl, ex_rf, hS, hI, gf_rf, gf_rf, gf_rf, hF, hR, (by have : (((-1) : Int32)).toInt = (-1) := (by decide); omega), (by have : (((-1) : Int32)).toInt = (-1) := (by decide); have := congrArg Int32.toInt (show FI 0 9 = x1 from h2); omega), (by have : (((-1) : Int32)).toInt = (-1) := (by decide); have := congrArg Int32.toInt (show FI 0 9 = x1 from h2); omega), (by exact ⟨gp, gw, gs, gg0, hk0, trivial⟩)⟩
    · refine hw_aloadn (aX11_tapeInto 6 rfl) rfl ?_
      refine hw_get (v := .int (x1)) (aX11_tapeInto 7 rfl) wf_RX11_69 (c0 hS) (s0 hS) (by decide) (congrArg Value.int (show FI 0 9 = x1 from h2)) ?_
      refine hw_sp (v := (600 : Int32)) (aX11_tapeInto 8 rfl) (by decide) ?_
      refine hw_icle (tgt := 22) (aX11_tapeInto 9 rfl) (by decide) rfl (by decide : (600 : Int32).toInt = 600) (fun cd8 => ?_) (fun cd8 => ?_)
      · refine hw_aloadn (aX11_tapeInto 12 rfl) rfl ?_
        refine hw_get (v := .int (x1)) (aX11_tapeInto 13 rfl) wf_RX11_69 (c0 hS) (s0 hS) (by decide) (congrArg Value.int (show FI 0 9 = x1 from h2)) ?_
        refine xw_istoren (L2 := [(3, .int (x1)), (0, .ref (base + 0)), (1, .ref (base + 43)), (2, .int (a2))]) (aX11_tapeInto 14 rfl) (by decide) rfl ?_
        refine hw_aloadn (aX11_tapeInto 15 rfl) rfl ?_
        refine xw_iloadn (aX11_tapeInto 16 rfl) rfl ?_
        refine hw_aloadn (aX11_tapeInto 17 rfl) rfl ?_
        refine hw_get (v := .ref (base + 19)) (aX11_tapeInto 18 rfl) wf_RX11_16 (c0 hS) (s0 hS) (by decide) (congrArg (fun r => va_rf (h_rf base r)) (r0_6 hF)) ?_
        refine xw_iloadn (aX11_tapeInto 19 rfl) rfl ?_
        refine hw_callS (As := [.ref (base + 19), .int (x1)]) (rest := [.int (a2), .ref (base + 43)]) (aX11_tapeInto 20 rfl) wc_RX11_88 (by decide) rfl wt_yJ7_copyOf_59c91 rfl rfl (Nat.le_of_ble_eq_true rfl) (Nat.le_of_ble_eq_true rfl) (k_copyOf19 (d := d) hS hF hI hR (x1) (by omega)) (fun v9 sv10 p11 => ?_)
        obtain ⟨r12, rfl, n27, sl28, SH29, FI13, FL14, FR15, rfl, ex30, hS31, hI16, f17, f18, f19, hF20, hR21, t22, t23, u24, ht25, nn26, hfr32⟩ := p11
        obtain ⟨r33, rfl⟩ : ∃ q, r12 = some q := Option.ne_none_iff_exists'.mp nn26
        have fq34 := hfr32 r33 rfl
        have dq35 : 176 ≤ r33 := Nat.le_trans hS.1 fq34
        obtain ⟨lt37, ow38, sh39⟩ := ht25 r33 rfl
        have hT40 : g_T n27 SH29 FI13 FR15 gp gw gs := gT_ar (L := []) (A := []) (T := []) (L2 := []) (A2 := []) (T2 := []) hS hR gg0 (by omega) ex30 (by rw [show n = r33 by omega]; exact sh39) f17 f19 (by decide) (by decide)
        show hw sk base _ _ _ _ _ [.ref (base + r33), .int (a2), .ref (base + 43)] _ _
        refine hv_aastI (i2 := (a2).toNatClampNeg) (aX11_tapeInto 21 rfl) (c43 hS31) (s43 hS31) (nin_1 (i := 95) rfl rfl) lt37 sh39 (h_in rfl (by omega) (by omega)) rfl (fun FR41 u42 => ?_)
        have hT43 : g_T n27 SH29 FI13 FR41 gp gw gs := gT_wo hT40 (by rw [(s43 hS31)]; decide) (by rw [(s43 hS31)]; decide) u42
        have hF44 : h_FR FR41 := hF_ua hS31 hF20 u42 (s43 hS31) (by decide +kernel)
        have hR45 : g_R n27 SH29 FR41 := gR_up hR21 u42 (s43 hS31) (fun r e => by cases e; exact ⟨lt37, ow38, by rw [sh39]; rfl⟩) (fun h => absurd h (by have := (by decide : 43 < 176); omega)) (fun _ => by simp) (fun h => absurd h.1 (by decide))
        refine hw_aloadn (aX11_tapeInto 22 rfl) rfl ?_
        refine hw_ic (v := (0 : Int32)) (aX11_tapeInto 23 rfl) (by decide) ?_
        refine hv_puti (aX11_tapeInto 24 rfl) wf_RX11_69 (c0 hS31) (s0 hS31) (by decide) rfl rfl (fun FI46 u47 => ?_)
        have hT48 : g_T n27 SH29 FI46 FR41 gp gw gs := gT_wi hT43 (fun h => absurd h (by rw [(s0 hS31)]; decide)) u47
        have hI49 : g_I FI46 := gU_0_9 hI16 u47 (by have := ((by decide : (0 : Int32).toInt = 0) : ((0 : Int32)).toInt = 0); omega) (by have := ((by decide : (0 : Int32).toInt = 0) : ((0 : Int32)).toInt = 0); omega)
        refine xw_iloadn (aX11_tapeInto 25 rfl) rfl ?_
        refine xw_iret (aX11_tapeInto 26 rfl) rfl rfl ?_
        exact ⟨x1, rfl, n27, sl28, SH29, FI46, FL14, FR41, rfl, ex30, hS31, hI49, (gf_f (gf_tr ex_rf gf_rf f17 rfl rfl rfl) u47 (by decide)), (gf_tr ex_rf gf_rf f18 rfl rfl rfl), (gf_a (gf_tr ex_rf gf_rf f19 rfl rfl rfl) u42 (by decide)), hF44, hR45, (by omega), (by have := congrArg Int32.toInt (show FI46 0 9 = (0 : Int32) from up_eq u47); have := ((by decide : (0 : Int32).toInt = 0) : ((0 : Int32)).toInt = 0); omega), (by have := congrArg Int32.toInt (show FI46 0 9 = (0 : Int32) from up_eq u47); have := ((by decide : (0 : Int32).toInt = 0) : ((0 : Int32)).toInt = 0); omega), (by exact ⟨gp, gw, gs, hT48, hk0, trivial⟩)⟩
      · refine hw_ic (v := ((-1) : Int32)) (aX11_tapeInto 10 rfl) (by decide) ?_
        refine xw_iret (aX11_tapeInto 11 rfl) rfl rfl ?_
        have e50 : (((-1) : Int32)).toInt = (-1) := (by decide : ((-1) : Int32).toInt = (-1))
        exact ⟨((-1) : Int32), rfl, n, sl, SH, FI, FL, FR, rfl, ex_rf, hS, hI, gf_rf, gf_rf, gf_rf, hF, hR, (by have : (((-1) : Int32)).toInt = (-1) := (by decide); omega), (by have : (((-1) : Int32)).toInt = (-1) := (by decide); have := congrArg Int32.toInt (show FI 0 9 = x1 from h2); omega), (by have : (((-1) : Int32)).toInt = (-1) := (by decide); have := congrArg Int32.toInt (show FI 0 9 = x1 from h2); omega), (by exact ⟨gp, gw, gs, gg0, hk0, trivial⟩)⟩
set_option maxHeartbeats 4000000 in
set_option maxRecDepth 100000 in
theorem k_expressionT {sk : xK} {base d n sl : Nat} {SH : Nat → Nat × Nat} {FI : Nat → Nat → Int32} {FL : Nat → Nat → Int64} {FR : Nat → Nat → Option Nat} (hS : h_S n SH) (hF : h_FR FR) (hI : g_I FI) (hR : g_R n SH FR) (a1 : Int32) (gp : Nat → Nat) (gw : Nat → Nat) (gs : Nat → Nat) (gg0 : g_T n SH FI FR gp gw gs) : hw sk base (d + 3) none 121 0 [(0, .ref (base + 0)), (1, .int (a1))] [] (n, sl, SH, FI, FL, FR) (h_I (fun r s => ∃ n' sl' SH' FI' FL' FR', s = (n', sl', SH', FI', FL', FR') ∧ g_ex n SH n' SH' ∧ h_S n' SH' ∧ g_I FI' ∧ g_fr n (shd SH) [(0, 9)] [] [] FI FI' ∧ g_fr n (shd SH) [] [] [] FL FL' ∧ g_fr n (shd SH) [] [26] [] FR FR' ∧ h_FR FR' ∧ g_R n' SH' FR' ∧ ((n' : Int) ≤ n + 1) ∧ ((sl' : Int) + (FI' 0 9).toInt ≤ sl + (FI 0 9).toInt) ∧ ((FI' 0 9).toInt ≤ (FI 0 9).toInt) ∧ (∃ gp2 gw2 gs2, g_T n' SH' FI' FR' gp2 gw2 gs2 ∧ (∀ c, c < n → gp2 c = gp c ∧ gw2 c = gw c ∧ gs2 c = gs c) ∧ True))) := by
  have rg_a1 := i_rng a1
  have hk0 : ∀ c, c < n → gp c = gp c ∧ gw c = gw c ∧ gs c = gs c := fun _ _ => ⟨rfl, rfl, rfl⟩
  obtain ⟨x1, h2⟩ : ∃ y, FI 0 9 = y := ⟨_, rfl⟩
  have h2l := congrArg Int32.toInt h2
  have b3 := gI_0_9 hI; rw [h2] at b3
  refine hw_aloadn (aX11_expression 0 rfl) rfl ?_
  refine hw_aloadn (aX11_expression 1 rfl) rfl ?_
  refine hw_get (v := .ref (base + 23)) (aX11_expression 2 rfl) wf_RX11_35 (c0 hS) (s0 hS) (by decide) (congrArg (fun r => va_rf (h_rf base r)) (r0_0 hF)) ?_
  refine hw_get (v := .ref (base + 26)) (aX11_expression 3 rfl) wf_RX11_77 (c23 hS) (s23 hS) (by decide) (congrArg (fun r => va_rf (h_rf base r)) (r23_2 hF)) ?_
  refine xw_iloadn (aX11_expression 4 rfl) rfl ?_
  refine hw_callV (Bs := [.ref (base + 26), .int (a1)]) (rest := []) (aX11_expression 5 rfl) wc_RX11_81 (by decide) rfl wi_yX11_tapeInto wv_yX11_tapeInto (c0 hS) (s0 hS) rfl rfl rfl (Nat.le_of_ble_eq_true rfl) (Nat.le_of_ble_eq_true rfl) (k_tapeIntoT26 (d := d) hS hF hI hR (a1) (gp) (gw) (gs) (gg0)) (fun v4 sv5 p6 => ?_)
  have := congrArg Int32.toInt (show FI 0 9 = x1 from h2)
  have := congrArg Int32.toInt (show FI 0 9 = x1 from h2)
  obtain ⟨r7, rfl, n23, sl24, SH25, FI8, FL9, FR10, rfl, ex26, hS27, hI11, f12, f13, f14, hF15, hR16, t17, t18, t19, u20⟩ := p6
  obtain ⟨gp28, gw29, gs30, hT31, hkp32, hq33⟩ := u20
  have hk34 : ∀ c, c < n → gp28 c = gp c ∧ gw29 c = gw c ∧ gs30 c = gs c := fun c hc => by obtain ⟨k1, k2, k3⟩ := hk0 c hc; obtain ⟨m1, m2, m3⟩ := hkp32 c (Nat.lt_of_lt_of_le hc (Nat.le_refl _)); exact ⟨m1.trans k1, m2.trans k2, m3.trans k3⟩
  have rg_r7 := i_rng r7
  obtain ⟨x35, h36⟩ : ∃ y, FI8 0 9 = y := ⟨_, rfl⟩
  have h36l := congrArg Int32.toInt h36
  have b37 := gI_0_9 hI11; rw [h36] at b37
  show hw sk base _ _ _ _ _ [.int (r7)] _ _
  refine xw_iret (aX11_expression 6 rfl) rfl rfl ?_
  exact ⟨r7, rfl, n23, sl24, SH25, FI8, FL9, FR10, rfl, ex26, hS27, hI11, (gf_tr ex_rf gf_rf f12 rfl rfl rfl), (gf_tr ex_rf gf_rf f13 rfl rfl rfl), (gf_tr ex_rf gf_rf f14 rfl rfl rfl), hF15, hR16, (by omega), (by have := congrArg Int32.toInt (show FI8 0 9 = x35 from h36); omega), (by have := congrArg Int32.toInt (show FI8 0 9 = x35 from h36); omega), (by exact ⟨gp28, gw29, gs30, hT31, hk34, trivial⟩)⟩
set_option maxHeartbeats 4000000 in
set_option maxRecDepth 100000 in
theorem k_listT {sk : xK} {base d n sl : Nat} {SH : Nat → Nat × Nat} {FI : Nat → Nat → Int32} {FL : Nat → Nat → Int64} {FR : Nat → Nat → Option Nat} (hS : h_S n SH) (hF : h_FR FR) (hI : g_I FI) (hR : g_R n SH FR) (a1 : Int32) (gp : Nat → Nat) (gw : Nat → Nat) (gs : Nat → Nat) (gg0 : g_T n SH FI FR gp gw gs) : hw sk base (d + 3) none 122 0 [(0, .ref (base + 0)), (1, .int (a1))] [] (n, sl, SH, FI, FL, FR) (h_I (fun r s => ∃ n' sl' SH' FI' FL' FR', s = (n', sl', SH', FI', FL', FR') ∧ g_ex n SH n' SH' ∧ h_S n' SH' ∧ g_I FI' ∧ g_fr n (shd SH) [(0, 9)] [] [] FI FI' ∧ g_fr n (shd SH) [] [] [] FL FL' ∧ g_fr n (shd SH) [] [43] [] FR FR' ∧ h_FR FR' ∧ g_R n' SH' FR' ∧ ((n' : Int) ≤ n + 1) ∧ ((sl' : Int) + (FI' 0 9).toInt ≤ sl + (FI 0 9).toInt) ∧ ((FI' 0 9).toInt ≤ (FI 0 9).toInt) ∧ (∃ gp2 gw2 gs2, g_T n' SH' FI' FR' gp2 gw2 gs2 ∧ (∀ c, c < n → gp2 c = gp c ∧ gw2 c = gw c ∧ gs2 c = gs c) ∧ True))) := by
  have rg_a1 := i_rng a1
  have hk0 : ∀ c, c < n → gp c = gp c ∧ gw c = gw c ∧ gs c = gs c := fun _ _ => ⟨rfl, rfl, rfl⟩
  obtain ⟨x1, h2⟩ : ∃ y, FI 0 9 = y := ⟨_, rfl⟩
  have h2l := congrArg Int32.toInt h2
  have b3 := gI_0_9 hI; rw [h2] at b3
  refine hw_aloadn (aX11_list 0 rfl) rfl ?_
  refine hw_aloadn (aX11_list 1 rfl) rfl ?_
  refine hw_get (v := .ref (base + 23)) (aX11_list 2 rfl) wf_RX11_35 (c0 hS) (s0 hS) (by decide) (congrArg (fun r => va_rf (h_rf base r)) (r0_0 hF)) ?_
  refine hw_get (v := .ref (base + 43)) (aX11_list 3 rfl) wf_RX11_85 (c23 hS) (s23 hS) (by decide) (congrArg (fun r => va_rf (h_rf base r)) (r23_3 hF)) ?_
  refine xw_iloadn (aX11_list 4 rfl) rfl ?_
  refine hw_callV (Bs := [.ref (base + 43), .int (a1)]) (rest := []) (aX11_list 5 rfl) wc_RX11_81 (by decide) rfl wi_yX11_tapeInto wv_yX11_tapeInto (c0 hS) (s0 hS) rfl rfl rfl (Nat.le_of_ble_eq_true rfl) (Nat.le_of_ble_eq_true rfl) (k_tapeIntoT43 (d := d) hS hF hI hR (a1) (gp) (gw) (gs) (gg0)) (fun v4 sv5 p6 => ?_)
  have := congrArg Int32.toInt (show FI 0 9 = x1 from h2)
  have := congrArg Int32.toInt (show FI 0 9 = x1 from h2)
  obtain ⟨r7, rfl, n23, sl24, SH25, FI8, FL9, FR10, rfl, ex26, hS27, hI11, f12, f13, f14, hF15, hR16, t17, t18, t19, u20⟩ := p6
  obtain ⟨gp28, gw29, gs30, hT31, hkp32, hq33⟩ := u20
  have hk34 : ∀ c, c < n → gp28 c = gp c ∧ gw29 c = gw c ∧ gs30 c = gs c := fun c hc => by obtain ⟨k1, k2, k3⟩ := hk0 c hc; obtain ⟨m1, m2, m3⟩ := hkp32 c (Nat.lt_of_lt_of_le hc (Nat.le_refl _)); exact ⟨m1.trans k1, m2.trans k2, m3.trans k3⟩
  have rg_r7 := i_rng r7
  obtain ⟨x35, h36⟩ : ∃ y, FI8 0 9 = y := ⟨_, rfl⟩
  have h36l := congrArg Int32.toInt h36
  have b37 := gI_0_9 hI11; rw [h36] at b37
  show hw sk base _ _ _ _ _ [.int (r7)] _ _
  refine xw_iret (aX11_list 6 rfl) rfl rfl ?_
  exact ⟨r7, rfl, n23, sl24, SH25, FI8, FL9, FR10, rfl, ex26, hS27, hI11, (gf_tr ex_rf gf_rf f12 rfl rfl rfl), (gf_tr ex_rf gf_rf f13 rfl rfl rfl), (gf_tr ex_rf gf_rf f14 rfl rfl rfl), hF15, hR16, (by omega), (by have := congrArg Int32.toInt (show FI8 0 9 = x35 from h36); omega), (by have := congrArg Int32.toInt (show FI8 0 9 = x35 from h36); omega), (by exact ⟨gp28, gw29, gs30, hT31, hk34, trivial⟩)⟩
end
section
set_option maxHeartbeats 4000000 in
set_option maxRecDepth 100000 in
theorem n_puts {sk : xK} {base d n sl : Nat} {SH : Nat → Nat × Nat} {FI : Nat → Nat → Int32} {FL : Nat → Nat → Int64} {FR : Nat → Nat → Option Nat} (hS : h_S n SH) (hF : h_FR FR) (hI : g_I FI) (a1 : Int32) (g0 : (FI 121 13).toInt ≤ 996) : hw sk base d none 153 0 [(0, .ref (base + 121)), (1, .int (a1))] [] (n, sl, SH, FI, FL, FR) (h_V (fun s => ∃ FI', s = (n, sl, SH, FI', FL, FR) ∧ g_I FI' ∧ g_fr n SH [(121, 13)] [126] [] FI FI' ∧ ((FI' 121 13).toInt = (FI 121 13).toInt + 4))) := by
  have rg_a1 := i_rng a1
  obtain ⟨x1, h2⟩ : ∃ y, FI 121 13 = y := ⟨_, rfl⟩
  have h2l := congrArg Int32.toInt h2
  have b3 := gI_121_13 hI; rw [h2] at b3
  refine hw_bp (v := (24 : Int32)) (aX12_puts 0 rfl) (by decide) ?_
  refine xw_istoren (L2 := [(2, .int ((24 : Int32))), (0, .ref (base + 121)), (1, .int (a1))]) (aX12_puts 1 rfl) (by decide) rfl ?_
  have lp16 : ∀ (m : Nat) (y2 : Int32) (FIv4 : Nat → Nat → Int32), (g_fr n SH [(121, 13)] [126] [] FI FIv4) → (g_I FIv4) → (-8 ≤ (y2).toInt ∧ (y2).toInt ≤ 24) → (0 ≤ (FIv4 121 13).toInt ∧ (FIv4 121 13).toInt ≤ 1000) → ((FIv4 121 13).toInt ≤ (FI 121 13).toInt + 4) → ((y2).toInt = 24 → (FIv4 121 13).toInt = (FI 121 13).toInt) → ((y2).toInt = 16 → (FIv4 121 13).toInt = (FI 121 13).toInt + 1) → ((y2).toInt = 8 → (FIv4 121 13).toInt = (FI 121 13).toInt + 2) → ((y2).toInt = 0 → (FIv4 121 13).toInt = (FI 121 13).toInt + 3) → ((y2).toInt < 0 → (FIv4 121 13).toInt = (FI 121 13).toInt + 4) → ((y2).toInt = 24 ∨ (y2).toInt = 16 ∨ (y2).toInt = 8 ∨ (y2).toInt = 0 ∨ (y2).toInt = -8) → (y2).toInt + 8 < m → hw sk base d none 153 3 [(2, .int (y2)), (0, .ref (base + 121)), (1, .int (a1))] [] (n, sl, SH, FIv4, FL, FR) (h_V (fun s => ∃ FI', s = (n, sl, SH, FI', FL, FR) ∧ g_I FI' ∧ g_fr n SH [(121, 13)] [126] [] FI FI' ∧ ((FI' 121 13).toInt = (FI 121 13).toInt + 4))) := by
    intro m
    induction m with
    | zero => intro y2 FIv4 fr5 hI6 iv7 iv8 iv9 iv10 iv11 iv12 iv13 iv14 iv15 hm; omega
    | succ m ih =>
      intro y2 FIv4 fr5 hI6 iv7 iv8 iv9 iv10 iv11 iv12 iv13 iv14 iv15 hm
      have rg_y2 := i_rng y2
      obtain ⟨x17, h18⟩ : ∃ y, FIv4 121 13 = y := ⟨_, rfl⟩
      have h18l := congrArg Int32.toInt h18
      have b19 := gI_121_13 hI6; rw [h18] at b19
      refine xw_iloadn (aX12_puts 2 rfl) rfl ?_
      refine hw_iflt (tgt := 39) (aX12_puts 3 rfl) (by decide) rfl (fun cd20 => ?_) (fun cd20 => ?_)
      · refine xw_vret (aX12_puts 22 rfl) rfl ?_
        exact ⟨rfl, FIv4, rfl, hI6, fr5, (by have := congrArg Int32.toInt (show FIv4 121 13 = x17 from h18); omega)⟩
      · refine hw_aloadn (aX12_puts 4 rfl) rfl ?_
        refine hw_get (v := .ref (base + 126)) (aX12_puts 5 rfl) wf_RX12_30 (c121 hS) (s121 hS) (by decide) (congrArg (fun r => va_rf (h_rf base r)) (r121_12 hF)) ?_
        refine hw_aloadn (aX12_puts 6 rfl) rfl ?_
        refine hw_get (v := .int (x17)) (aX12_puts 7 rfl) wf_RX12_190 (c121 hS) (s121 hS) (by decide) (congrArg Value.int (show FIv4 121 13 = x17 from h18)) ?_
        refine xw_iloadn (aX12_puts 8 rfl) rfl ?_
        refine xw_iloadn (aX12_puts 9 rfl) rfl ?_
        refine xw_ishr (aX12_puts 10 rfl) ?_
        refine hw_ti (fun x21 => ?_)
        have b22 := i_rng x21
        refine hw_sp (v := (255 : Int32)) (aX12_puts 11 rfl) (by decide) ?_
        refine xw_iand (aX12_puts 12 rfl) ?_
        refine hw_tib (lo := 0) (hi := 255) (i_and (x := x21) (m := (255 : Int32)) (M := 255) (by decide) (by decide)) (fun x23 b24 => ?_)
        refine hv_iast (k := (x17).toNatClampNeg) (aX12_puts 13 rfl) (c126 hS) (s126 hS) (h_in rfl (by omega) (by omega)) rfl (fun FI25 u26 => ?_)
        have hI27 : g_I FI25 := gU_126 hI6 u26 (by omega) (by omega)
        refine hw_aloadn (aX12_puts 14 rfl) rfl ?_
        refine hw_aloadn (aX12_puts 15 rfl) rfl ?_
        refine hw_get (v := .int (x17)) (aX12_puts 16 rfl) wf_RX12_190 (c121 hS) (s121 hS) (by decide) (congrArg Value.int (show FI25 121 13 = x17 from (up_c u26 (by decide) (h18)))) ?_
        refine hw_ic (v := (1 : Int32)) (aX12_puts 17 rfl) (by decide) ?_
        refine xw_iadd (aX12_puts 18 rfl) ?_
        refine hw_tie (A := ((x17).toInt) + (1)) (i_add rfl (by decide : (1 : Int32).toInt = 1) (by omega) (by omega)) (fun x28 e29 => ?_)
        refine hv_puti (aX12_puts 19 rfl) wf_RX12_190 (c121 hS) (s121 hS) (by decide) rfl rfl (fun FI30 u31 => ?_)
        have hI32 : g_I FI30 := gU_121_13 hI27 u31 (by have := (e29 : (x28).toInt = ((x17).toInt) + (1)); omega) (by have := (e29 : (x28).toInt = ((x17).toInt) + (1)); omega)
        obtain ⟨x33, q35⟩ : ∃ y : Int32, (y2) + Int32.ofInt (-8) = y := ⟨_, rfl⟩
        have e34 : (x33).toInt = (y2).toInt + (-8) := by rw [← q35]; exact i_add rfl (by decide) (by omega) (by omega)
        refine xw_iinc (L2 := [(2, .int (x33)), (0, .ref (base + 121)), (1, .int (a1))]) (aX12_puts 20 rfl) rfl (by decide) (by rw [q35]; rfl) ?_
        refine xw_goto (tgt := 3) (aX12_puts 21 rfl) (by decide) ?_
        exact hw_L (ih (x33) FI30 (gf_f (gf_a fr5 u26 (by decide)) u31 (by decide)) hI32 (by have := (e34 : (x33).toInt = (y2).toInt + (-8)); omega) (by have := (e34 : (x33).toInt = (y2).toInt + (-8)); have := congrArg Int32.toInt (show FI30 121 13 = x28 from up_eq u31); have := (e29 : (x28).toInt = ((x17).toInt) + (1)); omega) (by have := (e34 : (x33).toInt = (y2).toInt + (-8)); have := congrArg Int32.toInt (show FI30 121 13 = x28 from up_eq u31); have := (e29 : (x28).toInt = ((x17).toInt) + (1)); omega) (by have := (e34 : (x33).toInt = (y2).toInt + (-8)); have := congrArg Int32.toInt (show FI30 121 13 = x28 from up_eq u31); have := (e29 : (x28).toInt = ((x17).toInt) + (1)); omega) (by have := (e34 : (x33).toInt = (y2).toInt + (-8)); have := congrArg Int32.toInt (show FI30 121 13 = x28 from up_eq u31); have := (e29 : (x28).toInt = ((x17).toInt) + (1)); omega) (by have := (e34 : (x33).toInt = (y2).toInt + (-8)); have := congrArg Int32.toInt (show FI30 121 13 = x28 from up_eq u31); have := (e29 : (x28).toInt = ((x17).toInt) + (1)); omega) (by have := (e34 : (x33).toInt = (y2).toInt + (-8)); have := congrArg Int32.toInt (show FI30 121 13 = x28 from up_eq u31); have := (e29 : (x28).toInt = ((x17).toInt) + (1)); omega) (by have := (e34 : (x33).toInt = (y2).toInt + (-8)); have := congrArg Int32.toInt (show FI30 121 13 = x28 from up_eq u31); have := (e29 : (x28).toInt = ((x17).toInt) + (1)); omega) (by have := (e34 : (x33).toInt = (y2).toInt + (-8)); omega) (by have := (e34 : (x33).toInt = (y2).toInt + (-8)); omega)) ⟨rfl, rfl, rfl, trivial⟩
  exact hw_L (lp16 ((24 + 8 : Int).toNat + 1) ((24 : Int32)) FI gf_rf hI (by have := ((by decide : (24 : Int32).toInt = 24) : ((24 : Int32)).toInt = 24); omega) (by have := ((by decide : (24 : Int32).toInt = 24) : ((24 : Int32)).toInt = 24); have := congrArg Int32.toInt (show FI 121 13 = x1 from h2); omega) (by have := ((by decide : (24 : Int32).toInt = 24) : ((24 : Int32)).toInt = 24); have := congrArg Int32.toInt (show FI 121 13 = x1 from h2); omega) (by have := ((by decide : (24 : Int32).toInt = 24) : ((24 : Int32)).toInt = 24); have := congrArg Int32.toInt (show FI 121 13 = x1 from h2); omega) (by have := ((by decide : (24 : Int32).toInt = 24) : ((24 : Int32)).toInt = 24); have := congrArg Int32.toInt (show FI 121 13 = x1 from h2); omega) (by have := ((by decide : (24 : Int32).toInt = 24) : ((24 : Int32)).toInt = 24); have := congrArg Int32.toInt (show FI 121 13 = x1 from h2); omega) (by have := ((by decide : (24 : Int32).toInt = 24) : ((24 : Int32)).toInt = 24); have := congrArg Int32.toInt (show FI 121 13 = x1 from h2); omega) (by have := ((by decide : (24 : Int32).toInt = 24) : ((24 : Int32)).toInt = 24); have := congrArg Int32.toInt (show FI 121 13 = x1 from h2); omega) (by have := ((by decide : (24 : Int32).toInt = 24) : ((24 : Int32)).toInt = 24); omega) (by have := ((by decide : (24 : Int32).toInt = 24) : ((24 : Int32)).toInt = 24); omega)) ⟨rfl, rfl, rfl, trivial⟩
set_option maxHeartbeats 4000000 in
set_option maxRecDepth 100000 in
theorem n_end {sk : xK} {base d n sl : Nat} {SH : Nat → Nat × Nat} {FI : Nat → Nat → Int32} {FL : Nat → Nat → Int64} {FR : Nat → Nat → Option Nat} (hS : h_S n SH) (hF : h_FR FR) (hI : g_I FI) (a1 : Int32) : hw sk base d none 155 0 [(0, .ref (base + 121)), (1, .int (a1))] [] (n, sl, SH, FI, FL, FR) (h_I (fun r s => ∃ FI', s = (n, sl, SH, FI', FL, FR) ∧ g_I FI' ∧ g_fr n SH [(121, 0), (121, 13)] [] [] FI FI')) := by
  have rg_a1 := i_rng a1
  refine hw_aloadn (aX12_end 0 rfl) rfl ?_
  refine hw_ic (v := (0 : Int32)) (aX12_end 1 rfl) (by decide) ?_
  refine hv_puti (aX12_end 2 rfl) wf_RX12_187 (c121 hS) (s121 hS) (by decide) rfl rfl (fun FI1 u2 => ?_)
  have hI3 : g_I FI1 := gU_F hI u2 rfl
  refine xw_iloadn (aX12_end 3 rfl) rfl ?_
  refine hw_iflt (tgt := 17) (aX12_end 4 rfl) (by decide) rfl (fun cd4 => ?_) (fun cd4 => ?_)
  · refine hw_ic (v := ((-1) : Int32)) (aX12_end 9 rfl) (by decide) ?_
    refine xw_iret (aX12_end 10 rfl) rfl rfl ?_
    have e5 : (((-1) : Int32)).toInt = (-1) := (by decide : ((-1) : Int32).toInt = (-1))
    exact ⟨((-1) : Int32), rfl, FI1, rfl, hI3, (gf_f gf_rf u2 (by decide))⟩
  · refine xw_iloadn (aX12_end 5 rfl) rfl ?_
    refine hw_aloadn (aX12_end 6 rfl) rfl ?_
    obtain ⟨x6, h7⟩ : ∃ y, FI1 121 13 = y := ⟨_, rfl⟩
    have h7l := congrArg Int32.toInt h7
    have b8 := gI_121_13 hI3; rw [h7] at b8
    refine hw_get (v := .int (x6)) (aX12_end 7 rfl) wf_RX12_190 (c121 hS) (s121 hS) (by decide) (congrArg Value.int (show FI1 121 13 = x6 from h7)) ?_
    refine hw_icle (tgt := 19) (aX12_end 8 rfl) (by decide) rfl rfl (fun cd9 => ?_) (fun cd9 => ?_)
    · refine hw_aloadn (aX12_end 11 rfl) rfl ?_
      refine xw_iloadn (aX12_end 12 rfl) rfl ?_
      refine hv_puti (aX12_end 13 rfl) wf_RX12_190 (c121 hS) (s121 hS) (by decide) rfl rfl (fun FI10 u11 => ?_)
      have hI12 : g_I FI10 := gU_121_13 hI3 u11 (by omega) (by omega)
      refine xw_iloadn (aX12_end 14 rfl) rfl ?_
      refine xw_iret (aX12_end 15 rfl) rfl rfl ?_
      exact ⟨a1, rfl, FI10, rfl, hI12, (gf_f (gf_f gf_rf u2 (by decide)) u11 (by decide))⟩
    · refine hw_ic (v := ((-1) : Int32)) (aX12_end 9 rfl) (by decide) ?_
      refine xw_iret (aX12_end 10 rfl) rfl rfl ?_
      have e13 : (((-1) : Int32)).toInt = (-1) := (by decide : ((-1) : Int32).toInt = (-1))
      exact ⟨((-1) : Int32), rfl, FI1, rfl, hI3, (gf_f gf_rf u2 (by decide))⟩
set_option maxHeartbeats 4000000 in
set_option maxRecDepth 100000 in
theorem n_load {sk : xK} {base d n sl : Nat} {SH : Nat → Nat × Nat} {FI : Nat → Nat → Int32} {FL : Nat → Nat → Int64} {FR : Nat → Nat → Option Nat} (hS : h_S n SH) (hF : h_FR FR) (hI : g_I FI) (a1 : Int32) (a2 : Int64) : hw sk base d none 159 0 [(0, .ref (base + 121)), (1, .int (a1)), (2, .long (a2))] [] (n, sl, SH, FI, FL, FR) (h_I (fun r s => ∃ FI' FL', s = (n, sl, SH, FI', FL', FR) ∧ g_I FI' ∧ g_fr n SH [(121, 0)] [] [] FI FI' ∧ g_fr n SH [] [122] [] FL FL' ∧ (0 ≤ r.toInt ∧ r.toInt ≤ 1))) := by
  have rg_a1 := i_rng a1
  have rg_a2 := l_rng a2
  refine hw_aloadn (aX12_load 0 rfl) rfl ?_
  refine hw_ic (v := (0 : Int32)) (aX12_load 1 rfl) (by decide) ?_
  refine hv_puti (aX12_load 2 rfl) wf_RX12_187 (c121 hS) (s121 hS) (by decide) rfl rfl (fun FI1 u2 => ?_)
  have hI3 : g_I FI1 := gU_F hI u2 rfl
  refine xw_iloadn (aX12_load 3 rfl) rfl ?_
  refine hw_iflt (tgt := 15) (aX12_load 4 rfl) (by decide) rfl (fun cd4 => ?_) (fun cd4 => ?_)
  · refine hw_ic (v := (0 : Int32)) (aX12_load 8 rfl) (by decide) ?_
    refine xw_iret (aX12_load 9 rfl) rfl (by decide) ?_
    have e5 : ((0 : Int32)).toInt = 0 := (by decide : (0 : Int32).toInt = 0)
    exact ⟨(0 : Int32), rfl, FI1, FL, rfl, hI3, (gf_f gf_rf u2 (by decide)), gf_rf, (by have : ((0 : Int32)).toInt = 0 := (by decide); omega)⟩
  · refine xw_iloadn (aX12_load 5 rfl) rfl ?_
    refine hw_bp (v := (31 : Int32)) (aX12_load 6 rfl) (by decide) ?_
    refine hw_icle (tgt := 17) (aX12_load 7 rfl) (by decide) rfl (by decide : (31 : Int32).toInt = 31) (fun cd6 => ?_) (fun cd6 => ?_)
    · refine hw_aloadn (aX12_load 10 rfl) rfl ?_
      refine hw_get (v := .ref (base + 122)) (aX12_load 11 rfl) wf_RX12_7 (c121 hS) (s121 hS) (by decide) (congrArg (fun r => va_rf (h_rf base r)) (r121_1 hF)) ?_
      refine xw_iloadn (aX12_load 12 rfl) rfl ?_
      refine xw_lloadn (aX12_load 13 rfl) rfl ?_
      refine hv_last (k := (a1).toNatClampNeg) (aX12_load 14 rfl) (c122 hS) (s122 hS) (h_in rfl (by omega) (by omega)) rfl (fun FL7 u8 => ?_)
      refine hw_ic (v := (1 : Int32)) (aX12_load 15 rfl) (by decide) ?_
      refine xw_iret (aX12_load 16 rfl) rfl (by decide) ?_
      have e9 : ((1 : Int32)).toInt = 1 := (by decide : (1 : Int32).toInt = 1)
      exact ⟨(1 : Int32), rfl, FI1, FL7, rfl, hI3, (gf_f gf_rf u2 (by decide)), (gf_a gf_rf u8 (by decide)), (by have : ((1 : Int32)).toInt = 1 := (by decide); omega)⟩
    · refine hw_ic (v := (0 : Int32)) (aX12_load 8 rfl) (by decide) ?_
      refine xw_iret (aX12_load 9 rfl) rfl (by decide) ?_
      have e10 : ((0 : Int32)).toInt = 0 := (by decide : (0 : Int32).toInt = 0)
      exact ⟨(0 : Int32), rfl, FI1, FL, rfl, hI3, (gf_f gf_rf u2 (by decide)), gf_rf, (by have : ((0 : Int32)).toInt = 0 := (by decide); omega)⟩
set_option maxHeartbeats 4000000 in
set_option maxRecDepth 100000 in
theorem n_register {sk : xK} {base d n sl : Nat} {SH : Nat → Nat × Nat} {FI : Nat → Nat → Int32} {FL : Nat → Nat → Int64} {FR : Nat → Nat → Option Nat} (hS : h_S n SH) (hF : h_FR FR) (hI : g_I FI) (a1 : Int32) : hw sk base d none 160 0 [(0, .ref (base + 121)), (1, .int (a1))] [] (n, sl, SH, FI, FL, FR) (h_J (fun r s => ∃ FI', s = (n, sl, SH, FI', FL, FR) ∧ g_I FI' ∧ g_fr n SH [(121, 0)] [] [] FI FI')) := by
  have rg_a1 := i_rng a1
  refine hw_aloadn (aX12_register 0 rfl) rfl ?_
  refine hw_ic (v := (0 : Int32)) (aX12_register 1 rfl) (by decide) ?_
  refine hv_puti (aX12_register 2 rfl) wf_RX12_187 (c121 hS) (s121 hS) (by decide) rfl rfl (fun FI1 u2 => ?_)
  have hI3 : g_I FI1 := gU_F hI u2 rfl
  refine xw_iloadn (aX12_register 3 rfl) rfl ?_
  refine hw_iflt (tgt := 15) (aX12_register 4 rfl) (by decide) rfl (fun cd4 => ?_) (fun cd4 => ?_)
  · refine hw_lc (v := (0 : Int64)) (aX12_register 8 rfl) (by decide) ?_
    refine xw_goto (tgt := 25) (aX12_register 9 rfl) (by decide) ?_
    refine xw_lret (aX12_register 14 rfl) rfl ?_
    have e5 : ((0 : Int64)).toInt = 0 := (by decide : (0 : Int64).toInt = 0)
    exact ⟨(0 : Int64), rfl, FI1, rfl, hI3, (gf_f gf_rf u2 (by decide))⟩
  · refine xw_iloadn (aX12_register 5 rfl) rfl ?_
    refine hw_bp (v := (31 : Int32)) (aX12_register 6 rfl) (by decide) ?_
    refine hw_icle (tgt := 19) (aX12_register 7 rfl) (by decide) rfl (by decide : (31 : Int32).toInt = 31) (fun cd6 => ?_) (fun cd6 => ?_)
    · refine hw_aloadn (aX12_register 10 rfl) rfl ?_
      refine hw_get (v := .ref (base + 122)) (aX12_register 11 rfl) wf_RX12_7 (c121 hS) (s121 hS) (by decide) (congrArg (fun r => va_rf (h_rf base r)) (r121_1 hF)) ?_
      refine xw_iloadn (aX12_register 12 rfl) rfl ?_
      obtain ⟨x7, h8⟩ : ∃ y, FL 122 (a1).toNatClampNeg = y := ⟨_, rfl⟩
      have h8l := congrArg Int64.toInt h8
      have := l_rng x7
      refine hw_lald (v := x7) (aX12_register 13 rfl) (c122 hS) (s122 hS) (h_in rfl (by omega) (by omega)) (show FL 122 (a1).toNatClampNeg = x7 from h8) ?_
      refine xw_lret (aX12_register 14 rfl) rfl ?_
      exact ⟨x7, rfl, FI1, rfl, hI3, (gf_f gf_rf u2 (by decide))⟩
    · refine hw_lc (v := (0 : Int64)) (aX12_register 8 rfl) (by decide) ?_
      refine xw_goto (tgt := 25) (aX12_register 9 rfl) (by decide) ?_
      refine xw_lret (aX12_register 14 rfl) rfl ?_
      have e9 : ((0 : Int64)).toInt = 0 := (by decide : (0 : Int64).toInt = 0)
      exact ⟨(0 : Int64), rfl, FI1, rfl, hI3, (gf_f gf_rf u2 (by decide))⟩
set_option maxHeartbeats 4000000 in
set_option maxRecDepth 100000 in
theorem n_poke {sk : xK} {base d n sl : Nat} {SH : Nat → Nat × Nat} {FI : Nat → Nat → Int32} {FL : Nat → Nat → Int64} {FR : Nat → Nat → Option Nat} (hS : h_S n SH) (hF : h_FR FR) (hI : g_I FI) (a1 : Int32) (a2 : Int32) : hw sk base d none 161 0 [(0, .ref (base + 121)), (1, .int (a1)), (2, .int (a2))] [] (n, sl, SH, FI, FL, FR) (h_I (fun r s => ∃ FI', s = (n, sl, SH, FI', FL, FR) ∧ g_I FI' ∧ g_fr n SH [(121, 0)] [123] [] FI FI' ∧ (0 ≤ r.toInt ∧ r.toInt ≤ 1))) := by
  have rg_a1 := i_rng a1
  have rg_a2 := i_rng a2
  refine hw_aloadn (aX12_poke 0 rfl) rfl ?_
  refine hw_ic (v := (0 : Int32)) (aX12_poke 1 rfl) (by decide) ?_
  refine hv_puti (aX12_poke 2 rfl) wf_RX12_187 (c121 hS) (s121 hS) (by decide) rfl rfl (fun FI1 u2 => ?_)
  have hI3 : g_I FI1 := gU_F hI u2 rfl
  refine xw_iloadn (aX12_poke 3 rfl) rfl ?_
  refine hw_iflt (tgt := 16) (aX12_poke 4 rfl) (by decide) rfl (fun cd4 => ?_) (fun cd4 => ?_)
  · refine hw_ic (v := (0 : Int32)) (aX12_poke 8 rfl) (by decide) ?_
    refine xw_iret (aX12_poke 9 rfl) rfl (by decide) ?_
    have e5 : ((0 : Int32)).toInt = 0 := (by decide : (0 : Int32).toInt = 0)
    exact ⟨(0 : Int32), rfl, FI1, rfl, hI3, (gf_f gf_rf u2 (by decide)), (by have : ((0 : Int32)).toInt = 0 := (by decide); omega)⟩
  · refine xw_iloadn (aX12_poke 5 rfl) rfl ?_
    refine hw_sp (v := (4095 : Int32)) (aX12_poke 6 rfl) (by decide) ?_
    refine hw_icle (tgt := 18) (aX12_poke 7 rfl) (by decide) rfl (by decide : (4095 : Int32).toInt = 4095) (fun cd6 => ?_) (fun cd6 => ?_)
    · refine hw_aloadn (aX12_poke 10 rfl) rfl ?_
      refine hw_get (v := .ref (base + 123)) (aX12_poke 11 rfl) wf_RX12_13 (c121 hS) (s121 hS) (by decide) (congrArg (fun r => va_rf (h_rf base r)) (r121_2 hF)) ?_
      refine xw_iloadn (aX12_poke 12 rfl) rfl ?_
      refine xw_iloadn (aX12_poke 13 rfl) rfl ?_
      refine hw_sp (v := (255 : Int32)) (aX12_poke 14 rfl) (by decide) ?_
      refine xw_iand (aX12_poke 15 rfl) ?_
      refine hw_tib (lo := 0) (hi := 255) (i_and (x := a2) (m := (255 : Int32)) (M := 255) (by decide) (by decide)) (fun x7 b8 => ?_)
      refine hv_iast (k := (a1).toNatClampNeg) (aX12_poke 16 rfl) (c123 hS) (s123 hS) (h_in rfl (by omega) (by omega)) rfl (fun FI9 u10 => ?_)
      have hI11 : g_I FI9 := gU_F hI3 u10 rfl
      refine hw_ic (v := (1 : Int32)) (aX12_poke 17 rfl) (by decide) ?_
      refine xw_iret (aX12_poke 18 rfl) rfl (by decide) ?_
      have e12 : ((1 : Int32)).toInt = 1 := (by decide : (1 : Int32).toInt = 1)
      exact ⟨(1 : Int32), rfl, FI9, rfl, hI11, (gf_a (gf_f gf_rf u2 (by decide)) u10 (by decide)), (by have : ((1 : Int32)).toInt = 1 := (by decide); omega)⟩
    · refine hw_ic (v := (0 : Int32)) (aX12_poke 8 rfl) (by decide) ?_
      refine xw_iret (aX12_poke 9 rfl) rfl (by decide) ?_
      have e13 : ((0 : Int32)).toInt = 0 := (by decide : (0 : Int32).toInt = 0)
      exact ⟨(0 : Int32), rfl, FI1, rfl, hI3, (gf_f gf_rf u2 (by decide)), (by have : ((0 : Int32)).toInt = 0 := (by decide); omega)⟩
set_option maxHeartbeats 4000000 in
set_option maxRecDepth 100000 in
theorem n_peek {sk : xK} {base d n sl : Nat} {SH : Nat → Nat × Nat} {FI : Nat → Nat → Int32} {FL : Nat → Nat → Int64} {FR : Nat → Nat → Option Nat} (hS : h_S n SH) (hF : h_FR FR) (hI : g_I FI) (a1 : Int32) : hw sk base d none 162 0 [(0, .ref (base + 121)), (1, .int (a1))] [] (n, sl, SH, FI, FL, FR) (h_I (fun r s => ∃ FI', s = (n, sl, SH, FI', FL, FR) ∧ g_I FI' ∧ g_fr n SH [(121, 0)] [] [] FI FI')) := by
  have rg_a1 := i_rng a1
  refine hw_aloadn (aX12_peek 0 rfl) rfl ?_
  refine hw_ic (v := (0 : Int32)) (aX12_peek 1 rfl) (by decide) ?_
  refine hv_puti (aX12_peek 2 rfl) wf_RX12_187 (c121 hS) (s121 hS) (by decide) rfl rfl (fun FI1 u2 => ?_)
  have hI3 : g_I FI1 := gU_F hI u2 rfl
  refine xw_iloadn (aX12_peek 3 rfl) rfl ?_
  refine hw_iflt (tgt := 16) (aX12_peek 4 rfl) (by decide) rfl (fun cd4 => ?_) (fun cd4 => ?_)
  · refine hw_ic (v := ((-1) : Int32)) (aX12_peek 8 rfl) (by decide) ?_
    refine xw_goto (tgt := 26) (aX12_peek 9 rfl) (by decide) ?_
    refine xw_iret (aX12_peek 14 rfl) rfl rfl ?_
    have e5 : (((-1) : Int32)).toInt = (-1) := (by decide : ((-1) : Int32).toInt = (-1))
    exact ⟨((-1) : Int32), rfl, FI1, rfl, hI3, (gf_f gf_rf u2 (by decide))⟩
  · refine xw_iloadn (aX12_peek 5 rfl) rfl ?_
    refine hw_sp (v := (4095 : Int32)) (aX12_peek 6 rfl) (by decide) ?_
    refine hw_icle (tgt := 20) (aX12_peek 7 rfl) (by decide) rfl (by decide : (4095 : Int32).toInt = 4095) (fun cd6 => ?_) (fun cd6 => ?_)
    · refine hw_aloadn (aX12_peek 10 rfl) rfl ?_
      refine hw_get (v := .ref (base + 123)) (aX12_peek 11 rfl) wf_RX12_13 (c121 hS) (s121 hS) (by decide) (congrArg (fun r => va_rf (h_rf base r)) (r121_2 hF)) ?_
      refine xw_iloadn (aX12_peek 12 rfl) rfl ?_
      obtain ⟨x7, h8⟩ : ∃ y, FI1 123 (a1).toNatClampNeg = y := ⟨_, rfl⟩
      have h8l := congrArg Int32.toInt h8
      have := i_rng x7
      refine hw_iald (v := x7) (aX12_peek 13 rfl) (c123 hS) (s123 hS) (h_in rfl (by omega) (by omega)) (show FI1 123 (a1).toNatClampNeg = x7 from h8) ?_
      refine xw_iret (aX12_peek 14 rfl) rfl rfl ?_
      exact ⟨x7, rfl, FI1, rfl, hI3, (gf_f gf_rf u2 (by decide))⟩
    · refine hw_ic (v := ((-1) : Int32)) (aX12_peek 8 rfl) (by decide) ?_
      refine xw_goto (tgt := 26) (aX12_peek 9 rfl) (by decide) ?_
      refine xw_iret (aX12_peek 14 rfl) rfl rfl ?_
      have e9 : (((-1) : Int32)).toInt = (-1) := (by decide : ((-1) : Int32).toInt = (-1))
      exact ⟨((-1) : Int32), rfl, FI1, rfl, hI3, (gf_f gf_rf u2 (by decide))⟩
set_option maxHeartbeats 4000000 in
set_option maxRecDepth 100000 in
theorem n_frame {sk : xK} {base d n sl : Nat} {SH : Nat → Nat × Nat} {FI : Nat → Nat → Int32} {FL : Nat → Nat → Int64} {FR : Nat → Nat → Option Nat} (hS : h_S n SH) (hF : h_FR FR) (hI : g_I FI) (a1 : Int32) : hw sk base d none 163 0 [(0, .ref (base + 121)), (1, .int (a1))] [] (n, sl, SH, FI, FL, FR) (h_I (fun r s => ∃ FI', s = (n, sl, SH, FI', FL, FR) ∧ g_I FI' ∧ g_fr n SH [(121, 0), (121, 5)] [] [] FI FI' ∧ (0 ≤ r.toInt ∧ r.toInt ≤ 1))) := by
  have rg_a1 := i_rng a1
  refine hw_aloadn (aX12_frame 0 rfl) rfl ?_
  refine hw_ic (v := (0 : Int32)) (aX12_frame 1 rfl) (by decide) ?_
  refine hv_puti (aX12_frame 2 rfl) wf_RX12_187 (c121 hS) (s121 hS) (by decide) rfl rfl (fun FI1 u2 => ?_)
  have hI3 : g_I FI1 := gU_F hI u2 rfl
  refine xw_iloadn (aX12_frame 3 rfl) rfl ?_
  refine hw_ic (v := ((-1) : Int32)) (aX12_frame 4 rfl) (by decide) ?_
  refine hw_iclt (tgt := 16) (aX12_frame 5 rfl) (by decide) rfl (by decide : ((-1) : Int32).toInt = (-1)) (fun cd4 => ?_) (fun cd4 => ?_)
  · refine hw_ic (v := (0 : Int32)) (aX12_frame 9 rfl) (by decide) ?_
    refine xw_iret (aX12_frame 10 rfl) rfl (by decide) ?_
    have e5 : ((0 : Int32)).toInt = 0 := (by decide : (0 : Int32).toInt = 0)
    exact ⟨(0 : Int32), rfl, FI1, rfl, hI3, (gf_f gf_rf u2 (by decide)), (by have : ((0 : Int32)).toInt = 0 := (by decide); omega)⟩
  · refine xw_iloadn (aX12_frame 6 rfl) rfl ?_
    refine hw_bp (v := (15 : Int32)) (aX12_frame 7 rfl) (by decide) ?_
    refine hw_icle (tgt := 18) (aX12_frame 8 rfl) (by decide) rfl (by decide : (15 : Int32).toInt = 15) (fun cd6 => ?_) (fun cd6 => ?_)
    · refine hw_aloadn (aX12_frame 11 rfl) rfl ?_
      refine xw_iloadn (aX12_frame 12 rfl) rfl ?_
      refine hv_puti (aX12_frame 13 rfl) wf_RX12_23 (c121 hS) (s121 hS) (by decide) rfl rfl (fun FI7 u8 => ?_)
      have hI9 : g_I FI7 := gU_121_5 hI3 u8 (by omega) (by omega)
      refine hw_ic (v := (1 : Int32)) (aX12_frame 14 rfl) (by decide) ?_
      refine xw_iret (aX12_frame 15 rfl) rfl (by decide) ?_
      have e10 : ((1 : Int32)).toInt = 1 := (by decide : (1 : Int32).toInt = 1)
      exact ⟨(1 : Int32), rfl, FI7, rfl, hI9, (gf_f (gf_f gf_rf u2 (by decide)) u8 (by decide)), (by have : ((1 : Int32)).toInt = 1 := (by decide); omega)⟩
    · refine hw_ic (v := (0 : Int32)) (aX12_frame 9 rfl) (by decide) ?_
      refine xw_iret (aX12_frame 10 rfl) rfl (by decide) ?_
      have e11 : ((0 : Int32)).toInt = 0 := (by decide : (0 : Int32).toInt = 0)
      exact ⟨(0 : Int32), rfl, FI1, rfl, hI3, (gf_f gf_rf u2 (by decide)), (by have : ((0 : Int32)).toInt = 0 := (by decide); omega)⟩
set_option maxHeartbeats 4000000 in
set_option maxRecDepth 100000 in
theorem n_cfa {sk : xK} {base d n sl : Nat} {SH : Nat → Nat × Nat} {FI : Nat → Nat → Int32} {FL : Nat → Nat → Int64} {FR : Nat → Nat → Option Nat} (hS : h_S n SH) (hF : h_FR FR) (hI : g_I FI) (a1 : Int32) (a2 : Int64) : hw sk base d none 164 0 [(0, .ref (base + 121)), (1, .int (a1)), (2, .long (a2))] [] (n, sl, SH, FI, FL, FR) (h_I (fun r s => ∃ FI' FL', s = (n, sl, SH, FI', FL', FR) ∧ g_I FI' ∧ g_fr n SH [(121, 0), (121, 6)] [] [] FI FI' ∧ g_fr n SH [(121, 7)] [] [] FL FL' ∧ (0 ≤ r.toInt ∧ r.toInt ≤ 1))) := by
  have rg_a1 := i_rng a1
  have rg_a2 := l_rng a2
  refine hw_aloadn (aX12_cfa 0 rfl) rfl ?_
  refine hw_ic (v := (0 : Int32)) (aX12_cfa 1 rfl) (by decide) ?_
  refine hv_puti (aX12_cfa 2 rfl) wf_RX12_187 (c121 hS) (s121 hS) (by decide) rfl rfl (fun FI1 u2 => ?_)
  have hI3 : g_I FI1 := gU_F hI u2 rfl
  refine xw_iloadn (aX12_cfa 3 rfl) rfl ?_
  refine hw_ic (v := ((-1) : Int32)) (aX12_cfa 4 rfl) (by decide) ?_
  refine hw_iclt (tgt := 16) (aX12_cfa 5 rfl) (by decide) rfl (by decide : ((-1) : Int32).toInt = (-1)) (fun cd4 => ?_) (fun cd4 => ?_)
  · refine hw_ic (v := (0 : Int32)) (aX12_cfa 9 rfl) (by decide) ?_
    refine xw_iret (aX12_cfa 10 rfl) rfl (by decide) ?_
    have e5 : ((0 : Int32)).toInt = 0 := (by decide : (0 : Int32).toInt = 0)
    exact ⟨(0 : Int32), rfl, FI1, FL, rfl, hI3, (gf_f gf_rf u2 (by decide)), gf_rf, (by have : ((0 : Int32)).toInt = 0 := (by decide); omega)⟩
  · refine xw_iloadn (aX12_cfa 6 rfl) rfl ?_
    refine hw_bp (v := (31 : Int32)) (aX12_cfa 7 rfl) (by decide) ?_
    refine hw_icle (tgt := 18) (aX12_cfa 8 rfl) (by decide) rfl (by decide : (31 : Int32).toInt = 31) (fun cd6 => ?_) (fun cd6 => ?_)
    · refine hw_aloadn (aX12_cfa 11 rfl) rfl ?_
      refine xw_iloadn (aX12_cfa 12 rfl) rfl ?_
      refine hv_puti (aX12_cfa 13 rfl) wf_RX12_27 (c121 hS) (s121 hS) (by decide) rfl rfl (fun FI7 u8 => ?_)
      have hI9 : g_I FI7 := gU_121_6 hI3 u8 (by omega) (by omega)
      refine hw_aloadn (aX12_cfa 14 rfl) rfl ?_
      refine xw_lloadn (aX12_cfa 15 rfl) rfl ?_
      refine hv_putl (aX12_cfa 16 rfl) wf_RX12_201 (c121 hS) (s121 hS) (by decide) rfl rfl (fun FL10 u11 => ?_)
      refine hw_ic (v := (1 : Int32)) (aX12_cfa 17 rfl) (by decide) ?_
      refine xw_iret (aX12_cfa 18 rfl) rfl (by decide) ?_
      have e12 : ((1 : Int32)).toInt = 1 := (by decide : (1 : Int32).toInt = 1)
      exact ⟨(1 : Int32), rfl, FI7, FL10, rfl, hI9, (gf_f (gf_f gf_rf u2 (by decide)) u8 (by decide)), (gf_f gf_rf u11 (by decide)), (by have : ((1 : Int32)).toInt = 1 := (by decide); omega)⟩
    · refine hw_ic (v := (0 : Int32)) (aX12_cfa 9 rfl) (by decide) ?_
      refine xw_iret (aX12_cfa 10 rfl) rfl (by decide) ?_
      have e13 : ((0 : Int32)).toInt = 0 := (by decide : (0 : Int32).toInt = 0)
      exact ⟨(0 : Int32), rfl, FI1, FL, rfl, hI3, (gf_f gf_rf u2 (by decide)), gf_rf, (by have : ((0 : Int32)).toInt = 0 := (by decide); omega)⟩
set_option maxHeartbeats 4000000 in
set_option maxRecDepth 100000 in
theorem n_set {sk : xK} {base d n sl : Nat} {SH : Nat → Nat × Nat} {FI : Nat → Nat → Int32} {FL : Nat → Nat → Int64} {FR : Nat → Nat → Option Nat} (hS : h_S n SH) (hF : h_FR FR) (hI : g_I FI) (a1 : Int32) (a2 : Int64) (a3 : Int32) (g0 : 0 ≤ (a3).toInt ∧ (a3).toInt ≤ 1) : hw sk base d none 165 0 [(0, .ref (base + 121)), (1, .int (a1)), (2, .long (a2)), (4, .int (a3))] [] (n, sl, SH, FI, FL, FR) (h_I (fun r s => ∃ FI' FL', s = (n, sl, SH, FI', FL', FR) ∧ g_I FI' ∧ g_fr n SH [(121, 0), (121, 10), (121, 11)] [] [] FI FI' ∧ g_fr n SH [(121, 8), (121, 9)] [] [] FL FL' ∧ (0 ≤ r.toInt ∧ r.toInt ≤ 1))) := by
  have rg_a1 := i_rng a1
  have rg_a2 := l_rng a2
  have rg_a3 := i_rng a3
  refine hw_aloadn (aX12_set 0 rfl) rfl ?_
  refine hw_ic (v := (0 : Int32)) (aX12_set 1 rfl) (by decide) ?_
  refine hv_puti (aX12_set 2 rfl) wf_RX12_187 (c121 hS) (s121 hS) (by decide) rfl rfl (fun FI1 u2 => ?_)
  have hI3 : g_I FI1 := gU_F hI u2 rfl
  refine xw_iloadn (aX12_set 3 rfl) rfl ?_
  refine hw_iflt (tgt := 14) (aX12_set 4 rfl) (by decide) rfl (fun cd4 => ?_) (fun cd4 => ?_)
  · refine hw_ic (v := (0 : Int32)) (aX12_set 8 rfl) (by decide) ?_
    refine xw_iret (aX12_set 9 rfl) rfl (by decide) ?_
    have e5 : ((0 : Int32)).toInt = 0 := (by decide : (0 : Int32).toInt = 0)
    exact ⟨(0 : Int32), rfl, FI1, FL, rfl, hI3, (gf_f gf_rf u2 (by decide)), gf_rf, (by have : ((0 : Int32)).toInt = 0 := (by decide); omega)⟩
  · refine xw_iloadn (aX12_set 5 rfl) rfl ?_
    refine hw_ic (v := (1 : Int32)) (aX12_set 6 rfl) (by decide) ?_
    refine hw_icle (tgt := 16) (aX12_set 7 rfl) (by decide) rfl (by decide : (1 : Int32).toInt = 1) (fun cd6 => ?_) (fun cd6 => ?_)
    · refine xw_iloadn (aX12_set 10 rfl) rfl ?_
      refine hw_ifne (tgt := 34) (aX12_set 11 rfl) (by decide) rfl (fun cd7 => ?_) (fun cd7 => ?_)
      · refine hw_aloadn (aX12_set 19 rfl) rfl ?_
        refine xw_lloadn (aX12_set 20 rfl) rfl ?_
        refine hv_putl (aX12_set 21 rfl) wf_RX12_212 (c121 hS) (s121 hS) (by decide) rfl rfl (fun FL8 u9 => ?_)
        refine hw_aloadn (aX12_set 22 rfl) rfl ?_
        refine xw_iload (aX12_set 23 rfl) rfl ?_
        refine hv_putz (aX12_set 24 rfl) wf_RX12_215 (c121 hS) (s121 hS) (by decide) rfl rfl (i_01 rfl (by omega) (by omega)) (fun FI10 u11 => ?_)
        have hI12 : g_I FI10 := gU_121_11 hI3 u11 (by omega) (by omega)
        refine hw_ic (v := (1 : Int32)) (aX12_set 25 rfl) (by decide) ?_
        refine xw_iret (aX12_set 26 rfl) rfl (by decide) ?_
        have e13 : ((1 : Int32)).toInt = 1 := (by decide : (1 : Int32).toInt = 1)
        exact ⟨(1 : Int32), rfl, FI10, FL8, rfl, hI12, (gf_f (gf_f gf_rf u2 (by decide)) u11 (by decide)), (gf_f gf_rf u9 (by decide)), (by have : ((1 : Int32)).toInt = 1 := (by decide); omega)⟩
      · refine hw_aloadn (aX12_set 12 rfl) rfl ?_
        refine xw_lloadn (aX12_set 13 rfl) rfl ?_
        refine hv_putl (aX12_set 14 rfl) wf_RX12_205 (c121 hS) (s121 hS) (by decide) rfl rfl (fun FL14 u15 => ?_)
        refine hw_aloadn (aX12_set 15 rfl) rfl ?_
        refine xw_iload (aX12_set 16 rfl) rfl ?_
        refine hv_putz (aX12_set 17 rfl) wf_RX12_208 (c121 hS) (s121 hS) (by decide) rfl rfl (i_01 rfl (by omega) (by omega)) (fun FI16 u17 => ?_)
        have hI18 : g_I FI16 := gU_121_10 hI3 u17 (by omega) (by omega)
        refine xw_goto (tgt := 45) (aX12_set 18 rfl) (by decide) ?_
        refine hw_ic (v := (1 : Int32)) (aX12_set 25 rfl) (by decide) ?_
        refine xw_iret (aX12_set 26 rfl) rfl (by decide) ?_
        have e19 : ((1 : Int32)).toInt = 1 := (by decide : (1 : Int32).toInt = 1)
        exact ⟨(1 : Int32), rfl, FI16, FL14, rfl, hI18, (gf_f (gf_f gf_rf u2 (by decide)) u17 (by decide)), (gf_f gf_rf u15 (by decide)), (by have : ((1 : Int32)).toInt = 1 := (by decide); omega)⟩
    · refine hw_ic (v := (0 : Int32)) (aX12_set 8 rfl) (by decide) ?_
      refine xw_iret (aX12_set 9 rfl) rfl (by decide) ?_
      have e20 : ((0 : Int32)).toInt = 0 := (by decide : (0 : Int32).toInt = 0)
      exact ⟨(0 : Int32), rfl, FI1, FL, rfl, hI3, (gf_f gf_rf u2 (by decide)), gf_rf, (by have : ((0 : Int32)).toInt = 0 := (by decide); omega)⟩
set_option maxHeartbeats 4000000 in
set_option maxRecDepth 100000 in
theorem n_feed {sk : xK} {base d n sl : Nat} {SH : Nat → Nat × Nat} {FI : Nat → Nat → Int32} {FL : Nat → Nat → Int64} {FR : Nat → Nat → Option Nat} (hS : h_S n SH) (hF : h_FR FR) (hI : g_I FI) (a1 : Int32) (a2 : Int32) (a3 : Int32) (a4 : Int32) (a5 : Int32) : hw sk base (d + 1) none 154 0 [(0, .ref (base + 121)), (1, .int (a1)), (2, .int (a2)), (3, .int (a3)), (4, .int (a4)), (5, .int (a5))] [] (n, sl, SH, FI, FL, FR) (h_I (fun r s => ∃ FI', s = (n, sl, SH, FI', FL, FR) ∧ g_I FI' ∧ g_fr n SH [(121, 0), (121, 13)] [126] [] FI FI')) := by
  have rg_a1 := i_rng a1
  have rg_a2 := i_rng a2
  have rg_a3 := i_rng a3
  have rg_a4 := i_rng a4
  have rg_a5 := i_rng a5
  refine hw_aloadn (aX12_feed 0 rfl) rfl ?_
  refine hw_ic (v := (0 : Int32)) (aX12_feed 1 rfl) (by decide) ?_
  refine hv_puti (aX12_feed 2 rfl) wf_RX12_187 (c121 hS) (s121 hS) (by decide) rfl rfl (fun FI1 u2 => ?_)
  have hI3 : g_I FI1 := gU_F hI u2 rfl
  refine hw_aloadn (aX12_feed 3 rfl) rfl ?_
  obtain ⟨x4, h5⟩ : ∃ y, FI1 121 13 = y := ⟨_, rfl⟩
  have h5l := congrArg Int32.toInt h5
  have b6 := gI_121_13 hI3; rw [h5] at b6
  refine hw_get (v := .int (x4)) (aX12_feed 4 rfl) wf_RX12_190 (c121 hS) (s121 hS) (by decide) (congrArg Value.int (show FI1 121 13 = x4 from h5)) ?_
  refine hw_bp (v := (20 : Int32)) (aX12_feed 5 rfl) (by decide) ?_
  refine xw_iadd (aX12_feed 6 rfl) ?_
  refine hw_tie (A := ((x4).toInt) + (20)) (i_add rfl (by decide : (20 : Int32).toInt = 20) (by omega) (by omega)) (fun x7 e8 => ?_)
  refine hw_sp (v := (1000 : Int32)) (aX12_feed 7 rfl) (by decide) ?_
  refine hw_icle (tgt := 20) (aX12_feed 8 rfl) (by decide) e8 (by decide : (1000 : Int32).toInt = 1000) (fun cd9 => ?_) (fun cd9 => ?_)
  · refine hw_aloadn (aX12_feed 11 rfl) rfl ?_
    refine xw_iloadn (aX12_feed 12 rfl) rfl ?_
    refine hw_callV (Bs := [.int (a1)]) (rest := []) (aX12_feed 13 rfl) wc_RX12_193 (by decide) rfl wi_yX12_puts wv_yX12_puts (c121 hS) (s121 hS) rfl rfl rfl (Nat.le_of_ble_eq_true rfl) (Nat.le_of_ble_eq_true rfl) (n_puts (d := d) hS hF hI3 (a1) (by have := congrArg Int32.toInt (show FI1 121 13 = x4 from h5); omega)) (fun v10 sv11 p12 => ?_)
    have := congrArg Int32.toInt (show FI1 121 13 = x4 from h5)
    obtain ⟨rfl, FI14, rfl, hI15, f16, t17⟩ := p12
    obtain ⟨x18, h19⟩ : ∃ y, FI14 121 13 = y := ⟨_, rfl⟩
    have h19l := congrArg Int32.toInt h19
    have b20 := gI_121_13 hI15; rw [h19] at b20
    show hw sk base _ _ _ _ _ [] _ _
    refine hw_aloadn (aX12_feed 14 rfl) rfl ?_
    refine xw_iloadn (aX12_feed 15 rfl) rfl ?_
    refine hw_callV (Bs := [.int (a2)]) (rest := []) (aX12_feed 16 rfl) wc_RX12_193 (by decide) rfl wi_yX12_puts wv_yX12_puts (c121 hS) (s121 hS) rfl rfl rfl (Nat.le_of_ble_eq_true rfl) (Nat.le_of_ble_eq_true rfl) (n_puts (d := d) hS hF hI15 (a2) (by have := congrArg Int32.toInt (show FI14 121 13 = x18 from h19); omega)) (fun v21 sv22 p23 => ?_)
    have := congrArg Int32.toInt (show FI14 121 13 = x18 from h19)
    obtain ⟨rfl, FI25, rfl, hI26, f27, t28⟩ := p23
    obtain ⟨x29, h30⟩ : ∃ y, FI25 121 13 = y := ⟨_, rfl⟩
    have h30l := congrArg Int32.toInt h30
    have b31 := gI_121_13 hI26; rw [h30] at b31
    show hw sk base _ _ _ _ _ [] _ _
    refine hw_aloadn (aX12_feed 17 rfl) rfl ?_
    refine xw_iloadn (aX12_feed 18 rfl) rfl ?_
    refine hw_callV (Bs := [.int (a3)]) (rest := []) (aX12_feed 19 rfl) wc_RX12_193 (by decide) rfl wi_yX12_puts wv_yX12_puts (c121 hS) (s121 hS) rfl rfl rfl (Nat.le_of_ble_eq_true rfl) (Nat.le_of_ble_eq_true rfl) (n_puts (d := d) hS hF hI26 (a3) (by have := congrArg Int32.toInt (show FI25 121 13 = x29 from h30); omega)) (fun v32 sv33 p34 => ?_)
    have := congrArg Int32.toInt (show FI25 121 13 = x29 from h30)
    obtain ⟨rfl, FI36, rfl, hI37, f38, t39⟩ := p34
    obtain ⟨x40, h41⟩ : ∃ y, FI36 121 13 = y := ⟨_, rfl⟩
    have h41l := congrArg Int32.toInt h41
    have b42 := gI_121_13 hI37; rw [h41] at b42
    show hw sk base _ _ _ _ _ [] _ _
    refine hw_aloadn (aX12_feed 20 rfl) rfl ?_
    refine xw_iload (aX12_feed 21 rfl) rfl ?_
    refine hw_callV (Bs := [.int (a4)]) (rest := []) (aX12_feed 22 rfl) wc_RX12_193 (by decide) rfl wi_yX12_puts wv_yX12_puts (c121 hS) (s121 hS) rfl rfl rfl (Nat.le_of_ble_eq_true rfl) (Nat.le_of_ble_eq_true rfl) (n_puts (d := d) hS hF hI37 (a4) (by have := congrArg Int32.toInt (show FI36 121 13 = x40 from h41); omega)) (fun v43 sv44 p45 => ?_)
    have := congrArg Int32.toInt (show FI36 121 13 = x40 from h41)
    obtain ⟨rfl, FI47, rfl, hI48, f49, t50⟩ := p45
    obtain ⟨x51, h52⟩ : ∃ y, FI47 121 13 = y := ⟨_, rfl⟩
    have h52l := congrArg Int32.toInt h52
    have b53 := gI_121_13 hI48; rw [h52] at b53
    show hw sk base _ _ _ _ _ [] _ _
    refine hw_aloadn (aX12_feed 23 rfl) rfl ?_
    refine xw_iload (aX12_feed 24 rfl) rfl ?_
    refine hw_callV (Bs := [.int (a5)]) (rest := []) (aX12_feed 25 rfl) wc_RX12_193 (by decide) rfl wi_yX12_puts wv_yX12_puts (c121 hS) (s121 hS) rfl rfl rfl (Nat.le_of_ble_eq_true rfl) (Nat.le_of_ble_eq_true rfl) (n_puts (d := d) hS hF hI48 (a5) (by have := congrArg Int32.toInt (show FI47 121 13 = x51 from h52); omega)) (fun v54 sv55 p56 => ?_)
    have := congrArg Int32.toInt (show FI47 121 13 = x51 from h52)
    obtain ⟨rfl, FI58, rfl, hI59, f60, t61⟩ := p56
    obtain ⟨x62, h63⟩ : ∃ y, FI58 121 13 = y := ⟨_, rfl⟩
    have h63l := congrArg Int32.toInt h63
    have b64 := gI_121_13 hI59; rw [h63] at b64
    show hw sk base _ _ _ _ _ [] _ _
    refine hw_aloadn (aX12_feed 26 rfl) rfl ?_
    refine hw_get (v := .int (x62)) (aX12_feed 27 rfl) wf_RX12_190 (c121 hS) (s121 hS) (by decide) (congrArg Value.int (show FI58 121 13 = x62 from h63)) ?_
    refine xw_iret (aX12_feed 28 rfl) rfl rfl ?_
    exact ⟨x62, rfl, FI58, rfl, hI59, (gf_tr ex_rf (gf_tr ex_rf (gf_tr ex_rf (gf_tr ex_rf (gf_tr ex_rf (gf_f gf_rf u2 (by decide)) f16 rfl rfl rfl) f27 rfl rfl rfl) f38 rfl rfl rfl) f49 rfl rfl rfl) f60 rfl rfl rfl)⟩
  · refine hw_ic (v := ((-1) : Int32)) (aX12_feed 9 rfl) (by decide) ?_
    refine xw_iret (aX12_feed 10 rfl) rfl rfl ?_
    have e65 : (((-1) : Int32)).toInt = (-1) := (by decide : ((-1) : Int32).toInt = (-1))
    exact ⟨((-1) : Int32), rfl, FI1, rfl, hI3, (gf_f gf_rf u2 (by decide))⟩
set_option maxHeartbeats 4000000 in
set_option maxRecDepth 100000 in
theorem n_told {sk : xK} {base d n sl : Nat} {SH : Nat → Nat × Nat} {FI : Nat → Nat → Int32} {FL : Nat → Nat → Int64} {FR : Nat → Nat → Option Nat} (hS : h_S n SH) (hF : h_FR FR) (hI : g_I FI) (a1 : Int32) : hw sk base d none 197 0 [(0, .ref (base + 121)), (1, .int (a1))] [] (n, sl, SH, FI, FL, FR) (h_I (fun r s => ∃ FI', s = (n, sl, SH, FI', FL, FR) ∧ g_I FI' ∧ g_fr n SH [(121, 0)] [] [] FI FI')) := by
  have rg_a1 := i_rng a1
  refine hw_aloadn (aX12_told 0 rfl) rfl ?_
  refine hw_ic (v := (0 : Int32)) (aX12_told 1 rfl) (by decide) ?_
  refine hv_puti (aX12_told 2 rfl) wf_RX12_187 (c121 hS) (s121 hS) (by decide) rfl rfl (fun FI1 u2 => ?_)
  have hI3 : g_I FI1 := gU_F hI u2 rfl
  refine hw_aloadn (aX12_told 3 rfl) rfl ?_
  obtain ⟨x4, h5⟩ : ∃ y, FI1 121 53 = y := ⟨_, rfl⟩
  have h5l := congrArg Int32.toInt h5
  have b6 := gI_121_53 hI3; rw [h5] at b6
  refine hw_get (v := .int (x4)) (aX12_told 4 rfl) wf_RX12_361 (c121 hS) (s121 hS) (by decide) (congrArg Value.int (show FI1 121 53 = x4 from h5)) ?_
  refine hw_ifne (tgt := 14) (aX12_told 5 rfl) (by decide) rfl (fun cd7 => ?_) (fun cd7 => ?_)
  · refine xw_iloadn (aX12_told 8 rfl) rfl ?_
    refine hw_ifne (tgt := 23) (aX12_told 9 rfl) (by decide) rfl (fun cd8 => ?_) (fun cd8 => ?_)
    · refine xw_iloadn (aX12_told 13 rfl) rfl ?_
      refine hw_ic (v := (1 : Int32)) (aX12_told 14 rfl) (by decide) ?_
      refine hw_icne (tgt := 33) (aX12_told 15 rfl) (by decide) rfl (by decide : (1 : Int32).toInt = 1) (fun cd9 => ?_) (fun cd9 => ?_)
      · refine xw_iloadn (aX12_told 19 rfl) rfl ?_
        refine hw_ic (v := (2 : Int32)) (aX12_told 20 rfl) (by decide) ?_
        refine hw_icne (tgt := 43) (aX12_told 21 rfl) (by decide) rfl (by decide : (2 : Int32).toInt = 2) (fun cd10 => ?_) (fun cd10 => ?_)
        · refine xw_iloadn (aX12_told 25 rfl) rfl ?_
          refine hw_ic (v := (3 : Int32)) (aX12_told 26 rfl) (by decide) ?_
          refine hw_icne (tgt := 55) (aX12_told 27 rfl) (by decide) rfl (by decide : (3 : Int32).toInt = 3) (fun cd11 => ?_) (fun cd11 => ?_)
          · refine hw_ic (v := ((-1) : Int32)) (aX12_told 31 rfl) (by decide) ?_
            refine xw_iret (aX12_told 32 rfl) rfl rfl ?_
            have e12 : (((-1) : Int32)).toInt = (-1) := (by decide : ((-1) : Int32).toInt = (-1))
            exact ⟨((-1) : Int32), rfl, FI1, rfl, hI3, (gf_f gf_rf u2 (by decide))⟩
          · refine hw_aloadn (aX12_told 28 rfl) rfl ?_
            obtain ⟨x13, h14⟩ : ∃ y, FI1 121 57 = y := ⟨_, rfl⟩
            have h14l := congrArg Int32.toInt h14
            have := i_rng x13
            refine hw_get (v := .int (x13)) (aX12_told 29 rfl) wf_RX12_370 (c121 hS) (s121 hS) (by decide) (congrArg Value.int (show FI1 121 57 = x13 from h14)) ?_
            refine xw_goto (tgt := 56) (aX12_told 30 rfl) (by decide) ?_
            refine xw_iret (aX12_told 32 rfl) rfl rfl ?_
            exact ⟨x13, rfl, FI1, rfl, hI3, (gf_f gf_rf u2 (by decide))⟩
        · refine hw_aloadn (aX12_told 22 rfl) rfl ?_
          obtain ⟨x15, h16⟩ : ∃ y, FI1 121 56 = y := ⟨_, rfl⟩
          have h16l := congrArg Int32.toInt h16
          have := i_rng x15
          refine hw_get (v := .int (x15)) (aX12_told 23 rfl) wf_RX12_367 (c121 hS) (s121 hS) (by decide) (congrArg Value.int (show FI1 121 56 = x15 from h16)) ?_
          refine xw_iret (aX12_told 24 rfl) rfl rfl ?_
          exact ⟨x15, rfl, FI1, rfl, hI3, (gf_f gf_rf u2 (by decide))⟩
      · refine hw_aloadn (aX12_told 16 rfl) rfl ?_
        obtain ⟨x17, h18⟩ : ∃ y, FI1 121 55 = y := ⟨_, rfl⟩
        have h18l := congrArg Int32.toInt h18
        have := i_rng x17
        refine hw_get (v := .int (x17)) (aX12_told 17 rfl) wf_RX12_99 (c121 hS) (s121 hS) (by decide) (congrArg Value.int (show FI1 121 55 = x17 from h18)) ?_
        refine xw_iret (aX12_told 18 rfl) rfl rfl ?_
        exact ⟨x17, rfl, FI1, rfl, hI3, (gf_f gf_rf u2 (by decide))⟩
    · refine hw_aloadn (aX12_told 10 rfl) rfl ?_
      obtain ⟨x19, h20⟩ : ∃ y, FI1 121 54 = y := ⟨_, rfl⟩
      have h20l := congrArg Int32.toInt h20
      have := i_rng x19
      refine hw_get (v := .int (x19)) (aX12_told 11 rfl) wf_RX12_364 (c121 hS) (s121 hS) (by decide) (congrArg Value.int (show FI1 121 54 = x19 from h20)) ?_
      refine xw_iret (aX12_told 12 rfl) rfl rfl ?_
      exact ⟨x19, rfl, FI1, rfl, hI3, (gf_f gf_rf u2 (by decide))⟩
  · refine hw_ic (v := ((-1) : Int32)) (aX12_told 6 rfl) (by decide) ?_
    refine xw_iret (aX12_told 7 rfl) rfl rfl ?_
    have e21 : (((-1) : Int32)).toInt = (-1) := (by decide : ((-1) : Int32).toInt = (-1))
    exact ⟨((-1) : Int32), rfl, FI1, rfl, hI3, (gf_f gf_rf u2 (by decide))⟩
set_option maxHeartbeats 4000000 in
set_option maxRecDepth 100000 in
theorem n_parts {sk : xK} {base d n sl : Nat} {SH : Nat → Nat × Nat} {FI : Nat → Nat → Int32} {FL : Nat → Nat → Int64} {FR : Nat → Nat → Option Nat} (hS : h_S n SH) (hF : h_FR FR) (hI : g_I FI) : hw sk base d none 198 0 [(0, .ref (base + 121))] [] (n, sl, SH, FI, FL, FR) (h_I (fun r s => ∃ FI', s = (n, sl, SH, FI', FL, FR) ∧ g_I FI' ∧ g_fr n SH [(121, 0)] [] [] FI FI')) := by
  refine hw_aloadn (aX12_parts 0 rfl) rfl ?_
  refine hw_ic (v := (0 : Int32)) (aX12_parts 1 rfl) (by decide) ?_
  refine hv_puti (aX12_parts 2 rfl) wf_RX12_187 (c121 hS) (s121 hS) (by decide) rfl rfl (fun FI1 u2 => ?_)
  have hI3 : g_I FI1 := gU_F hI u2 rfl
  refine hw_aloadn (aX12_parts 3 rfl) rfl ?_
  obtain ⟨x4, h5⟩ : ∃ y, FI1 121 46 = y := ⟨_, rfl⟩
  have h5l := congrArg Int32.toInt h5
  have b6 := gI_121_46 hI3; rw [h5] at b6
  refine hw_get (v := .int (x4)) (aX12_parts 4 rfl) wf_RX12_81 (c121 hS) (s121 hS) (by decide) (congrArg Value.int (show FI1 121 46 = x4 from h5)) ?_
  refine xw_iret (aX12_parts 5 rfl) rfl rfl ?_
  exact ⟨x4, rfl, FI1, rfl, hI3, (gf_f gf_rf u2 (by decide))⟩
set_option maxHeartbeats 4000000 in
set_option maxRecDepth 100000 in
theorem n_out {sk : xK} {base d n sl : Nat} {SH : Nat → Nat × Nat} {FI : Nat → Nat → Int32} {FL : Nat → Nat → Int64} {FR : Nat → Nat → Option Nat} (hS : h_S n SH) (hF : h_FR FR) (hI : g_I FI) (a1 : Int32) : hw sk base d none 205 0 [(0, .ref (base + 121)), (1, .int (a1))] [] (n, sl, SH, FI, FL, FR) (h_I (fun r s => ∃ FI', s = (n, sl, SH, FI', FL, FR) ∧ g_I FI' ∧ g_fr n SH [(121, 0)] [] [] FI FI')) := by
  have rg_a1 := i_rng a1
  refine hw_aloadn (aX12_out 0 rfl) rfl ?_
  refine hw_ic (v := (0 : Int32)) (aX12_out 1 rfl) (by decide) ?_
  refine hv_puti (aX12_out 2 rfl) wf_RX12_187 (c121 hS) (s121 hS) (by decide) rfl rfl (fun FI1 u2 => ?_)
  have hI3 : g_I FI1 := gU_F hI u2 rfl
  refine xw_iloadn (aX12_out 3 rfl) rfl ?_
  refine hw_iflt (tgt := 17) (aX12_out 4 rfl) (by decide) rfl (fun cd4 => ?_) (fun cd4 => ?_)
  · refine hw_ic (v := ((-1) : Int32)) (aX12_out 9 rfl) (by decide) ?_
    refine xw_goto (tgt := 27) (aX12_out 10 rfl) (by decide) ?_
    refine xw_iret (aX12_out 15 rfl) rfl rfl ?_
    have e5 : (((-1) : Int32)).toInt = (-1) := (by decide : ((-1) : Int32).toInt = (-1))
    exact ⟨((-1) : Int32), rfl, FI1, rfl, hI3, (gf_f gf_rf u2 (by decide))⟩
  · refine xw_iloadn (aX12_out 5 rfl) rfl ?_
    refine hw_aloadn (aX12_out 6 rfl) rfl ?_
    obtain ⟨x6, h7⟩ : ∃ y, FI1 121 61 = y := ⟨_, rfl⟩
    have h7l := congrArg Int32.toInt h7
    have b8 := gI_121_61 hI3; rw [h7] at b8
    refine hw_get (v := .int (x6)) (aX12_out 7 rfl) wf_RX12_410 (c121 hS) (s121 hS) (by decide) (congrArg Value.int (show FI1 121 61 = x6 from h7)) ?_
    refine hw_iclt (tgt := 21) (aX12_out 8 rfl) (by decide) rfl rfl (fun cd9 => ?_) (fun cd9 => ?_)
    · refine hw_aloadn (aX12_out 11 rfl) rfl ?_
      refine hw_get (v := .ref (base + 148)) (aX12_out 12 rfl) wf_RX12_102 (c121 hS) (s121 hS) (by decide) (congrArg (fun r => va_rf (h_rf base r)) (r121_60 hF)) ?_
      refine xw_iloadn (aX12_out 13 rfl) rfl ?_
      obtain ⟨x10, h11⟩ : ∃ y, FI1 148 (a1).toNatClampNeg = y := ⟨_, rfl⟩
      have h11l := congrArg Int32.toInt h11
      have := i_rng x10
      refine hw_iald (v := x10) (aX12_out 14 rfl) (c148 hS) (s148 hS) (h_in rfl (by omega) (by omega)) (show FI1 148 (a1).toNatClampNeg = x10 from h11) ?_
      refine xw_iret (aX12_out 15 rfl) rfl rfl ?_
      exact ⟨x10, rfl, FI1, rfl, hI3, (gf_f gf_rf u2 (by decide))⟩
    · refine hw_ic (v := ((-1) : Int32)) (aX12_out 9 rfl) (by decide) ?_
      refine xw_goto (tgt := 27) (aX12_out 10 rfl) (by decide) ?_
      refine xw_iret (aX12_out 15 rfl) rfl rfl ?_
      have e12 : (((-1) : Int32)).toInt = (-1) := (by decide : ((-1) : Int32).toInt = (-1))
      exact ⟨((-1) : Int32), rfl, FI1, rfl, hI3, (gf_f gf_rf u2 (by decide))⟩
end
