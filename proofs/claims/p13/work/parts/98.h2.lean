set_option maxHeartbeats 4000000 in
set_option maxRecDepth 100000 in
theorem k_take2 {sk : xK} {base d n sl : Nat} {SH : Nat → Nat × Nat} {FI : Nat → Nat → Int32} {FL : Nat → Nat → Int64} {FR : Nat → Nat → Option Nat} (hS : h_S n SH) (hF : h_FR FR) (hI : g_I FI) (hR : g_R n SH FR) (g0 : 0 ≤ (FI 110 7).toInt ∧ (FI 110 7).toInt < (FI 111 4).toInt) (g1 : (FI 110 5).toInt = 0 ∨ (FI 110 8).toInt = 1) (g2 : (FI 110 7).toInt + 1 < (FI 111 4).toInt ∨ (FI 110 8).toInt ≤ 3) (gg0 : g_K FI) : hw sk base d none 38 0 [(0, .ref (base + 110))] [] (n, sl, SH, FI, FL, FR) (h_V (fun s => ∃ FI' FL', s = (n, sl, SH, FI', FL', FR) ∧ g_I FI' ∧ g_fr n (shd SH) [(110, 7), (110, 8)] [] [] FI FI' ∧ g_fr n (shd SH) [(110, 9)] [] [] FL FL' ∧ (0 ≤ (FI' 110 7).toInt ∧ (FI' 110 7).toInt < (FI 111 4).toInt) ∧ ((FI' 110 5).toInt = 0 ∨ (FI' 110 8).toInt = 1) ∧ ((FI' 110 7).toInt + 1 < (FI 111 4).toInt ∨ (FI' 110 8).toInt ≤ 3) ∧ ((FI 110 7).toInt ≤ (FI' 110 7).toInt) ∧ ((FI 110 5).toInt = 0 ∨ (FI' 110 5).toInt = (FI 110 5).toInt) ∧ ((FI' 110 5).toInt = (FI 110 5).toInt) ∧ ((FI 110 5).toInt ≠ 0 ∨ (FI 110 7).toInt + 1 ≥ (FI 111 4).toInt ∨ (FI' 110 7).toInt = (FI 110 7).toInt + 1) ∧ ((FI' 110 7).toInt ≤ (FI 110 7).toInt + 1) ∧ ((FI 110 5).toInt = 0 ∨ (FI' 110 8).toInt = (FI 110 8).toInt))) := by
  obtain ⟨x1, h2⟩ : ∃ y, FI 110 7 = y := ⟨_, rfl⟩
  have h2l := congrArg Int32.toInt h2
  have b3 := gI_110_7 hI; rw [h2] at b3
  obtain ⟨x4, h5⟩ : ∃ y, FI 111 4 = y := ⟨_, rfl⟩
  have h5l := congrArg Int32.toInt h5
  have b6 := gI_111_4 hI; rw [h5] at b6
  obtain ⟨x7, h8⟩ : ∃ y, FI 110 5 = y := ⟨_, rfl⟩
  have h8l := congrArg Int32.toInt h8
  have := i_rng x7
  obtain ⟨x9, h10⟩ : ∃ y, FI 110 8 = y := ⟨_, rfl⟩
  have h10l := congrArg Int32.toInt h10
  have := i_rng x9
  refine hw_aloadn (aX4_take 0 rfl) rfl ?_
  refine hw_get (v := .int (x7)) (aX4_take 1 rfl) wf_RX4_39 (c110 hS) (s110 hS) (by decide) (congrArg Value.int (show FI 110 5 = x7 from h8)) ?_
  refine hw_ifne (tgt := 65) (aX4_take 2 rfl) (by decide) rfl (fun cd11 => ?_) (fun cd11 => ?_)
  · refine xw_vret (aX4_take 33 rfl) rfl ?_
    exact ⟨rfl, FI, FL, rfl, hI, gf_rf, gf_rf, (by have := congrArg Int32.toInt (show FI 110 7 = x1 from h2); omega), (by have := congrArg Int32.toInt (show FI 110 5 = x7 from h8); have := congrArg Int32.toInt (show FI 110 8 = x9 from h10); omega), (by have := congrArg Int32.toInt (show FI 110 7 = x1 from h2); have := congrArg Int32.toInt (show FI 110 8 = x9 from h10); omega), (by have := congrArg Int32.toInt (show FI 110 7 = x1 from h2); omega), (by have := congrArg Int32.toInt (show FI 110 5 = x7 from h8); omega), (by have := congrArg Int32.toInt (show FI 110 5 = x7 from h8); omega), (by have := congrArg Int32.toInt (show FI 110 7 = x1 from h2); omega), (by have := congrArg Int32.toInt (show FI 110 7 = x1 from h2); omega), (by have := congrArg Int32.toInt (show FI 110 8 = x9 from h10); omega)⟩
  · refine hw_aloadn (aX4_take 3 rfl) rfl ?_
    refine hw_get (v := .int (x1)) (aX4_take 4 rfl) wf_RX4_45 (c110 hS) (s110 hS) (by decide) (congrArg Value.int (show FI 110 7 = x1 from h2)) ?_
    refine hw_ic (v := (1 : Int32)) (aX4_take 5 rfl) (by decide) ?_
    refine xw_iadd (aX4_take 6 rfl) ?_
    refine hw_tie (A := ((x1).toInt) + (1)) (i_add rfl (by decide : (1 : Int32).toInt = 1) (by omega) (by omega)) (fun x12 e13 => ?_)
    refine hw_aloadn (aX4_take 7 rfl) rfl ?_
    refine hw_get (v := .ref (base + 111)) (aX4_take 8 rfl) wf_RX4_12 (c110 hS) (s110 hS) (by decide) (congrArg (fun r => va_rf (h_rf base r)) (r110_0 hF)) ?_
    refine hw_get (v := .int (x4)) (aX4_take 9 rfl) wf_RX4_54 (c111 hS) (s111 hS) (by decide) (congrArg Value.int (show FI 111 4 = x4 from h5)) ?_
    refine hw_icge (tgt := 65) (aX4_take 10 rfl) (by decide) e13 rfl (fun cd14 => ?_) (fun cd14 => ?_)
    · refine xw_vret (aX4_take 33 rfl) rfl ?_
      exact ⟨rfl, FI, FL, rfl, hI, gf_rf, gf_rf, (by have := congrArg Int32.toInt (show FI 110 7 = x1 from h2); omega), (by have := congrArg Int32.toInt (show FI 110 5 = x7 from h8); have := congrArg Int32.toInt (show FI 110 8 = x9 from h10); omega), (by have := congrArg Int32.toInt (show FI 110 7 = x1 from h2); have := congrArg Int32.toInt (show FI 110 8 = x9 from h10); omega), (by have := congrArg Int32.toInt (show FI 110 7 = x1 from h2); omega), (by have := congrArg Int32.toInt (show FI 110 5 = x7 from h8); omega), (by have := congrArg Int32.toInt (show FI 110 5 = x7 from h8); omega), (by have := congrArg Int32.toInt (show FI 110 7 = x1 from h2); omega), (by have := congrArg Int32.toInt (show FI 110 7 = x1 from h2); omega), (by have := congrArg Int32.toInt (show FI 110 8 = x9 from h10); omega)⟩
    · refine hw_aloadn (aX4_take 11 rfl) rfl ?_
      refine xw_dup (aX4_take 12 rfl) rfl ?_
      refine hw_get (v := .int (x1)) (aX4_take 13 rfl) wf_RX4_45 (c110 hS) (s110 hS) (by decide) (congrArg Value.int (show FI 110 7 = x1 from h2)) ?_
      refine hw_ic (v := (1 : Int32)) (aX4_take 14 rfl) (by decide) ?_
      refine xw_iadd (aX4_take 15 rfl) ?_
      refine hw_tie (A := ((x1).toInt) + (1)) (i_add rfl (by decide : (1 : Int32).toInt = 1) (by omega) (by omega)) (fun x15 e16 => ?_)
      refine hv_puti (aX4_take 16 rfl) wf_RX4_45 (c110 hS) (s110 hS) (by decide) rfl rfl (fun FI17 u18 => ?_)
      have hI19 : g_I FI17 := gU_110_7 hI u18 (by have := (e16 : (x15).toInt = ((x1).toInt) + (1)); omega) (by have := (e16 : (x15).toInt = ((x1).toInt) + (1)); omega)
      refine hw_aloadn (aX4_take 17 rfl) rfl ?_
      refine hw_aloadn (aX4_take 18 rfl) rfl ?_
      refine hw_get (v := .ref (base + 111)) (aX4_take 19 rfl) wf_RX4_12 (c110 hS) (s110 hS) (by decide) (congrArg (fun r => va_rf (h_rf base r)) (r110_0 hF)) ?_
      refine hw_get (v := .ref (base + 112)) (aX4_take 20 rfl) wf_RX4_55 (c111 hS) (s111 hS) (by decide) (congrArg (fun r => va_rf (h_rf base r)) (r111_0 hF)) ?_
      refine hw_aloadn (aX4_take 21 rfl) rfl ?_
      refine hw_get (v := .int (x15)) (aX4_take 22 rfl) wf_RX4_45 (c110 hS) (s110 hS) (by decide) (congrArg Value.int (show FI17 110 7 = x15 from up_eq u18)) ?_
      obtain ⟨x20, h21⟩ : ∃ y, FI17 112 (x15).toNatClampNeg = y := ⟨_, rfl⟩
      have h21l := congrArg Int32.toInt h21
      have := i_rng x20
      refine hw_iald (v := x20) (aX4_take 23 rfl) (c112 hS) (s112 hS) (h_in e16 (by omega) (by omega)) (show FI17 112 (x15).toNatClampNeg = x20 from h21) ?_
      have hk3 : (x15).toInt + 1 < (x4).toInt ∨ (x20).toInt ≤ 3 := by { by_cases hq : (x15).toInt + 1 = (x4).toInt; { right; have h9 := gg0.2.1; have e9 : ((FI 111 4).toInt - 1).toNat = (x15).toNatClampNeg := (by show _ = (x15).toInt.toNat; have := (e16 : (x15).toInt = ((x1).toInt) + (1)); omega); rw [e9, ← (show FI17 112 _ = FI 112 _ from up_c u18 (by decide) rfl), show FI17 112 _ = x20 from h21] at h9; exact h9 }; { left; have := (e16 : (x15).toInt = ((x1).toInt) + (1)); omega } }
      refine hv_puti (aX4_take 24 rfl) wf_RX4_51 (c110 hS) (s110 hS) (by decide) rfl rfl (fun FI22 u23 => ?_)
      have hI24 : g_I FI22 := gU_F hI19 u23 rfl
      refine hw_aloadn (aX4_take 25 rfl) rfl ?_
      refine hw_aloadn (aX4_take 26 rfl) rfl ?_
      refine hw_get (v := .ref (base + 111)) (aX4_take 27 rfl) wf_RX4_12 (c110 hS) (s110 hS) (by decide) (congrArg (fun r => va_rf (h_rf base r)) (r110_0 hF)) ?_
      refine hw_get (v := .ref (base + 113)) (aX4_take 28 rfl) wf_RX4_58 (c111 hS) (s111 hS) (by decide) (congrArg (fun r => va_rf (h_rf base r)) (r111_1 hF)) ?_
      refine hw_aloadn (aX4_take 29 rfl) rfl ?_
      refine hw_get (v := .int (x15)) (aX4_take 30 rfl) wf_RX4_45 (c110 hS) (s110 hS) (by decide) (congrArg Value.int (show FI22 110 7 = x15 from (up_k u23 (by decide) (up_eq u18)))) ?_
      obtain ⟨x25, h26⟩ : ∃ y, FL 113 (x15).toNatClampNeg = y := ⟨_, rfl⟩
      have h26l := congrArg Int64.toInt h26
      have := l_rng x25
      refine hw_lald (v := x25) (aX4_take 31 rfl) (c113 hS) (s113 hS) (h_in e16 (by omega) (by omega)) (show FL 113 (x15).toNatClampNeg = x25 from h26) ?_
      refine hv_putl (aX4_take 32 rfl) wf_RX4_62 (c110 hS) (s110 hS) (by decide) rfl rfl (fun FL27 u28 => ?_)
      refine xw_vret (aX4_take 33 rfl) rfl ?_
      exact ⟨rfl, FI22, FL27, rfl, hI24, (gf_f (gf_f gf_rf u18 (by decide)) u23 (by decide)), (gf_f gf_rf u28 (by decide)), (by have := congrArg Int32.toInt (show FI22 110 7 = x15 from (up_k u23 (by decide) (up_eq u18))); have := (e16 : (x15).toInt = ((x1).toInt) + (1)); omega), (by have := congrArg Int32.toInt (show FI22 110 5 = x7 from (up_k u23 (by decide) ((up_k u18 (by decide) (h8))))); have := congrArg Int32.toInt (show FI22 110 8 = x20 from up_eq u23); omega), (by have := congrArg Int32.toInt (show FI22 110 7 = x15 from (up_k u23 (by decide) (up_eq u18))); have := (e16 : (x15).toInt = ((x1).toInt) + (1)); have := congrArg Int32.toInt (show FI22 110 8 = x20 from up_eq u23); omega), (by have := congrArg Int32.toInt (show FI22 110 7 = x15 from (up_k u23 (by decide) (up_eq u18))); have := (e16 : (x15).toInt = ((x1).toInt) + (1)); omega), (by have := congrArg Int32.toInt (show FI22 110 5 = x7 from (up_k u23 (by decide) ((up_k u18 (by decide) (h8))))); omega), (by have := congrArg Int32.toInt (show FI22 110 5 = x7 from (up_k u23 (by decide) ((up_k u18 (by decide) (h8))))); omega), (by have := congrArg Int32.toInt (show FI22 110 7 = x15 from (up_k u23 (by decide) (up_eq u18))); have := (e16 : (x15).toInt = ((x1).toInt) + (1)); omega), (by have := congrArg Int32.toInt (show FI22 110 7 = x15 from (up_k u23 (by decide) (up_eq u18))); have := (e16 : (x15).toInt = ((x1).toInt) + (1)); omega), (by have := congrArg Int32.toInt (show FI22 110 8 = x20 from up_eq u23); omega)⟩
set_option maxHeartbeats 4000000 in
set_option maxRecDepth 100000 in
theorem k_refuse2 {sk : xK} {base d n sl : Nat} {SH : Nat → Nat × Nat} {FI : Nat → Nat → Int32} {FL : Nat → Nat → Int64} {FR : Nat → Nat → Option Nat} (hS : h_S n SH) (hF : h_FR FR) (hI : g_I FI) (hR : g_R n SH FR) (a1 : Int32) (g0 : 0 ≤ (FI 110 7).toInt ∧ (FI 110 7).toInt < (FI 111 4).toInt) (g1 : (FI 110 5).toInt = 0 ∨ (FI 110 8).toInt = 1) (g2 : (FI 110 7).toInt + 1 < (FI 111 4).toInt ∨ (FI 110 8).toInt ≤ 3) (g3 : 1 ≤ (a1).toInt ∧ (a1).toInt ≤ 7) : hw sk base d none 39 0 [(0, .ref (base + 110)), (1, .int (a1))] [] (n, sl, SH, FI, FL, FR) (h_V (fun s => ∃ FI', s = (n, sl, SH, FI', FL, FR) ∧ g_I FI' ∧ g_fr n (shd SH) [(110, 5), (110, 6), (110, 8)] [] [] FI FI' ∧ ((FI' 110 5).toInt ≠ 0 ∧ (FI' 110 8).toInt = 1) ∧ ((FI 110 5).toInt = 0 ∨ (FI' 110 5).toInt = (FI 110 5).toInt))) := by
  have rg_a1 := i_rng a1
  obtain ⟨x1, h2⟩ : ∃ y, FI 110 7 = y := ⟨_, rfl⟩
  have h2l := congrArg Int32.toInt h2
  have b3 := gI_110_7 hI; rw [h2] at b3
  obtain ⟨x4, h5⟩ : ∃ y, FI 111 4 = y := ⟨_, rfl⟩
  have h5l := congrArg Int32.toInt h5
  have b6 := gI_111_4 hI; rw [h5] at b6
  obtain ⟨x7, h8⟩ : ∃ y, FI 110 5 = y := ⟨_, rfl⟩
  have h8l := congrArg Int32.toInt h8
  have := i_rng x7
  obtain ⟨x9, h10⟩ : ∃ y, FI 110 8 = y := ⟨_, rfl⟩
  have h10l := congrArg Int32.toInt h10
  have := i_rng x9
  refine hw_aloadn (aX4_refuse 0 rfl) rfl ?_
  refine hw_get (v := .int (x7)) (aX4_refuse 1 rfl) wf_RX4_39 (c110 hS) (s110 hS) (by decide) (congrArg Value.int (show FI 110 5 = x7 from h8)) ?_
  refine hw_ifne (tgt := 54) (aX4_refuse 2 rfl) (by decide) rfl (fun cd11 => ?_) (fun cd11 => ?_)
  · refine xw_vret (aX4_refuse 26 rfl) rfl ?_
    exact ⟨rfl, FI, rfl, hI, gf_rf, (by have := congrArg Int32.toInt (show FI 110 5 = x7 from h8); have := congrArg Int32.toInt (show FI 110 8 = x9 from h10); omega), (by have := congrArg Int32.toInt (show FI 110 5 = x7 from h8); omega)⟩
  · refine hw_aloadn (aX4_refuse 3 rfl) rfl ?_
    refine hw_get (v := .int (x1)) (aX4_refuse 4 rfl) wf_RX4_45 (c110 hS) (s110 hS) (by decide) (congrArg Value.int (show FI 110 7 = x1 from h2)) ?_
    refine hw_iflt (tgt := 54) (aX4_refuse 5 rfl) (by decide) rfl (fun cd12 => ?_) (fun cd12 => ?_)
    · refine xw_vret (aX4_refuse 26 rfl) rfl ?_
      exact ⟨rfl, FI, rfl, hI, gf_rf, (by have := congrArg Int32.toInt (show FI 110 5 = x7 from h8); have := congrArg Int32.toInt (show FI 110 8 = x9 from h10); omega), (by have := congrArg Int32.toInt (show FI 110 5 = x7 from h8); omega)⟩
    · refine hw_aloadn (aX4_refuse 6 rfl) rfl ?_
      refine hw_get (v := .int (x1)) (aX4_refuse 7 rfl) wf_RX4_45 (c110 hS) (s110 hS) (by decide) (congrArg Value.int (show FI 110 7 = x1 from h2)) ?_
      refine hw_aloadn (aX4_refuse 8 rfl) rfl ?_
      refine hw_get (v := .ref (base + 111)) (aX4_refuse 9 rfl) wf_RX4_12 (c110 hS) (s110 hS) (by decide) (congrArg (fun r => va_rf (h_rf base r)) (r110_0 hF)) ?_
      refine hw_get (v := .int (x4)) (aX4_refuse 10 rfl) wf_RX4_54 (c111 hS) (s111 hS) (by decide) (congrArg Value.int (show FI 111 4 = x4 from h5)) ?_
      refine hw_icge (tgt := 54) (aX4_refuse 11 rfl) (by decide) rfl rfl (fun cd13 => ?_) (fun cd13 => ?_)
      · refine xw_vret (aX4_refuse 26 rfl) rfl ?_
        exact ⟨rfl, FI, rfl, hI, gf_rf, (by have := congrArg Int32.toInt (show FI 110 5 = x7 from h8); have := congrArg Int32.toInt (show FI 110 8 = x9 from h10); omega), (by have := congrArg Int32.toInt (show FI 110 5 = x7 from h8); omega)⟩
      · refine hw_aloadn (aX4_refuse 12 rfl) rfl ?_
        refine xw_iloadn (aX4_refuse 13 rfl) rfl ?_
        refine hv_puti (aX4_refuse 14 rfl) wf_RX4_39 (c110 hS) (s110 hS) (by decide) rfl rfl (fun FI14 u15 => ?_)
        have hI16 : g_I FI14 := gU_F hI u15 rfl
        refine hw_aloadn (aX4_refuse 15 rfl) rfl ?_
        refine hw_aloadn (aX4_refuse 16 rfl) rfl ?_
        refine hw_get (v := .ref (base + 111)) (aX4_refuse 17 rfl) wf_RX4_12 (c110 hS) (s110 hS) (by decide) (congrArg (fun r => va_rf (h_rf base r)) (r110_0 hF)) ?_
        refine hw_get (v := .ref (base + 114)) (aX4_refuse 18 rfl) wf_RX4_66 (c111 hS) (s111 hS) (by decide) (congrArg (fun r => va_rf (h_rf base r)) (r111_2 hF)) ?_
        refine hw_aloadn (aX4_refuse 19 rfl) rfl ?_
        refine hw_get (v := .int (x1)) (aX4_refuse 20 rfl) wf_RX4_45 (c110 hS) (s110 hS) (by decide) (congrArg Value.int (show FI14 110 7 = x1 from (up_k u15 (by decide) (h2)))) ?_
        obtain ⟨x17, h18⟩ : ∃ y, FI14 114 (x1).toNatClampNeg = y := ⟨_, rfl⟩
        have h18l := congrArg Int32.toInt h18
        have := i_rng x17
        refine hw_iald (v := x17) (aX4_refuse 21 rfl) (c114 hS) (s114 hS) (h_in rfl (by omega) (by omega)) (show FI14 114 (x1).toNatClampNeg = x17 from h18) ?_
        have b19 := gI_114 hI16 (i_lt (x := x1) rfl (by omega) (by omega)); rw [h18] at b19
        refine hv_puti (aX4_refuse 22 rfl) wf_RX4_42 (c110 hS) (s110 hS) (by decide) rfl rfl (fun FI20 u21 => ?_)
        have hI22 : g_I FI20 := gU_F hI16 u21 rfl
        refine hw_aloadn (aX4_refuse 23 rfl) rfl ?_
        refine hw_ic (v := (1 : Int32)) (aX4_refuse 24 rfl) (by decide) ?_
        refine hv_puti (aX4_refuse 25 rfl) wf_RX4_51 (c110 hS) (s110 hS) (by decide) rfl rfl (fun FI23 u24 => ?_)
        have hI25 : g_I FI23 := gU_F hI22 u24 rfl
        refine xw_vret (aX4_refuse 26 rfl) rfl ?_
        exact ⟨rfl, FI23, rfl, hI25, (gf_f (gf_f (gf_f gf_rf u15 (by decide)) u21 (by decide)) u24 (by decide)), (by have := congrArg Int32.toInt (show FI23 110 5 = a1 from (up_k u24 (by decide) ((up_k u21 (by decide) (up_eq u15))))); have := congrArg Int32.toInt (show FI23 110 8 = (1 : Int32) from up_eq u24); have := ((by decide : (1 : Int32).toInt = 1) : ((1 : Int32)).toInt = 1); omega), (by have := congrArg Int32.toInt (show FI23 110 5 = a1 from (up_k u24 (by decide) ((up_k u21 (by decide) (up_eq u15))))); omega)⟩
set_option maxHeartbeats 4000000 in
set_option maxRecDepth 100000 in
theorem k_expect2 {sk : xK} {base d n sl : Nat} {SH : Nat → Nat × Nat} {FI : Nat → Nat → Int32} {FL : Nat → Nat → Int64} {FR : Nat → Nat → Option Nat} (hS : h_S n SH) (hF : h_FR FR) (hI : g_I FI) (hR : g_R n SH FR) (a1 : Int32) (g0 : 0 ≤ (FI 110 7).toInt ∧ (FI 110 7).toInt < (FI 111 4).toInt) (g1 : (FI 110 5).toInt = 0 ∨ (FI 110 8).toInt = 1) (g2 : (FI 110 7).toInt + 1 < (FI 111 4).toInt ∨ (FI 110 8).toInt ≤ 3) (gg0 : g_K FI) : hw sk base (d + 1) none 40 0 [(0, .ref (base + 110)), (1, .int (a1))] [] (n, sl, SH, FI, FL, FR) (h_V (fun s => ∃ FI' FL', s = (n, sl, SH, FI', FL', FR) ∧ g_I FI' ∧ g_fr n (shd SH) [(110, 5), (110, 6), (110, 7), (110, 8)] [] [] FI FI' ∧ g_fr n (shd SH) [(110, 9)] [] [] FL FL' ∧ (0 ≤ (FI' 110 7).toInt ∧ (FI' 110 7).toInt < (FI 111 4).toInt) ∧ ((FI' 110 5).toInt = 0 ∨ (FI' 110 8).toInt = 1) ∧ ((FI' 110 7).toInt + 1 < (FI 111 4).toInt ∨ (FI' 110 8).toInt ≤ 3) ∧ ((FI 110 7).toInt ≤ (FI' 110 7).toInt) ∧ ((FI 110 5).toInt = 0 ∨ (FI' 110 5).toInt = (FI 110 5).toInt))) := by
  have rg_a1 := i_rng a1
  obtain ⟨x1, h2⟩ : ∃ y, FI 110 7 = y := ⟨_, rfl⟩
  have h2l := congrArg Int32.toInt h2
  have b3 := gI_110_7 hI; rw [h2] at b3
  obtain ⟨x4, h5⟩ : ∃ y, FI 111 4 = y := ⟨_, rfl⟩
  have h5l := congrArg Int32.toInt h5
  have b6 := gI_111_4 hI; rw [h5] at b6
  obtain ⟨x7, h8⟩ : ∃ y, FI 110 5 = y := ⟨_, rfl⟩
  have h8l := congrArg Int32.toInt h8
  have := i_rng x7
  obtain ⟨x9, h10⟩ : ∃ y, FI 110 8 = y := ⟨_, rfl⟩
  have h10l := congrArg Int32.toInt h10
  have := i_rng x9
  refine hw_aloadn (aX4_expect 0 rfl) rfl ?_
  refine hw_get (v := .int (x9)) (aX4_expect 1 rfl) wf_RX4_51 (c110 hS) (s110 hS) (by decide) (congrArg Value.int (show FI 110 8 = x9 from h10)) ?_
  refine xw_iloadn (aX4_expect 2 rfl) rfl ?_
  refine hw_icne (tgt := 15) (aX4_expect 3 rfl) (by decide) rfl rfl (fun cd11 => ?_) (fun cd11 => ?_)
  · refine hw_aloadn (aX4_expect 7 rfl) rfl ?_
    refine hw_ic (v := (1 : Int32)) (aX4_expect 8 rfl) (by decide) ?_
    refine hw_callV (Bs := [.int ((1 : Int32))]) (rest := []) (aX4_expect 9 rfl) wc_RX4_69 (by decide) rfl wi_yX4_refuse wv_yX4_refuse (c110 hS) (s110 hS) rfl rfl rfl (Nat.le_of_ble_eq_true rfl) (Nat.le_of_ble_eq_true rfl) (k_refuse2 (d := d) hS hF hI hR ((1 : Int32)) (by have := congrArg Int32.toInt (show FI 110 7 = x1 from h2); have := congrArg Int32.toInt (show FI 110 7 = x1 from h2); have := congrArg Int32.toInt (show FI 111 4 = x4 from h5); omega) (by have := congrArg Int32.toInt (show FI 110 5 = x7 from h8); have := congrArg Int32.toInt (show FI 110 8 = x9 from h10); omega) (by have := congrArg Int32.toInt (show FI 110 7 = x1 from h2); have := congrArg Int32.toInt (show FI 111 4 = x4 from h5); have := congrArg Int32.toInt (show FI 110 8 = x9 from h10); omega) (by have := ((by decide : (1 : Int32).toInt = 1) : ((1 : Int32)).toInt = 1); have := ((by decide : (1 : Int32).toInt = 1) : ((1 : Int32)).toInt = 1); omega)) (fun v12 sv13 p14 => ?_)
    have := congrArg Int32.toInt (show FI 110 5 = x7 from h8)
    have := congrArg Int32.toInt (show FI 110 5 = x7 from h8)
    obtain ⟨rfl, FI16, rfl, hI17, f18, t21, t22⟩ := p14
    obtain ⟨x25, h26⟩ : ∃ y, FI16 110 5 = y := ⟨_, rfl⟩
    have h26l := congrArg Int32.toInt h26
    have := i_rng x25
    obtain ⟨x27, h28⟩ : ∃ y, FI16 110 8 = y := ⟨_, rfl⟩
    have h28l := congrArg Int32.toInt h28
    have := i_rng x27
    show hw sk base _ _ _ _ _ [] _ _
    refine xw_vret (aX4_expect 10 rfl) rfl ?_
    exact ⟨rfl, FI16, FL, rfl, hI17, (gf_tr ex_rf gf_rf f18 rfl rfl rfl), gf_rf, (by have := congrArg Int32.toInt (show FI16 110 7 = x1 from (gf_at f18 (c110 hS) (shd_f (by decide) (s110 hS)) rfl (h2))); omega), (by have := congrArg Int32.toInt (show FI16 110 5 = x25 from h26); have := congrArg Int32.toInt (show FI16 110 8 = x27 from h28); omega), (by have := congrArg Int32.toInt (show FI16 110 7 = x1 from (gf_at f18 (c110 hS) (shd_f (by decide) (s110 hS)) rfl (h2))); have := congrArg Int32.toInt (show FI16 110 8 = x27 from h28); omega), (by have := congrArg Int32.toInt (show FI16 110 7 = x1 from (gf_at f18 (c110 hS) (shd_f (by decide) (s110 hS)) rfl (h2))); omega), (by have := congrArg Int32.toInt (show FI16 110 5 = x25 from h26); omega)⟩
  · refine hw_aloadn (aX4_expect 4 rfl) rfl ?_
    refine hw_callV (Bs := []) (rest := []) (aX4_expect 5 rfl) wc_RX4_48 (by decide) rfl wi_yX4_take wv_yX4_take (c110 hS) (s110 hS) rfl rfl rfl (Nat.le_of_ble_eq_true rfl) (Nat.le_of_ble_eq_true rfl) (k_take2 (d := d) hS hF hI hR (by have := congrArg Int32.toInt (show FI 110 7 = x1 from h2); have := congrArg Int32.toInt (show FI 110 7 = x1 from h2); have := congrArg Int32.toInt (show FI 111 4 = x4 from h5); omega) (by have := congrArg Int32.toInt (show FI 110 5 = x7 from h8); have := congrArg Int32.toInt (show FI 110 8 = x9 from h10); omega) (by have := congrArg Int32.toInt (show FI 110 7 = x1 from h2); have := congrArg Int32.toInt (show FI 111 4 = x4 from h5); have := congrArg Int32.toInt (show FI 110 8 = x9 from h10); omega) (gK_mv (L := [(110, 5), (110, 6), (110, 7), (110, 8)]) (A := []) (T := []) hS gg0 gf_rf (by decide))) (fun v29 sv30 p31 => ?_)
    have := congrArg Int32.toInt (show FI 111 4 = x4 from h5)
    have := congrArg Int32.toInt (show FI 111 4 = x4 from h5)
    have := congrArg Int32.toInt (show FI 110 7 = x1 from h2)
    have := congrArg Int32.toInt (show FI 110 5 = x7 from h8)
    have := congrArg Int32.toInt (show FI 110 5 = x7 from h8)
    have := congrArg Int32.toInt (show FI 110 5 = x7 from h8)
    have := congrArg Int32.toInt (show FI 110 5 = x7 from h8)
    have := congrArg Int32.toInt (show FI 110 7 = x1 from h2)
    have := congrArg Int32.toInt (show FI 111 4 = x4 from h5)
    have := congrArg Int32.toInt (show FI 110 7 = x1 from h2)
    have := congrArg Int32.toInt (show FI 110 7 = x1 from h2)
    have := congrArg Int32.toInt (show FI 110 5 = x7 from h8)
    have := congrArg Int32.toInt (show FI 110 8 = x9 from h10)
    obtain ⟨rfl, FI33, FL34, rfl, hI35, f36, f37, t40, t41, t42, t43, t44, t45, t46, t47, t48⟩ := p31
    obtain ⟨x51, h52⟩ : ∃ y, FI33 110 7 = y := ⟨_, rfl⟩
    have h52l := congrArg Int32.toInt h52
    have b53 := gI_110_7 hI35; rw [h52] at b53
    obtain ⟨x54, h55⟩ : ∃ y, FI33 110 8 = y := ⟨_, rfl⟩
    have h55l := congrArg Int32.toInt h55
    have := i_rng x54
    show hw sk base _ _ _ _ _ [] _ _
    refine xw_goto (tgt := 20) (aX4_expect 6 rfl) (by decide) ?_
    refine xw_vret (aX4_expect 10 rfl) rfl ?_
    exact ⟨rfl, FI33, FL34, rfl, hI35, (gf_tr ex_rf gf_rf f36 rfl rfl rfl), (gf_tr ex_rf gf_rf f37 rfl rfl rfl), (by have := congrArg Int32.toInt (show FI33 110 7 = x51 from h52); omega), (by have := congrArg Int32.toInt (show FI33 110 5 = x7 from (gf_at f36 (c110 hS) (shd_f (by decide) (s110 hS)) rfl (h8))); have := congrArg Int32.toInt (show FI33 110 8 = x54 from h55); omega), (by have := congrArg Int32.toInt (show FI33 110 7 = x51 from h52); have := congrArg Int32.toInt (show FI33 110 8 = x54 from h55); omega), (by have := congrArg Int32.toInt (show FI33 110 7 = x51 from h52); omega), (by have := congrArg Int32.toInt (show FI33 110 5 = x7 from (gf_at f36 (c110 hS) (shd_f (by decide) (s110 hS)) rfl (h8))); omega)⟩
set_option maxHeartbeats 4000000 in
set_option maxRecDepth 100000 in
theorem k_raise2 {sk : xK} {base d n sl : Nat} {SH : Nat → Nat × Nat} {FI : Nat → Nat → Int32} {FL : Nat → Nat → Int64} {FR : Nat → Nat → Option Nat} (hS : h_S n SH) (hF : h_FR FR) (hI : g_I FI) (hR : g_R n SH FR) (g0 : 0 ≤ (FI 110 7).toInt ∧ (FI 110 7).toInt < (FI 111 4).toInt) (g1 : (FI 110 5).toInt = 0 ∨ (FI 110 8).toInt = 1) (g2 : (FI 110 7).toInt + 1 < (FI 111 4).toInt ∨ (FI 110 8).toInt ≤ 3) : hw sk base (d + 1) none 41 0 [(0, .ref (base + 110))] [] (n, sl, SH, FI, FL, FR) (h_I (fun r s => ∃ FI', s = (n, sl, SH, FI', FL, FR) ∧ g_I FI' ∧ g_fr n (shd SH) [(110, 4), (110, 5), (110, 6), (110, 8)] [] [] FI FI' ∧ (r.toInt = 1 → ((FI' 110 4).toInt = (FI 110 4).toInt + 1 ∧ (FI 110 4).toInt ≤ 11 ∧ (FI' 110 5).toInt = (FI 110 5).toInt ∧ (FI' 110 8).toInt = (FI 110 8).toInt)) ∧ (r.toInt = 0 → ((FI' 110 5).toInt ≠ 0 ∧ (FI' 110 8).toInt = 1 ∧ (FI' 110 4).toInt = (FI 110 4).toInt)) ∧ ((FI 110 5).toInt = 0 ∨ (FI' 110 5).toInt = (FI 110 5).toInt) ∧ (0 ≤ r.toInt ∧ r.toInt ≤ 1))) := by
  obtain ⟨x1, h2⟩ : ∃ y, FI 110 7 = y := ⟨_, rfl⟩
  have h2l := congrArg Int32.toInt h2
  have b3 := gI_110_7 hI; rw [h2] at b3
  obtain ⟨x4, h5⟩ : ∃ y, FI 111 4 = y := ⟨_, rfl⟩
  have h5l := congrArg Int32.toInt h5
  have b6 := gI_111_4 hI; rw [h5] at b6
  obtain ⟨x7, h8⟩ : ∃ y, FI 110 5 = y := ⟨_, rfl⟩
  have h8l := congrArg Int32.toInt h8
  have := i_rng x7
  obtain ⟨x9, h10⟩ : ∃ y, FI 110 8 = y := ⟨_, rfl⟩
  have h10l := congrArg Int32.toInt h10
  have := i_rng x9
  obtain ⟨x11, h12⟩ : ∃ y, FI 110 4 = y := ⟨_, rfl⟩
  have h12l := congrArg Int32.toInt h12
  have := i_rng x11
  refine hw_aloadn (aX4_raise 0 rfl) rfl ?_
  refine hw_get (v := .int (x11)) (aX4_raise 1 rfl) wf_RX4_36 (c110 hS) (s110 hS) (by decide) (congrArg Value.int (show FI 110 4 = x11 from h12)) ?_
  refine hw_bp (v := (12 : Int32)) (aX4_raise 2 rfl) (by decide) ?_
  refine hw_iclt (tgt := 16) (aX4_raise 3 rfl) (by decide) rfl (by decide : (12 : Int32).toInt = 12) (fun cd13 => ?_) (fun cd13 => ?_)
  · refine hw_aloadn (aX4_raise 9 rfl) rfl ?_
    refine xw_dup (aX4_raise 10 rfl) rfl ?_
    refine hw_get (v := .int (x11)) (aX4_raise 11 rfl) wf_RX4_36 (c110 hS) (s110 hS) (by decide) (congrArg Value.int (show FI 110 4 = x11 from h12)) ?_
    refine hw_ic (v := (1 : Int32)) (aX4_raise 12 rfl) (by decide) ?_
    refine xw_iadd (aX4_raise 13 rfl) ?_
    refine hw_tie (A := ((x11).toInt) + (1)) (i_add rfl (by decide : (1 : Int32).toInt = 1) (by omega) (by omega)) (fun x14 e15 => ?_)
    refine hv_puti (aX4_raise 14 rfl) wf_RX4_36 (c110 hS) (s110 hS) (by decide) rfl rfl (fun FI16 u17 => ?_)
    have hI18 : g_I FI16 := gU_F hI u17 rfl
    refine hw_ic (v := (1 : Int32)) (aX4_raise 15 rfl) (by decide) ?_
    refine xw_iret (aX4_raise 16 rfl) rfl (by decide) ?_
    have e19 : ((1 : Int32)).toInt = 1 := (by decide : (1 : Int32).toInt = 1)
    exact ⟨(1 : Int32), rfl, FI16, rfl, hI18, (gf_f gf_rf u17 (by decide)), (by have : ((1 : Int32)).toInt = 1 := (by decide); have := congrArg Int32.toInt (show FI16 110 4 = x14 from up_eq u17); have := (e15 : (x14).toInt = ((x11).toInt) + (1)); have := congrArg Int32.toInt (show FI16 110 5 = x7 from (up_k u17 (by decide) (h8))); have := congrArg Int32.toInt (show FI16 110 8 = x9 from (up_k u17 (by decide) (h10))); omega), (by have : ((1 : Int32)).toInt = 1 := (by decide); have := congrArg Int32.toInt (show FI16 110 4 = x14 from up_eq u17); have := (e15 : (x14).toInt = ((x11).toInt) + (1)); have := congrArg Int32.toInt (show FI16 110 5 = x7 from (up_k u17 (by decide) (h8))); have := congrArg Int32.toInt (show FI16 110 8 = x9 from (up_k u17 (by decide) (h10))); omega), (by have : ((1 : Int32)).toInt = 1 := (by decide); have := congrArg Int32.toInt (show FI16 110 5 = x7 from (up_k u17 (by decide) (h8))); omega), (by have : ((1 : Int32)).toInt = 1 := (by decide); omega)⟩
  · refine hw_aloadn (aX4_raise 4 rfl) rfl ?_
    refine hw_ic (v := (5 : Int32)) (aX4_raise 5 rfl) (by decide) ?_
    refine hw_callV (Bs := [.int ((5 : Int32))]) (rest := []) (aX4_raise 6 rfl) wc_RX4_69 (by decide) rfl wi_yX4_refuse wv_yX4_refuse (c110 hS) (s110 hS) rfl rfl rfl (Nat.le_of_ble_eq_true rfl) (Nat.le_of_ble_eq_true rfl) (k_refuse2 (d := d) hS hF hI hR ((5 : Int32)) (by have := congrArg Int32.toInt (show FI 110 7 = x1 from h2); have := congrArg Int32.toInt (show FI 110 7 = x1 from h2); have := congrArg Int32.toInt (show FI 111 4 = x4 from h5); omega) (by have := congrArg Int32.toInt (show FI 110 5 = x7 from h8); have := congrArg Int32.toInt (show FI 110 8 = x9 from h10); omega) (by have := congrArg Int32.toInt (show FI 110 7 = x1 from h2); have := congrArg Int32.toInt (show FI 111 4 = x4 from h5); have := congrArg Int32.toInt (show FI 110 8 = x9 from h10); omega) (by have := ((by decide : (5 : Int32).toInt = 5) : ((5 : Int32)).toInt = 5); have := ((by decide : (5 : Int32).toInt = 5) : ((5 : Int32)).toInt = 5); omega)) (fun v20 sv21 p22 => ?_)
    have := congrArg Int32.toInt (show FI 110 5 = x7 from h8)
    have := congrArg Int32.toInt (show FI 110 5 = x7 from h8)
    obtain ⟨rfl, FI24, rfl, hI25, f26, t29, t30⟩ := p22
    obtain ⟨x33, h34⟩ : ∃ y, FI24 110 5 = y := ⟨_, rfl⟩
    have h34l := congrArg Int32.toInt h34
    have := i_rng x33
    obtain ⟨x35, h36⟩ : ∃ y, FI24 110 8 = y := ⟨_, rfl⟩
    have h36l := congrArg Int32.toInt h36
    have := i_rng x35
    show hw sk base _ _ _ _ _ [] _ _
    refine hw_ic (v := (0 : Int32)) (aX4_raise 7 rfl) (by decide) ?_
    refine xw_iret (aX4_raise 8 rfl) rfl (by decide) ?_
    have e37 : ((0 : Int32)).toInt = 0 := (by decide : (0 : Int32).toInt = 0)
    exact ⟨(0 : Int32), rfl, FI24, rfl, hI25, (gf_tr ex_rf gf_rf f26 rfl rfl rfl), (by have : ((0 : Int32)).toInt = 0 := (by decide); have := congrArg Int32.toInt (show FI24 110 4 = x11 from (gf_at f26 (c110 hS) (shd_f (by decide) (s110 hS)) rfl (h12))); have := congrArg Int32.toInt (show FI24 110 5 = x33 from h34); have := congrArg Int32.toInt (show FI24 110 8 = x35 from h36); omega), (by have : ((0 : Int32)).toInt = 0 := (by decide); have := congrArg Int32.toInt (show FI24 110 4 = x11 from (gf_at f26 (c110 hS) (shd_f (by decide) (s110 hS)) rfl (h12))); have := congrArg Int32.toInt (show FI24 110 5 = x33 from h34); have := congrArg Int32.toInt (show FI24 110 8 = x35 from h36); omega), (by have : ((0 : Int32)).toInt = 0 := (by decide); have := congrArg Int32.toInt (show FI24 110 5 = x33 from h34); omega), (by have : ((0 : Int32)).toInt = 0 := (by decide); omega)⟩
set_option maxHeartbeats 4000000 in
set_option maxRecDepth 100000 in
theorem k_high2 {sk : xK} {base d n sl : Nat} {SH : Nat → Nat × Nat} {FI : Nat → Nat → Int32} {FL : Nat → Nat → Int64} {FR : Nat → Nat → Option Nat} (hS : h_S n SH) (hF : h_FR FR) (hI : g_I FI) (hR : g_R n SH FR) (g0 : 0 ≤ (FI 110 7).toInt ∧ (FI 110 7).toInt < (FI 111 4).toInt) (g1 : (FI 110 5).toInt = 0 ∨ (FI 110 8).toInt = 1) (g2 : (FI 110 7).toInt + 1 < (FI 111 4).toInt ∨ (FI 110 8).toInt ≤ 3) : hw sk base (d + 1) none 51 0 [(0, .ref (base + 110))] [] (n, sl, SH, FI, FL, FR) (h_J (fun r s => ∃ FI', s = (n, sl, SH, FI', FL, FR) ∧ g_I FI' ∧ g_fr n (shd SH) [(110, 5), (110, 6), (110, 8)] [] [] FI FI' ∧ ((FI' 110 5).toInt = 0 ∨ (FI' 110 8).toInt = 1) ∧ ((FI' 110 7).toInt + 1 < (FI 111 4).toInt ∨ (FI' 110 8).toInt ≤ 3) ∧ ((FI 110 5).toInt = 0 ∨ (FI' 110 5).toInt = (FI 110 5).toInt))) := by
  obtain ⟨x1, h2⟩ : ∃ y, FI 110 7 = y := ⟨_, rfl⟩
  have h2l := congrArg Int32.toInt h2
  have b3 := gI_110_7 hI; rw [h2] at b3
  obtain ⟨x4, h5⟩ : ∃ y, FI 111 4 = y := ⟨_, rfl⟩
  have h5l := congrArg Int32.toInt h5
  have b6 := gI_111_4 hI; rw [h5] at b6
  obtain ⟨x7, h8⟩ : ∃ y, FI 110 5 = y := ⟨_, rfl⟩
  have h8l := congrArg Int32.toInt h8
  have := i_rng x7
  obtain ⟨x9, h10⟩ : ∃ y, FI 110 8 = y := ⟨_, rfl⟩
  have h10l := congrArg Int32.toInt h10
  have := i_rng x9
  refine hw_aloadn (aX4_refuseHighRegister 0 rfl) rfl ?_
  refine hw_get (v := .int (x9)) (aX4_refuseHighRegister 1 rfl) wf_RX4_51 (c110 hS) (s110 hS) (by decide) (congrArg Value.int (show FI 110 8 = x9 from h10)) ?_
  refine hw_ic (v := (5 : Int32)) (aX4_refuseHighRegister 2 rfl) (by decide) ?_
  refine hw_icne (tgt := 24) (aX4_refuseHighRegister 3 rfl) (by decide) rfl (by decide : (5 : Int32).toInt = 5) (fun cd11 => ?_) (fun cd11 => ?_)
  · refine hw_aloadn (aX4_refuseHighRegister 12 rfl) rfl ?_
    obtain ⟨x12, h13⟩ : ∃ y, FL 110 9 = y := ⟨_, rfl⟩
    have h13l := congrArg Int64.toInt h13
    have := l_rng x12
    refine hw_get (v := .long (x12)) (aX4_refuseHighRegister 13 rfl) wf_RX4_62 (c110 hS) (s110 hS) (by decide) (congrArg Value.long (show FL 110 9 = x12 from h13)) ?_
    refine xw_lret (aX4_refuseHighRegister 14 rfl) rfl ?_
    exact ⟨x12, rfl, FI, rfl, hI, gf_rf, (by have := congrArg Int32.toInt (show FI 110 5 = x7 from h8); have := congrArg Int32.toInt (show FI 110 8 = x9 from h10); omega), (by have := congrArg Int32.toInt (show FI 110 7 = x1 from h2); have := congrArg Int32.toInt (show FI 110 8 = x9 from h10); omega), (by have := congrArg Int32.toInt (show FI 110 5 = x7 from h8); omega)⟩
  · refine hw_aloadn (aX4_refuseHighRegister 4 rfl) rfl ?_
    obtain ⟨x14, h15⟩ : ∃ y, FL 110 9 = y := ⟨_, rfl⟩
    have h15l := congrArg Int64.toInt h15
    have := l_rng x14
    refine hw_get (v := .long (x14)) (aX4_refuseHighRegister 5 rfl) wf_RX4_62 (c110 hS) (s110 hS) (by decide) (congrArg Value.long (show FL 110 9 = x14 from h15)) ?_
    refine xw_ldc2 (aX4_refuseHighRegister 6 rfl) wk_RX4_167 ?_
    refine hw_lclt (tgt := 24) (aX4_refuseHighRegister 7 rfl) (aX4_refuseHighRegister 8 rfl) (by decide) rfl (by decide : (32 : Int64).toInt = 32) (fun cd16 => ?_) (fun cd16 => ?_)
    · refine hw_aloadn (aX4_refuseHighRegister 12 rfl) rfl ?_
      refine hw_get (v := .long (x14)) (aX4_refuseHighRegister 13 rfl) wf_RX4_62 (c110 hS) (s110 hS) (by decide) (congrArg Value.long (show FL 110 9 = x14 from h15)) ?_
      refine xw_lret (aX4_refuseHighRegister 14 rfl) rfl ?_
      exact ⟨x14, rfl, FI, rfl, hI, gf_rf, (by have := congrArg Int32.toInt (show FI 110 5 = x7 from h8); have := congrArg Int32.toInt (show FI 110 8 = x9 from h10); omega), (by have := congrArg Int32.toInt (show FI 110 7 = x1 from h2); have := congrArg Int32.toInt (show FI 110 8 = x9 from h10); omega), (by have := congrArg Int32.toInt (show FI 110 5 = x7 from h8); omega)⟩
    · refine hw_aloadn (aX4_refuseHighRegister 9 rfl) rfl ?_
      refine hw_ic (v := (2 : Int32)) (aX4_refuseHighRegister 10 rfl) (by decide) ?_
      refine hw_callV (Bs := [.int ((2 : Int32))]) (rest := []) (aX4_refuseHighRegister 11 rfl) wc_RX4_69 (by decide) rfl wi_yX4_refuse wv_yX4_refuse (c110 hS) (s110 hS) rfl rfl rfl (Nat.le_of_ble_eq_true rfl) (Nat.le_of_ble_eq_true rfl) (k_refuse2 (d := d) hS hF hI hR ((2 : Int32)) (by have := congrArg Int32.toInt (show FI 110 7 = x1 from h2); have := congrArg Int32.toInt (show FI 110 7 = x1 from h2); have := congrArg Int32.toInt (show FI 111 4 = x4 from h5); omega) (by have := congrArg Int32.toInt (show FI 110 5 = x7 from h8); have := congrArg Int32.toInt (show FI 110 8 = x9 from h10); omega) (by have := congrArg Int32.toInt (show FI 110 7 = x1 from h2); have := congrArg Int32.toInt (show FI 111 4 = x4 from h5); have := congrArg Int32.toInt (show FI 110 8 = x9 from h10); omega) (by have := ((by decide : (2 : Int32).toInt = 2) : ((2 : Int32)).toInt = 2); have := ((by decide : (2 : Int32).toInt = 2) : ((2 : Int32)).toInt = 2); omega)) (fun v17 sv18 p19 => ?_)
      have := congrArg Int32.toInt (show FI 110 5 = x7 from h8)
      have := congrArg Int32.toInt (show FI 110 5 = x7 from h8)
      obtain ⟨rfl, FI21, rfl, hI22, f23, t26, t27⟩ := p19
      obtain ⟨x30, h31⟩ : ∃ y, FI21 110 5 = y := ⟨_, rfl⟩
      have h31l := congrArg Int32.toInt h31
      have := i_rng x30
      obtain ⟨x32, h33⟩ : ∃ y, FI21 110 8 = y := ⟨_, rfl⟩
      have h33l := congrArg Int32.toInt h33
      have := i_rng x32
      show hw sk base _ _ _ _ _ [] _ _
      refine hw_aloadn (aX4_refuseHighRegister 12 rfl) rfl ?_
      refine hw_get (v := .long (x14)) (aX4_refuseHighRegister 13 rfl) wf_RX4_62 (c110 hS) (s110 hS) (by decide) (congrArg Value.long (show FL 110 9 = x14 from h15)) ?_
      refine xw_lret (aX4_refuseHighRegister 14 rfl) rfl ?_
      exact ⟨x14, rfl, FI21, rfl, hI22, (gf_tr ex_rf gf_rf f23 rfl rfl rfl), (by have := congrArg Int32.toInt (show FI21 110 5 = x30 from h31); have := congrArg Int32.toInt (show FI21 110 8 = x32 from h33); omega), (by have := congrArg Int32.toInt (show FI21 110 7 = x1 from (gf_at f23 (c110 hS) (shd_f (by decide) (s110 hS)) rfl (h2))); have := congrArg Int32.toInt (show FI21 110 8 = x32 from h33); omega), (by have := congrArg Int32.toInt (show FI21 110 5 = x30 from h31); omega)⟩
set_option maxHeartbeats 4000000 in
set_option maxRecDepth 100000 in
theorem k_levelOf2 {sk : xK} {base d n sl : Nat} {SH : Nat → Nat × Nat} {FI : Nat → Nat → Int32} {FL : Nat → Nat → Int64} {FR : Nat → Nat → Option Nat} (hS : h_S n SH) (hF : h_FR FR) (hI : g_I FI) (hR : g_R n SH FR) (a1 : Int32) : hw sk base d none 55 0 [(0, .int (a1))] [] (n, sl, SH, FI, FL, FR) (h_I (fun r s => s = (n, sl, SH, FI, FL, FR) ∧ (r.toInt = -1 ∨ 4 ≤ (a1).toInt))) := by
  have rg_a1 := i_rng a1
  refine xw_iloadn (aX4_levelOf 0 rfl) rfl ?_
  have hsw : ((a1).toInt ≠ 15 ∧ (a1).toInt ≠ 16 ∧ (a1).toInt ≠ 18 ∧ (a1).toInt ≠ 19 ∧ (a1).toInt ≠ 20 ∧ (a1).toInt ≠ 21 ∧ (a1).toInt ≠ 22 ∧ (a1).toInt ≠ 23 ∧ (a1).toInt ≠ 24 ∧ (a1).toInt ≠ 38 ∧ (a1).toInt ≠ 42 ∧ (a1).toInt ≠ 43 ∧ (a1).toInt ≠ 45 ∧ (a1).toInt ≠ 60 ∧ (a1).toInt ≠ 62 ∧ (a1).toInt ≠ 94 ∧ (a1).toInt ≠ 124) ∨ ((a1).toInt = 15 ∨ (a1).toInt = 16 ∨ (a1).toInt = 42) ∨ ((a1).toInt = 18 ∨ (a1).toInt = 19 ∨ (a1).toInt = 20 ∨ (a1).toInt = 21 ∨ (a1).toInt = 60 ∨ (a1).toInt = 62) ∨ ((a1).toInt = 22 ∨ (a1).toInt = 23 ∨ (a1).toInt = 24) ∨ ((a1).toInt = 38) ∨ ((a1).toInt = 43 ∨ (a1).toInt = 45) ∨ ((a1).toInt = 94) ∨ ((a1).toInt = 124) := by omega
  rcases hsw with hsw | hsw | hsw | hsw | hsw | hsw | hsw | hsw
  · refine xw_lsw (tgt := 163) aX4_levelOf_1 (by decide) (by show (1 : Int) + Jvm.Op.lookupswitch.offset [(15, 159), (16, 159), (18, 153), (19, 153), (20, 153), (21, 153), (22, 155), (23, 155), (24, 155), (38, 151), (42, 159), (43, 157), (45, 157), (60, 153), (62, 153), (94, 149), (124, 147)] (162) (a1).toInt = 163; simp only [Jvm.Op.lookupswitch.offset]; rw [if_neg (by omega), if_neg (by omega), if_neg (by omega), if_neg (by omega), if_neg (by omega), if_neg (by omega), if_neg (by omega), if_neg (by omega), if_neg (by omega), if_neg (by omega), if_neg (by omega), if_neg (by omega), if_neg (by omega), if_neg (by omega), if_neg (by omega), if_neg (by omega), if_neg (by omega)]; rfl) ?_
    clear hsw
    refine hw_ic (v := ((-1) : Int32)) (aX4_levelOf 15 rfl) (by decide) ?_
    refine xw_iret (aX4_levelOf 16 rfl) rfl rfl ?_
    have e1 : (((-1) : Int32)).toInt = (-1) := (by decide : ((-1) : Int32).toInt = (-1))
    exact ⟨((-1) : Int32), rfl, rfl, (by have : (((-1) : Int32)).toInt = (-1) := (by decide); omega)⟩
  · refine xw_lsw (tgt := 160) aX4_levelOf_1 (by decide) (by rcases hsw with hsw | hsw | hsw <;> (rw [hsw]; decide)) ?_
    refine hw_bp (v := (6 : Int32)) (aX4_levelOf 13 rfl) (by decide) ?_
    refine xw_iret (aX4_levelOf 14 rfl) rfl rfl ?_
    have e2 : ((6 : Int32)).toInt = 6 := (by decide : (6 : Int32).toInt = 6)
    exact ⟨(6 : Int32), rfl, rfl, (by have : ((6 : Int32)).toInt = 6 := (by decide); omega)⟩
  · refine xw_lsw (tgt := 154) aX4_levelOf_1 (by decide) (by rcases hsw with hsw | hsw | hsw | hsw | hsw | hsw <;> (rw [hsw]; decide)) ?_
    refine hw_ic (v := (3 : Int32)) (aX4_levelOf 7 rfl) (by decide) ?_
    refine xw_iret (aX4_levelOf 8 rfl) rfl rfl ?_
    have e3 : ((3 : Int32)).toInt = 3 := (by decide : (3 : Int32).toInt = 3)
    exact ⟨(3 : Int32), rfl, rfl, (by have : ((3 : Int32)).toInt = 3 := (by decide); omega)⟩
  · refine xw_lsw (tgt := 156) aX4_levelOf_1 (by decide) (by rcases hsw with hsw | hsw | hsw <;> (rw [hsw]; decide)) ?_
    refine hw_ic (v := (4 : Int32)) (aX4_levelOf 9 rfl) (by decide) ?_
    refine xw_iret (aX4_levelOf 10 rfl) rfl rfl ?_
    have e4 : ((4 : Int32)).toInt = 4 := (by decide : (4 : Int32).toInt = 4)
    exact ⟨(4 : Int32), rfl, rfl, (by have : ((4 : Int32)).toInt = 4 := (by decide); omega)⟩
  · refine xw_lsw (tgt := 152) aX4_levelOf_1 (by decide) (by rw [hsw]; decide) ?_
    refine hw_ic (v := (2 : Int32)) (aX4_levelOf 5 rfl) (by decide) ?_
    refine xw_iret (aX4_levelOf 6 rfl) rfl rfl ?_
    have e5 : ((2 : Int32)).toInt = 2 := (by decide : (2 : Int32).toInt = 2)
    exact ⟨(2 : Int32), rfl, rfl, (by have : ((2 : Int32)).toInt = 2 := (by decide); omega)⟩
  · refine xw_lsw (tgt := 158) aX4_levelOf_1 (by decide) (by rcases hsw with hsw | hsw <;> (rw [hsw]; decide)) ?_
    refine hw_ic (v := (5 : Int32)) (aX4_levelOf 11 rfl) (by decide) ?_
    refine xw_iret (aX4_levelOf 12 rfl) rfl rfl ?_
    have e6 : ((5 : Int32)).toInt = 5 := (by decide : (5 : Int32).toInt = 5)
    exact ⟨(5 : Int32), rfl, rfl, (by have : ((5 : Int32)).toInt = 5 := (by decide); omega)⟩
  · refine xw_lsw (tgt := 150) aX4_levelOf_1 (by decide) (by rw [hsw]; decide) ?_
    refine hw_ic (v := (1 : Int32)) (aX4_levelOf 3 rfl) (by decide) ?_
    refine xw_iret (aX4_levelOf 4 rfl) rfl rfl ?_
    have e7 : ((1 : Int32)).toInt = 1 := (by decide : (1 : Int32).toInt = 1)
    exact ⟨(1 : Int32), rfl, rfl, (by have : ((1 : Int32)).toInt = 1 := (by decide); omega)⟩
  · refine xw_lsw (tgt := 148) aX4_levelOf_1 (by decide) (by rw [hsw]; decide) ?_
    refine hw_ic (v := (0 : Int32)) (aX4_levelOf 1 rfl) (by decide) ?_
    refine xw_iret (aX4_levelOf 2 rfl) rfl rfl ?_
    have e8 : ((0 : Int32)).toInt = 0 := (by decide : (0 : Int32).toInt = 0)
    exact ⟨(0 : Int32), rfl, rfl, (by have : ((0 : Int32)).toInt = 0 := (by decide); omega)⟩
set_option maxHeartbeats 4000000 in
set_option maxRecDepth 100000 in
theorem k_begins2 {sk : xK} {base d n sl : Nat} {SH : Nat → Nat × Nat} {FI : Nat → Nat → Int32} {FL : Nat → Nat → Int64} {FR : Nat → Nat → Option Nat} (hS : h_S n SH) (hF : h_FR FR) (hI : g_I FI) (hR : g_R n SH FR) (a1 : Int32) : hw sk base d none 49 0 [(0, .int (a1))] [] (n, sl, SH, FI, FL, FR) (h_I (fun r s => s = (n, sl, SH, FI, FL, FR) ∧ (r.toInt = 1 → 4 ≤ (a1).toInt) ∧ (0 ≤ r.toInt ∧ r.toInt ≤ 1))) := by
  have rg_a1 := i_rng a1
  refine xw_iloadn (aX4_beginsPlace 0 rfl) rfl ?_
  refine hw_bp (v := (7 : Int32)) (aX4_beginsPlace 1 rfl) (by decide) ?_
  refine hw_iceq (tgt := 30) (aX4_beginsPlace 2 rfl) (by decide) rfl (by decide : (7 : Int32).toInt = 7) (fun cd1 => ?_) (fun cd1 => ?_)
  · refine hw_ic (v := (1 : Int32)) (aX4_beginsPlace 15 rfl) (by decide) ?_
    refine xw_goto (tgt := 35) (aX4_beginsPlace 16 rfl) (by decide) ?_
    refine xw_iret (aX4_beginsPlace 18 rfl) rfl (by decide) ?_
    have e2 : ((1 : Int32)).toInt = 1 := (by decide : (1 : Int32).toInt = 1)
    exact ⟨(1 : Int32), rfl, rfl, (by have : ((1 : Int32)).toInt = 1 := (by decide); omega), (by have : ((1 : Int32)).toInt = 1 := (by decide); omega)⟩
  · refine xw_iloadn (aX4_beginsPlace 3 rfl) rfl ?_
    refine hw_bp (v := (91 : Int32)) (aX4_beginsPlace 4 rfl) (by decide) ?_
    refine hw_iceq (tgt := 30) (aX4_beginsPlace 5 rfl) (by decide) rfl (by decide : (91 : Int32).toInt = 91) (fun cd3 => ?_) (fun cd3 => ?_)
    · refine hw_ic (v := (1 : Int32)) (aX4_beginsPlace 15 rfl) (by decide) ?_
      refine xw_goto (tgt := 35) (aX4_beginsPlace 16 rfl) (by decide) ?_
      refine xw_iret (aX4_beginsPlace 18 rfl) rfl (by decide) ?_
      have e4 : ((1 : Int32)).toInt = 1 := (by decide : (1 : Int32).toInt = 1)
      exact ⟨(1 : Int32), rfl, rfl, (by have : ((1 : Int32)).toInt = 1 := (by decide); omega), (by have : ((1 : Int32)).toInt = 1 := (by decide); omega)⟩
    · refine xw_iloadn (aX4_beginsPlace 6 rfl) rfl ?_
      refine hw_bp (v := (8 : Int32)) (aX4_beginsPlace 7 rfl) (by decide) ?_
      refine hw_iceq (tgt := 30) (aX4_beginsPlace 8 rfl) (by decide) rfl (by decide : (8 : Int32).toInt = 8) (fun cd5 => ?_) (fun cd5 => ?_)
      · refine hw_ic (v := (1 : Int32)) (aX4_beginsPlace 15 rfl) (by decide) ?_
        refine xw_goto (tgt := 35) (aX4_beginsPlace 16 rfl) (by decide) ?_
        refine xw_iret (aX4_beginsPlace 18 rfl) rfl (by decide) ?_
        have e6 : ((1 : Int32)).toInt = 1 := (by decide : (1 : Int32).toInt = 1)
        exact ⟨(1 : Int32), rfl, rfl, (by have : ((1 : Int32)).toInt = 1 := (by decide); omega), (by have : ((1 : Int32)).toInt = 1 := (by decide); omega)⟩
      · refine xw_iloadn (aX4_beginsPlace 9 rfl) rfl ?_
        refine hw_bp (v := (9 : Int32)) (aX4_beginsPlace 10 rfl) (by decide) ?_
        refine hw_iceq (tgt := 30) (aX4_beginsPlace 11 rfl) (by decide) rfl (by decide : (9 : Int32).toInt = 9) (fun cd7 => ?_) (fun cd7 => ?_)
        · refine hw_ic (v := (1 : Int32)) (aX4_beginsPlace 15 rfl) (by decide) ?_
          refine xw_goto (tgt := 35) (aX4_beginsPlace 16 rfl) (by decide) ?_
          refine xw_iret (aX4_beginsPlace 18 rfl) rfl (by decide) ?_
          have e8 : ((1 : Int32)).toInt = 1 := (by decide : (1 : Int32).toInt = 1)
          exact ⟨(1 : Int32), rfl, rfl, (by have : ((1 : Int32)).toInt = 1 := (by decide); omega), (by have : ((1 : Int32)).toInt = 1 := (by decide); omega)⟩
        · refine xw_iloadn (aX4_beginsPlace 12 rfl) rfl ?_
          refine hw_bp (v := (10 : Int32)) (aX4_beginsPlace 13 rfl) (by decide) ?_
          refine hw_icne (tgt := 34) (aX4_beginsPlace 14 rfl) (by decide) rfl (by decide : (10 : Int32).toInt = 10) (fun cd9 => ?_) (fun cd9 => ?_)
          · refine hw_ic (v := (0 : Int32)) (aX4_beginsPlace 17 rfl) (by decide) ?_
            refine xw_iret (aX4_beginsPlace 18 rfl) rfl (by decide) ?_
            have e10 : ((0 : Int32)).toInt = 0 := (by decide : (0 : Int32).toInt = 0)
            exact ⟨(0 : Int32), rfl, rfl, (by have : ((0 : Int32)).toInt = 0 := (by decide); omega), (by have : ((0 : Int32)).toInt = 0 := (by decide); omega)⟩
          · refine hw_ic (v := (1 : Int32)) (aX4_beginsPlace 15 rfl) (by decide) ?_
            refine xw_goto (tgt := 35) (aX4_beginsPlace 16 rfl) (by decide) ?_
            refine xw_iret (aX4_beginsPlace 18 rfl) rfl (by decide) ?_
            have e11 : ((1 : Int32)).toInt = 1 := (by decide : (1 : Int32).toInt = 1)
            exact ⟨(1 : Int32), rfl, rfl, (by have : ((1 : Int32)).toInt = 1 := (by decide); omega), (by have : ((1 : Int32)).toInt = 1 := (by decide); omega)⟩
