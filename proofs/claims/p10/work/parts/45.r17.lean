set_option maxHeartbeats 4000000 in
set_option maxRecDepth 100000 in
theorem n_emit0 {base d n sl : Nat} {SH : Nat → Nat × Nat} {FI : Nat → Nat → Int32} {FL : Nat → Nat → Int64} {FR : Nat → Nat → Option Nat} (hS : h_S n SH) (hF : h_FR FR) (hI : g_I FI) (a1 : Int32) (g0 : (FI 121 73).toInt ≤ 29999) : hw base d none 219 0 [(0, .ref (base + 121)), (1, .int (a1))] [] (n, sl, SH, FI, FL, FR) (h_V (fun s => ∃ FI', s = (n, sl, SH, FI', FL, FR) ∧ g_I FI' ∧ g_fr n SH [(121, 73)] [154] [] FI FI' ∧ ((FI' 121 73).toInt = (FI 121 73).toInt + 1))) := by
  have rg_a1 := i_rng a1
  obtain ⟨x1, h2⟩ : ∃ y, FI 121 73 = y := ⟨_, rfl⟩
  have h2l := congrArg Int32.toInt h2
  have b3 := gI_121_73 hI; rw [h2] at b3
  refine hw_aloadn (aX12_emit 0 rfl) rfl ?_
  refine hw_get (v := .int (x1)) (aX12_emit 1 rfl) wf_RX12_493 (c121 hS) (s121 hS) (by decide) (congrArg Value.int (show FI 121 73 = x1 from h2)) ?_
  refine hw_sp (v := (4000 : Int32)) (aX12_emit 2 rfl) (by decide) ?_
  refine hw_icge (tgt := 24) (aX12_emit 3 rfl) (by decide) rfl (by decide : (4000 : Int32).toInt = 4000) (fun cd4 => ?_) (fun cd4 => ?_)
  · refine hw_aloadn (aX12_emit 12 rfl) rfl ?_
    refine hw_aloadn (aX12_emit 13 rfl) rfl ?_
    refine hw_get (v := .int (x1)) (aX12_emit 14 rfl) wf_RX12_493 (c121 hS) (s121 hS) (by decide) (congrArg Value.int (show FI 121 73 = x1 from h2)) ?_
    refine hw_ic (v := (1 : Int32)) (aX12_emit 15 rfl) (by decide) ?_
    refine xw_iadd (aX12_emit 16 rfl) ?_
    refine hw_tie (A := ((x1).toInt) + (1)) (i_add rfl (by decide : (1 : Int32).toInt = 1) (by omega) (by omega)) (fun x5 e6 => ?_)
    refine hv_puti (aX12_emit 17 rfl) wf_RX12_493 (c121 hS) (s121 hS) (by decide) rfl rfl (fun FI7 u8 => ?_)
    have hI9 : g_I FI7 := gU_121_73 hI u8 (by have := (e6 : (x5).toInt = ((x1).toInt) + (1)); omega) (by have := (e6 : (x5).toInt = ((x1).toInt) + (1)); omega)
    refine xw_vret (aX12_emit 18 rfl) rfl ?_
    exact ⟨rfl, FI7, rfl, hI9, (gf_f gf_rf u8 (by decide)), (by have := congrArg Int32.toInt (show FI7 121 73 = x5 from up_eq u8); have := (e6 : (x5).toInt = ((x1).toInt) + (1)); omega)⟩
  · refine hw_aloadn (aX12_emit 4 rfl) rfl ?_
    refine hw_get (v := .ref (base + 154)) (aX12_emit 5 rfl) wf_RX12_120 (c121 hS) (s121 hS) (by decide) (congrArg (fun r => va_rf (h_rf base r)) (r121_72 hF)) ?_
    refine hw_aloadn (aX12_emit 6 rfl) rfl ?_
    refine hw_get (v := .int (x1)) (aX12_emit 7 rfl) wf_RX12_493 (c121 hS) (s121 hS) (by decide) (congrArg Value.int (show FI 121 73 = x1 from h2)) ?_
    refine xw_iloadn (aX12_emit 8 rfl) rfl ?_
    refine hw_sp (v := (255 : Int32)) (aX12_emit 9 rfl) (by decide) ?_
    refine xw_iand (aX12_emit 10 rfl) ?_
    refine hw_tib (lo := 0) (hi := 255) (i_and (x := a1) (m := (255 : Int32)) (M := 255) (by decide) (by decide)) (fun x10 b11 => ?_)
    refine hv_iast (k := (x1).toNatClampNeg) (aX12_emit 11 rfl) (c154 hS) (s154 hS) (h_in rfl (by omega) (by omega)) rfl (fun FI12 u13 => ?_)
    have hI14 : g_I FI12 := gU_F hI u13 rfl
    refine hw_aloadn (aX12_emit 12 rfl) rfl ?_
    refine hw_aloadn (aX12_emit 13 rfl) rfl ?_
    refine hw_get (v := .int (x1)) (aX12_emit 14 rfl) wf_RX12_493 (c121 hS) (s121 hS) (by decide) (congrArg Value.int (show FI12 121 73 = x1 from (up_c u13 (by decide) (h2)))) ?_
    refine hw_ic (v := (1 : Int32)) (aX12_emit 15 rfl) (by decide) ?_
    refine xw_iadd (aX12_emit 16 rfl) ?_
    refine hw_tie (A := ((x1).toInt) + (1)) (i_add rfl (by decide : (1 : Int32).toInt = 1) (by omega) (by omega)) (fun x15 e16 => ?_)
    refine hv_puti (aX12_emit 17 rfl) wf_RX12_493 (c121 hS) (s121 hS) (by decide) rfl rfl (fun FI17 u18 => ?_)
    have hI19 : g_I FI17 := gU_121_73 hI14 u18 (by have := (e16 : (x15).toInt = ((x1).toInt) + (1)); omega) (by have := (e16 : (x15).toInt = ((x1).toInt) + (1)); omega)
    refine xw_vret (aX12_emit 18 rfl) rfl ?_
    exact ⟨rfl, FI17, rfl, hI19, (gf_f (gf_a gf_rf u13 (by decide)) u18 (by decide)), (by have := congrArg Int32.toInt (show FI17 121 73 = x15 from up_eq u18); have := (e16 : (x15).toInt = ((x1).toInt) + (1)); omega)⟩
set_option maxHeartbeats 4000000 in
set_option maxRecDepth 100000 in
theorem n_emits0 {base d n sl : Nat} {SH : Nat → Nat × Nat} {FI : Nat → Nat → Int32} {FL : Nat → Nat → Int64} {FR : Nat → Nat → Option Nat} (hS : h_S n SH) (hF : h_FR FR) (hI : g_I FI) (a1 : Int64) (a2 : Int32) (g0 : (FI 121 73).toInt ≤ 29900) (g1 : 0 ≤ (a2).toInt ∧ (a2).toInt ≤ 8) : hw base (d + 1) none 220 0 [(0, .ref (base + 121)), (1, .long (a1)), (3, .int (a2))] [] (n, sl, SH, FI, FL, FR) (h_V (fun s => ∃ FI', s = (n, sl, SH, FI', FL, FR) ∧ g_I FI' ∧ g_fr n SH [(121, 73)] [154] [] FI FI' ∧ ((FI' 121 73).toInt = (FI 121 73).toInt + (a2).toInt))) := by
  have rg_a1 := l_rng a1
  have rg_a2 := i_rng a2
  obtain ⟨x1, h2⟩ : ∃ y, FI 121 73 = y := ⟨_, rfl⟩
  have h2l := congrArg Int32.toInt h2
  have b3 := gI_121_73 hI; rw [h2] at b3
  refine hw_ic (v := (0 : Int32)) (aX12_emits 0 rfl) (by decide) ?_
  refine xw_istore (L2 := [(4, .int ((0 : Int32))), (0, .ref (base + 121)), (1, .long (a1)), (3, .int (a2))]) (aX12_emits 1 rfl) (by decide) rfl ?_
  have lp10 : ∀ (m : Nat) (y4 : Int32) (FIv4 : Nat → Nat → Int32), (g_fr n SH [(121, 73)] [154] [] FI FIv4) → (g_I FIv4) → (0 ≤ (y4).toInt ∧ (y4).toInt ≤ 8) → ((y4).toInt ≤ (a2).toInt) → ((FIv4 121 73).toInt = (FI 121 73).toInt + (y4).toInt) → (a2).toInt - (y4).toInt < m → hw base (d + 1) none 220 3 [(4, .int (y4)), (0, .ref (base + 121)), (1, .long (a1)), (3, .int (a2))] [] (n, sl, SH, FIv4, FL, FR) (h_V (fun s => ∃ FI', s = (n, sl, SH, FI', FL, FR) ∧ g_I FI' ∧ g_fr n SH [(121, 73)] [154] [] FI FI' ∧ ((FI' 121 73).toInt = (FI 121 73).toInt + (a2).toInt))) := by
    intro m
    induction m with
    | zero => intro y4 FIv4 fr5 hI6 iv7 iv8 iv9 hm; omega
    | succ m ih =>
      intro y4 FIv4 fr5 hI6 iv7 iv8 iv9 hm
      have rg_y4 := i_rng y4
      obtain ⟨x11, h12⟩ : ∃ y, FIv4 121 73 = y := ⟨_, rfl⟩
      have h12l := congrArg Int32.toInt h12
      have b13 := gI_121_73 hI6; rw [h12] at b13
      refine xw_iload (aX12_emits 2 rfl) rfl ?_
      refine xw_iloadn (aX12_emits 3 rfl) rfl ?_
      refine hw_icge (tgt := 27) (aX12_emits 4 rfl) (by decide) rfl rfl (fun cd14 => ?_) (fun cd14 => ?_)
      · refine xw_vret (aX12_emits 15 rfl) rfl ?_
        exact ⟨rfl, FIv4, rfl, hI6, fr5, (by have := congrArg Int32.toInt (show FIv4 121 73 = x11 from h12); omega)⟩
      · refine hw_aloadn (aX12_emits 5 rfl) rfl ?_
        refine xw_lloadn (aX12_emits 6 rfl) rfl ?_
        refine hw_bp (v := (8 : Int32)) (aX12_emits 7 rfl) (by decide) ?_
        refine xw_iload (aX12_emits 8 rfl) rfl ?_
        refine xw_imul (aX12_emits 9 rfl) ?_
        refine hw_tie (A := (8) * ((y4).toInt)) (i_mul (by decide : (8 : Int32).toInt = 8) rfl (by omega) (by omega)) (fun x15 e16 => ?_)
        refine xw_lshr (aX12_emits 10 rfl) ?_
        refine hw_tl (fun x17 => ?_)
        have b18 := l_rng x17
        refine xw_l2i (aX12_emits 11 rfl) ?_
        refine hw_ti (fun x19 => ?_)
        have b20 := i_rng x19
        refine hw_callV (Bs := [.int (x19)]) (rest := []) (aX12_emits 12 rfl) wc_RX12_496 (by decide) rfl wi_yX12_emit wv_yX12_emit (c121 hS) (s121 hS) rfl rfl rfl (Nat.le_of_ble_eq_true rfl) (Nat.le_of_ble_eq_true rfl) (n_emit0 (d := d) hS hF hI6 (x19) (by have := congrArg Int32.toInt (show FIv4 121 73 = x11 from h12); omega)) (fun v21 sv22 p23 => ?_)
        have := congrArg Int32.toInt (show FIv4 121 73 = x11 from h12)
        obtain ⟨rfl, FI25, rfl, hI26, f27, t28⟩ := p23
        obtain ⟨x29, h30⟩ : ∃ y, FI25 121 73 = y := ⟨_, rfl⟩
        have h30l := congrArg Int32.toInt h30
        have b31 := gI_121_73 hI26; rw [h30] at b31
        show hw base _ _ _ _ _ [] _ _
        obtain ⟨x32, q34⟩ : ∃ y : Int32, (y4) + Int32.ofInt (1) = y := ⟨_, rfl⟩
        have e33 : (x32).toInt = (y4).toInt + (1) := by rw [← q34]; exact i_add rfl (by decide) (by omega) (by omega)
        refine xw_iinc (L2 := [(4, .int (x32)), (0, .ref (base + 121)), (1, .long (a1)), (3, .int (a2))]) (aX12_emits 13 rfl) rfl (by decide) (by rw [q34]; rfl) ?_
        refine xw_goto (tgt := 3) (aX12_emits 14 rfl) (by decide) ?_
        exact hw_L (ih (x32) FI25 (gf_tr ex_rf fr5 f27 rfl rfl rfl) hI26 (by have := (e33 : (x32).toInt = (y4).toInt + (1)); omega) (by have := (e33 : (x32).toInt = (y4).toInt + (1)); omega) (by have := (e33 : (x32).toInt = (y4).toInt + (1)); have := congrArg Int32.toInt (show FI25 121 73 = x29 from h30); omega) (by have := (e33 : (x32).toInt = (y4).toInt + (1)); omega)) ⟨rfl, rfl, rfl, rfl, trivial⟩
  exact hw_L (lp10 (((a2).toInt - 0 : Int).toNat + 1) ((0 : Int32)) FI gf_rf hI (by have := ((by decide : (0 : Int32).toInt = 0) : ((0 : Int32)).toInt = 0); omega) (by have := ((by decide : (0 : Int32).toInt = 0) : ((0 : Int32)).toInt = 0); omega) (by have := ((by decide : (0 : Int32).toInt = 0) : ((0 : Int32)).toInt = 0); have := congrArg Int32.toInt (show FI 121 73 = x1 from h2); omega) (by have := ((by decide : (0 : Int32).toInt = 0) : ((0 : Int32)).toInt = 0); omega)) ⟨rfl, rfl, rfl, rfl, trivial⟩
set_option maxHeartbeats 4000000 in
set_option maxRecDepth 100000 in
theorem n_unsigned0 {base d n sl : Nat} {SH : Nat → Nat × Nat} {FI : Nat → Nat → Int32} {FL : Nat → Nat → Int64} {FR : Nat → Nat → Option Nat} (hS : h_S n SH) (hF : h_FR FR) (hI : g_I FI) (a1 : Int64) (g0 : (FI 121 73).toInt ≤ 29000) (g1 : 0 ≤ (a1).toInt ∧ (a1).toInt ≤ 9223372036854775807) : hw base (d + 1) none 221 0 [(0, .ref (base + 121)), (1, .long (a1))] [] (n, sl, SH, FI, FL, FR) (h_V (fun s => ∃ FI', s = (n, sl, SH, FI', FL, FR) ∧ g_I FI' ∧ g_fr n SH [(121, 73)] [154] [] FI FI' ∧ ((FI 121 73).toInt < (FI' 121 73).toInt) ∧ ((FI' 121 73).toInt ≤ (FI 121 73).toInt + 10))) := by
  have rg_a1 := l_rng a1
  obtain ⟨x1, h2⟩ : ∃ y, FI 121 73 = y := ⟨_, rfl⟩
  have h2l := congrArg Int32.toInt h2
  have b3 := gI_121_73 hI; rw [h2] at b3
  refine xw_lloadn (aX12_unsigned 0 rfl) rfl ?_
  refine xw_lstoren (L2 := [(3, .long (a1)), (0, .ref (base + 121)), (1, .long (a1))]) (aX12_unsigned 1 rfl) (by decide) rfl ?_
  have lp10 : ∀ (m : Nat) (y3 : Int64) (FIv4 : Nat → Nat → Int32), (g_fr n SH [(121, 73)] [154] [] FI FIv4) → (g_I FIv4) → (0 ≤ (y3).toInt ∧ (y3).toInt ≤ 9223372036854775807) → ((FI 121 73).toInt ≤ (FIv4 121 73).toInt) → ((FIv4 121 73).toInt ≤ (FI 121 73).toInt + 9) → ((y3).toInt < p7 ((FIv4 121 73).toInt - (FI 121 73).toInt)) → (y3).toInt < m → hw base (d + 1) none 221 2 [(3, .long (y3)), (0, .ref (base + 121))] [] (n, sl, SH, FIv4, FL, FR) (h_V (fun s => ∃ FI', s = (n, sl, SH, FI', FL, FR) ∧ g_I FI' ∧ g_fr n SH [(121, 73)] [154] [] FI FI' ∧ ((FI 121 73).toInt < (FI' 121 73).toInt) ∧ ((FI' 121 73).toInt ≤ (FI 121 73).toInt + 10))) := by
    intro m
    induction m with
    | zero => intro y3 FIv4 fr5 hI6 iv7 iv8 iv9 xi2_0 hm; omega
    | succ m ih =>
      intro y3 FIv4 fr5 hI6 iv7 iv8 iv9 xi2_0 hm
      have rg_y3 := l_rng y3
      obtain ⟨x11, h12⟩ : ∃ y, FIv4 121 73 = y := ⟨_, rfl⟩
      have h12l := congrArg Int32.toInt h12
      have b13 := gI_121_73 hI6; rw [h12] at b13
      refine xw_lloadn (aX12_unsigned 2 rfl) rfl ?_
      refine xw_ldc2 (aX12_unsigned 3 rfl) wk_RX12_499 ?_
      refine hw_lcle (tgt := 32) (aX12_unsigned 4 rfl) (aX12_unsigned 5 rfl) (by decide) rfl (by decide : (127 : Int64).toInt = 127) (fun cd14 => ?_) (fun cd14 => ?_)
      · refine hw_aloadn (aX12_unsigned 19 rfl) rfl ?_
        refine xw_lloadn (aX12_unsigned 20 rfl) rfl ?_
        refine xw_l2i (aX12_unsigned 21 rfl) ?_
        refine hw_tie (A := (y3).toInt) (l_2i rfl (by omega) (by omega)) (fun x15 e16 => ?_)
        refine hw_callV (Bs := [.int (x15)]) (rest := []) (aX12_unsigned 22 rfl) wc_RX12_496 (by decide) rfl wi_yX12_emit wv_yX12_emit (c121 hS) (s121 hS) rfl rfl rfl (Nat.le_of_ble_eq_true rfl) (Nat.le_of_ble_eq_true rfl) (n_emit0 (d := d) hS hF hI6 (x15) (by have := congrArg Int32.toInt (show FIv4 121 73 = x11 from h12); omega)) (fun v17 sv18 p19 => ?_)
        have := congrArg Int32.toInt (show FIv4 121 73 = x11 from h12)
        obtain ⟨rfl, FI21, rfl, hI22, f23, t24⟩ := p19
        obtain ⟨x25, h26⟩ : ∃ y, FI21 121 73 = y := ⟨_, rfl⟩
        have h26l := congrArg Int32.toInt h26
        have b27 := gI_121_73 hI22; rw [h26] at b27
        show hw base _ _ _ _ _ [] _ _
        refine xw_vret (aX12_unsigned 23 rfl) rfl ?_
        exact ⟨rfl, FI21, rfl, hI22, (gf_tr ex_rf fr5 f23 rfl rfl rfl), (by have := congrArg Int32.toInt (show FI21 121 73 = x25 from h26); omega), (by have := congrArg Int32.toInt (show FI21 121 73 = x25 from h26); omega)⟩
      · have h9 : (((FIv4 121 73).toInt - (FI 121 73).toInt) : Int) < 9 := by rcases Int.lt_or_le ((FIv4 121 73).toInt - (FI 121 73).toInt) 9 with h | h; { exact h }; { have := p7_9 xi2_0 (by omega); omega }
        refine hw_aloadn (aX12_unsigned 6 rfl) rfl ?_
        refine xw_lloadn (aX12_unsigned 7 rfl) rfl ?_
        refine xw_ldc2 (aX12_unsigned 8 rfl) wk_RX12_499 ?_
        refine xw_land (aX12_unsigned 9 rfl) ?_
        refine hw_tlb (lo := 0) (hi := 127) (l_and (x := y3) (m := (127 : Int64)) (M := 127) (by decide) (by decide)) (fun x28 b29 => ?_)
        refine xw_l2i (aX12_unsigned 10 rfl) ?_
        refine hw_tie (A := (x28).toInt) (l_2i rfl (by omega) (by omega)) (fun x30 e31 => ?_)
        refine hw_sp (v := (128 : Int32)) (aX12_unsigned 11 rfl) (by decide) ?_
        refine xw_ior (aX12_unsigned 12 rfl) ?_
        refine hw_ti (fun x32 => ?_)
        have b33 := i_rng x32
        refine hw_callV (Bs := [.int (x32)]) (rest := []) (aX12_unsigned 13 rfl) wc_RX12_496 (by decide) rfl wi_yX12_emit wv_yX12_emit (c121 hS) (s121 hS) rfl rfl rfl (Nat.le_of_ble_eq_true rfl) (Nat.le_of_ble_eq_true rfl) (n_emit0 (d := d) hS hF hI6 (x32) (by have := congrArg Int32.toInt (show FIv4 121 73 = x11 from h12); omega)) (fun v34 sv35 p36 => ?_)
        have := congrArg Int32.toInt (show FIv4 121 73 = x11 from h12)
        obtain ⟨rfl, FI38, rfl, hI39, f40, t41⟩ := p36
        obtain ⟨x42, h43⟩ : ∃ y, FI38 121 73 = y := ⟨_, rfl⟩
        have h43l := congrArg Int32.toInt h43
        have b44 := gI_121_73 hI39; rw [h43] at b44
        show hw base _ _ _ _ _ [] _ _
        refine xw_lloadn (aX12_unsigned 14 rfl) rfl ?_
        refine hw_bp (v := (7 : Int32)) (aX12_unsigned 15 rfl) (by decide) ?_
        refine xw_lshr (aX12_unsigned 16 rfl) ?_
        refine hw_tle (A := ((y3).toInt) / (128)) (l_shr7 rfl) (fun x45 e46 => ?_)
        refine xw_lstoren (L2 := [(3, .long (x45)), (0, .ref (base + 121))]) (aX12_unsigned 17 rfl) (by decide) rfl ?_
        refine xw_goto (tgt := 2) (aX12_unsigned 18 rfl) (by decide) ?_
        exact hw_L (ih (x45) FI38 (gf_tr ex_rf fr5 f40 rfl rfl rfl) hI39 (by have := (e46 : (x45).toInt = ((y3).toInt) / (128)); omega) (by have := (e46 : (x45).toInt = ((y3).toInt) / (128)); have := congrArg Int32.toInt (show FI38 121 73 = x42 from h43); omega) (by have := (e46 : (x45).toInt = ((y3).toInt) / (128)); have := congrArg Int32.toInt (show FI38 121 73 = x42 from h43); omega) (show (x45).toInt < p7 ((FI38 121 73).toInt - (FI 121 73).toInt) from (by have := (e46 : (x45).toInt = ((y3).toInt) / (128)); have := congrArg Int32.toInt (show FI38 121 73 = x42 from h43); exact (by have e1 := e46; rw [show ((FI38 121 73).toInt - (FI 121 73).toInt) = ((FIv4 121 73).toInt - (FI 121 73).toInt) + 1 by omega, e1]; exact p7_s xi2_0 (by omega) (by omega)))) (by have := (e46 : (x45).toInt = ((y3).toInt) / (128)); omega)) ⟨rfl, rfl, trivial⟩
  exact hw_L (lp10 (((a1).toInt : Int).toNat + 1) (a1) FI gf_rf hI (by omega) (by have := congrArg Int32.toInt (show FI 121 73 = x1 from h2); omega) (by have := congrArg Int32.toInt (show FI 121 73 = x1 from h2); omega) (show (a1).toInt < p7 ((FI 121 73).toInt - (FI 121 73).toInt) from (by have := congrArg Int32.toInt (show FI 121 73 = x1 from h2); exact (by rw [show ((FI 121 73).toInt - (FI 121 73).toInt) = (0 : Int) by omega]; exact p7_0 (by omega)))) (by omega)) ⟨rfl, rfl, trivial⟩
def nX12_chosen : Nat := 0xb1d0ffa73c030400a70407009a4102b42ab104009a3e02b62ae8ffa73c030400a70407009a3b02b62a1300991b2f009adb01b42a3c042c02b5032a
theorem bX12_chosen : cX12_chosen.data.toList.map UInt8.toNat = x_un nX12_chosen 59 := by decide +kernel
def iX12_chosen : List (Nat × Jvm.ClassFile.Instr × Nat) := [(0, .aload_n 0, 1), (1, .iconst 0, 1), (2, .putfield 556, 3), (5, .iconst 1, 1), (6, .istore_n 1, 1), (7, .aload_n 0, 1), (8, .getfield 475, 3), (11, .ifCond .ne 47, 3), (14, .iload_n 1, 1), (15, .ifCond .eq 19, 3), (18, .aload_n 0, 1), (19, .invokevirtual 571, 3), (22, .ifCond .ne 7, 3), (25, .iconst 1, 1), (26, .goto 4, 3), (29, .iconst 0, 1), (30, .istore_n 1, 1), (31, .goto (-24), 3), (34, .aload_n 0, 1), (35, .invokevirtual 574, 3), (38, .ifCond .ne 4, 3), (41, .return_, 1), (42, .aload_n 0, 1), (43, .getfield 577, 3), (46, .ifCond .ne 7, 3), (49, .iconst 1, 1), (50, .goto 4, 3), (53, .iconst 0, 1), (54, .istore_n 1, 1), (55, .goto (-48), 3), (58, .return_, 1)]
theorem dX12_chosen : x_il nX12_chosen 59 iX12_chosen = true := by decide +kernel
theorem aX12_chosen (k : Nat) {pc : Nat} {i : Jvm.ClassFile.Instr} {len : Nat} (hk : iX12_chosen[k]? = some (pc, i, len)) : x_at xMM 238 pc i len yX12_chosen 2 none := ⟨cX12_chosen, rfl, x_il_ok bX12_chosen dX12_chosen k hk⟩
set_option maxHeartbeats 4000000 in
set_option maxRecDepth 100000 in
theorem n_chosen {base d n sl : Nat} {SH : Nat → Nat × Nat} {FI : Nat → Nat → Int32} {FL : Nat → Nat → Int64} {FR : Nat → Nat → Option Nat} (hS : h_S n SH) (hF : h_FR FR) (hI : g_I FI) (g0 : (FI 121 68).toInt ≤ (FI 121 67).toInt - 1) (g1 : (FI 121 73).toInt ≤ 20 * (FI 121 68).toInt + 200) (g2 : (FI 121 69).toInt = 0 → 0 ≤ (FI 121 71).toInt ∧ (FI 121 71).toInt ≤ 12) (g3 : -700 ≤ (FI 121 71).toInt ∧ (FI 121 71).toInt ≤ 100) (rel_tend : rl_e (FI 149) (FI 121 67)) (rel_tok : rl_t (FI 149) (FL 150)) : hw base (d + 6) none 238 0 [(0, .ref (base + 121))] [] (n, sl, SH, FI, FL, FR) (h_V (fun s => ∃ FI', s = (n, sl, SH, FI', FL, FR) ∧ g_I FI' ∧ g_fr n SH [(121, 68), (121, 69), (121, 70), (121, 71), (121, 73), (121, 90), (121, 91)] [154, 164, 165, 166, 167, 168] [] FI FI' ∧ ((FI' 121 68).toInt ≤ (FI' 121 67).toInt - 1) ∧ ((FI 121 68).toInt ≤ (FI' 121 68).toInt) ∧ ((FI' 121 73).toInt + 4 * (FI' 121 90).toInt ≤ (FI 121 73).toInt + 20 * ((FI' 121 68).toInt - (FI 121 68).toInt)) ∧ ((FI 121 73).toInt ≤ (FI' 121 73).toInt) ∧ (-700 ≤ (FI' 121 71).toInt ∧ (FI' 121 71).toInt ≤ 100) ∧ ((FI' 121 69).toInt = 0 → au_acc (kf (FI 149)) (wf (FL 150)) (FI 121 68).toInt.toNat (FI' 121 68).toInt.toNat) ∧ ((FI' 121 69).toInt = 0 → (FI' 121 71).toInt = (FI 121 71).toInt))) := by
  obtain ⟨x1, h2⟩ : ∃ y, FI 121 68 = y := ⟨_, rfl⟩
  have h2l := congrArg Int32.toInt h2
  have b3 := gI_121_68 hI; rw [h2] at b3
  obtain ⟨x4, h5⟩ : ∃ y, FI 121 67 = y := ⟨_, rfl⟩
  have h5l := congrArg Int32.toInt h5
  have b6 := gI_121_67 hI; rw [h5] at b6
  obtain ⟨x7, h8⟩ : ∃ y, FI 121 73 = y := ⟨_, rfl⟩
  have h8l := congrArg Int32.toInt h8
  have b9 := gI_121_73 hI; rw [h8] at b9
  obtain ⟨x10, h11⟩ : ∃ y, FI 121 69 = y := ⟨_, rfl⟩
  have h11l := congrArg Int32.toInt h11
  have := i_rng x10
  obtain ⟨x12, h13⟩ : ∃ y, FI 121 71 = y := ⟨_, rfl⟩
  have h13l := congrArg Int32.toInt h13
  have := i_rng x12
  obtain ⟨x14, h15⟩ : ∃ y, FI 121 90 = y := ⟨_, rfl⟩
  have h15l := congrArg Int32.toInt h15
  have b16 := gI_121_90 hI; rw [h15] at b16
  refine hw_aloadn (aX12_chosen 0 rfl) rfl ?_
  refine hw_ic (v := (0 : Int32)) (aX12_chosen 1 rfl) (by decide) ?_
  refine hv_puti (aX12_chosen 2 rfl) wf_RX12_556 (c121 hS) (s121 hS) (by decide) rfl rfl (fun FI17 u18 => ?_)
  have rl19 : rl_e (FI17 149) (FI17 121 67) := by rw [show FI17 149 = FI 149 from up_row u18 (by decide) rfl, show FI17 121 67 = FI 121 67 from up_k u18 (by decide) rfl]; exact rel_tend
  have rl20 : rl_t (FI17 149) (FL 150) := by rw [show FI17 149 = FI 149 from up_row u18 (by decide) rfl]; exact rel_tok
  have hI21 : g_I FI17 := gU_121_90 hI u18 (by have := ((by decide : (0 : Int32).toInt = 0) : ((0 : Int32)).toInt = 0); omega) (by have := ((by decide : (0 : Int32).toInt = 0) : ((0 : Int32)).toInt = 0); omega)
  have rl22 : rl_pm (FI17 121 90) (FI17 121 73) (FI17 166) (FI17 167) (FI17 168) := rl_pm_0 (by have := congrArg Int32.toInt (show FI17 121 90 = (0 : Int32) from up_eq u18); have := ((by decide : (0 : Int32).toInt = 0) : ((0 : Int32)).toInt = 0); omega)
  refine hw_ic (v := (1 : Int32)) (aX12_chosen 3 rfl) (by decide) ?_
  refine xw_istoren (L2 := [(1, .int ((1 : Int32))), (0, .ref (base + 121))]) (aX12_chosen 4 rfl) (by decide) rfl ?_
  refine hw_aloadn (aX12_chosen 5 rfl) rfl ?_
  refine hw_get (v := .int (x10)) (aX12_chosen 6 rfl) wf_RX12_475 (c121 hS) (s121 hS) (by decide) (congrArg Value.int (show FI17 121 69 = x10 from (up_k u18 (by decide) (h11)))) ?_
  refine hw_ifne (tgt := 58) (aX12_chosen 7 rfl) (by decide) rfl (fun cd23 => ?_) (fun cd23 => ?_)
  · refine xw_vret (aX12_chosen 30 rfl) rfl ?_
    exact ⟨rfl, FI17, rfl, hI21, (gf_f gf_rf u18 (by decide)), (by have := congrArg Int32.toInt (show FI17 121 67 = x4 from (up_k u18 (by decide) (h5))); have := congrArg Int32.toInt (show FI17 121 68 = x1 from (up_k u18 (by decide) (h2))); omega), (by have := congrArg Int32.toInt (show FI17 121 68 = x1 from (up_k u18 (by decide) (h2))); omega), (by have := congrArg Int32.toInt (show FI17 121 68 = x1 from (up_k u18 (by decide) (h2))); have := congrArg Int32.toInt (show FI17 121 73 = x7 from (up_k u18 (by decide) (h8))); have := congrArg Int32.toInt (show FI17 121 90 = (0 : Int32) from up_eq u18); have := ((by decide : (0 : Int32).toInt = 0) : ((0 : Int32)).toInt = 0); omega), (by have := congrArg Int32.toInt (show FI17 121 73 = x7 from (up_k u18 (by decide) (h8))); omega), (by have := congrArg Int32.toInt (show FI17 121 71 = x12 from (up_k u18 (by decide) (h13))); omega), (by have := congrArg Int32.toInt (show FI17 121 69 = x10 from (up_k u18 (by decide) (h11))); exact fun h => absurd h (by omega)), (by have := congrArg Int32.toInt (show FI17 121 69 = x10 from (up_k u18 (by decide) (h11))); exact fun h => absurd h (by omega))⟩
  · have lp41 : ∀ (m : Nat) (y1 : Int32) (FIv24 : Nat → Nat → Int32), (g_fr n SH [(121, 68), (121, 69), (121, 70), (121, 71), (121, 73), (121, 90), (121, 91)] [154, 164, 165, 166, 167, 168] [] FI FIv24) → (g_I FIv24) → (FIv24 121 67 = x4) → (rl_e (FIv24 149) (FIv24 121 67)) → (rl_t (FIv24 149) (FL 150)) → (rl_pm (FIv24 121 90) (FIv24 121 73) (FIv24 166) (FIv24 167) (FIv24 168)) → (0 ≤ (y1).toInt ∧ (y1).toInt ≤ 1) → (0 ≤ (FIv24 121 68).toInt ∧ (FIv24 121 68).toInt ≤ 1000) → ((FIv24 121 68).toInt ≤ (x4).toInt - 1) → ((FI 121 68).toInt ≤ (FIv24 121 68).toInt) → ((FIv24 121 73).toInt + 4 * (FIv24 121 90).toInt ≤ (FI 121 73).toInt + 20 * ((FIv24 121 68).toInt - (FI 121 68).toInt)) → ((FI 121 73).toInt ≤ (FIv24 121 73).toInt) → ((FIv24 121 69).toInt = 0) → ((FIv24 121 71).toInt ≤ 12) → (0 ≤ (FI 121 71).toInt) → (ch_inv (kf (FI 149)) (wf (FL 150)) (FI 121 68).toInt.toNat (FI 121 71).toInt ((FIv24 121 68).toInt).toNat (y1).toInt (sk (FIv24 166) ((FIv24 121 90).toInt).toNat) (FIv24 121 71).toInt) → (FIv24 149 = FI 149) → 1001 - (FIv24 121 68).toInt < m → hw base (d + 6) none 238 14 [(1, .int (y1)), (0, .ref (base + 121))] [] (n, sl, SH, FIv24, FL, FR) (h_V (fun s => ∃ FI', s = (n, sl, SH, FI', FL, FR) ∧ g_I FI' ∧ g_fr n SH [(121, 68), (121, 69), (121, 70), (121, 71), (121, 73), (121, 90), (121, 91)] [154, 164, 165, 166, 167, 168] [] FI FI' ∧ ((FI' 121 68).toInt ≤ (FI' 121 67).toInt - 1) ∧ ((FI 121 68).toInt ≤ (FI' 121 68).toInt) ∧ ((FI' 121 73).toInt + 4 * (FI' 121 90).toInt ≤ (FI 121 73).toInt + 20 * ((FI' 121 68).toInt - (FI 121 68).toInt)) ∧ ((FI 121 73).toInt ≤ (FI' 121 73).toInt) ∧ (-700 ≤ (FI' 121 71).toInt ∧ (FI' 121 71).toInt ≤ 100) ∧ ((FI' 121 69).toInt = 0 → au_acc (kf (FI 149)) (wf (FL 150)) (FI 121 68).toInt.toNat (FI' 121 68).toInt.toNat) ∧ ((FI' 121 69).toInt = 0 → (FI' 121 71).toInt = (FI 121 71).toInt))) := by
      intro m
      induction m with
      | zero => intro y1 FIv24 fr25 hI26 kp27 rl28 rl29 rl30 iv31 iv32 iv33 iv34 iv35 iv36 iv37 iv38 iv39 xi14_0 rw40 hm; omega
      | succ m ih =>
        intro y1 FIv24 fr25 hI26 kp27 rl28 rl29 rl30 iv31 iv32 iv33 iv34 iv35 iv36 iv37 iv38 iv39 xi14_0 rw40 hm
        have rg_y1 := i_rng y1
        have := congrArg Int32.toInt kp27
        obtain ⟨x42, h43⟩ : ∃ y, FIv24 121 68 = y := ⟨_, rfl⟩
        have h43l := congrArg Int32.toInt h43
        have b44 := gI_121_68 hI26; rw [h43] at b44
        obtain ⟨x45, h46⟩ : ∃ y, FIv24 121 73 = y := ⟨_, rfl⟩
        have h46l := congrArg Int32.toInt h46
        have b47 := gI_121_73 hI26; rw [h46] at b47
        obtain ⟨x48, h49⟩ : ∃ y, FIv24 121 90 = y := ⟨_, rfl⟩
        have h49l := congrArg Int32.toInt h49
        have b50 := gI_121_90 hI26; rw [h49] at b50
        obtain ⟨x51, h52⟩ : ∃ y, FIv24 121 69 = y := ⟨_, rfl⟩
        have h52l := congrArg Int32.toInt h52
        have := i_rng x51
        obtain ⟨x53, h54⟩ : ∃ y, FIv24 121 71 = y := ⟨_, rfl⟩
        have h54l := congrArg Int32.toInt h54
        have := i_rng x53
        refine xw_iloadn (aX12_chosen 8 rfl) rfl ?_
        have hk14 := ch_ok xi14_0
        rw [sk_len] at hk14
        have hw14 : (FIv24 121 90).toInt ≤ 103 ∧ 0 ≤ (FIv24 121 71).toInt := by have := hk14.2.2; have h2 := xi14_0.2.1; omega
        refine hw_ifeq (tgt := 34) (aX12_chosen 9 rfl) (by decide) rfl (fun cd55 => ?_) (fun cd55 => ?_)
        · refine hw_aloadn (aX12_chosen 18 rfl) rfl ?_
          refine hw_callV (Bs := []) (rest := []) (aX12_chosen 19 rfl) wc_RX12_574 (by decide) rfl wi_yX12_operator wv_yX12_operator (c121 hS) (s121 hS) rfl rfl rfl (Nat.le_of_ble_eq_true rfl) (Nat.le_of_ble_eq_true rfl) (n_operator (d := d) hS hF hI26 (by have := congrArg Int32.toInt (show FIv24 121 68 = x42 from h43); have := congrArg Int32.toInt (show FIv24 121 67 = x4 from kp27); omega) (by have := congrArg Int32.toInt (show FIv24 121 69 = x51 from h52); omega) (by have := congrArg Int32.toInt (show FIv24 121 73 = x45 from h46); have := congrArg Int32.toInt (show FIv24 121 90 = x48 from h49); omega) (by have := congrArg Int32.toInt (show FIv24 121 90 = x48 from h49); omega) (by have := congrArg Int32.toInt (show FIv24 121 71 = x53 from h54); have := congrArg Int32.toInt (show FIv24 121 71 = x53 from h54); omega) (hk14.1) (hk14.2.1 (by omega)) (show rl_e (FIv24 149) (FIv24 121 67) from rl28) (show rl_t (FIv24 149) (FL 150) from rl29) (show rl_pm (FIv24 121 90) (FIv24 121 73) (FIv24 166) (FIv24 167) (FIv24 168) from rl30)) (fun v56 sv57 p58 => ?_)
          have := congrArg Int32.toInt (show FIv24 121 68 = x42 from h43)
          have := congrArg Int32.toInt (show FIv24 121 73 = x45 from h46)
          have := congrArg Int32.toInt (show FIv24 121 90 = x48 from h49)
          have := congrArg Int32.toInt (show FIv24 121 68 = x42 from h43)
          have := congrArg Int32.toInt (show FIv24 121 73 = x45 from h46)
          have := congrArg Int32.toInt (show FIv24 121 90 = x48 from h49)
          have := congrArg Int32.toInt (show FIv24 121 68 = x42 from h43)
          have := congrArg Int32.toInt (show FIv24 121 71 = x53 from h54)
          have := congrArg Int32.toInt (show FIv24 121 71 = x53 from h54)
          obtain ⟨r59, rfl, FI60, rfl, hI61, f62, t63, t64, t65, t66, t67, t68, t69, t70, t71, t72, u73, u74, rl75⟩ := p58
          have rl76 : rl_e (FI60 149) (FI60 121 67) := by rw [show FI60 149 = FIv24 149 from gf_row f62 (c149 hS) (s149 hS) rfl rfl, show FI60 121 67 = FIv24 121 67 from gf_at f62 (c121 hS) (s121 hS) rfl rfl]; exact rl28
          have rl77 : rl_t (FI60 149) (FL 150) := by rw [show FI60 149 = FIv24 149 from gf_row f62 (c149 hS) (s149 hS) rfl rfl]; exact rl29
          obtain ⟨x78, h79⟩ : ∃ y, FI60 121 68 = y := ⟨_, rfl⟩
          have h79l := congrArg Int32.toInt h79
          have b80 := gI_121_68 hI61; rw [h79] at b80
          have := congrArg Int32.toInt (show FI60 121 67 = x4 from (gf_at f62 (c121 hS) (s121 hS) rfl (kp27)))
          obtain ⟨x81, h82⟩ : ∃ y, FI60 121 73 = y := ⟨_, rfl⟩
          have h82l := congrArg Int32.toInt h82
          have b83 := gI_121_73 hI61; rw [h82] at b83
          obtain ⟨x84, h85⟩ : ∃ y, FI60 121 90 = y := ⟨_, rfl⟩
          have h85l := congrArg Int32.toInt h85
          have b86 := gI_121_90 hI61; rw [h85] at b86
          obtain ⟨x87, h88⟩ : ∃ y, FI60 121 69 = y := ⟨_, rfl⟩
          have h88l := congrArg Int32.toInt h88
          have := i_rng x87
          obtain ⟨x89, h90⟩ : ∃ y, FI60 121 71 = y := ⟨_, rfl⟩
          have h90l := congrArg Int32.toInt h90
          have := i_rng x89
          show hw base _ _ _ _ _ [.int (r59)] _ _
          refine hw_ifne (tgt := 42) (aX12_chosen 20 rfl) (by decide) rfl (fun cd91 => ?_) (fun cd91 => ?_)
          · replace t68 := t68 (by omega)
            refine hw_aloadn (aX12_chosen 22 rfl) rfl ?_
            obtain ⟨x92, h93⟩ : ∃ y, FI60 121 91 = y := ⟨_, rfl⟩
            have h93l := congrArg Int32.toInt h93
            have b94 := gI_121_91 hI61; rw [h93] at b94
            refine hw_get (v := .int (x92)) (aX12_chosen 23 rfl) wf_RX12_577 (c121 hS) (s121 hS) (by decide) (congrArg Value.int (show FI60 121 91 = x92 from h93)) ?_
            refine hw_ifne (tgt := 53) (aX12_chosen 24 rfl) (by decide) rfl (fun cd95 => ?_) (fun cd95 => ?_)
            · refine hw_ic (v := (0 : Int32)) (aX12_chosen 27 rfl) (by decide) ?_
              refine xw_istoren (L2 := [(1, .int ((0 : Int32))), (0, .ref (base + 121))]) (aX12_chosen 28 rfl) (by decide) rfl ?_
              refine xw_goto (tgt := 7) (aX12_chosen 29 rfl) (by decide) ?_
              refine hw_aloadn (aX12_chosen 5 rfl) rfl ?_
              refine hw_get (v := .int (x87)) (aX12_chosen 6 rfl) wf_RX12_475 (c121 hS) (s121 hS) (by decide) (congrArg Value.int (show FI60 121 69 = x87 from h88)) ?_
              refine hw_ifne (tgt := 58) (aX12_chosen 7 rfl) (by decide) rfl (fun cd96 => ?_) (fun cd96 => ?_)
              · refine xw_vret (aX12_chosen 30 rfl) rfl ?_
                exact ⟨rfl, FI60, rfl, hI61, (gf_tr ex_rf fr25 f62 rfl rfl rfl), (by have := congrArg Int32.toInt (show FI60 121 67 = x4 from (gf_at f62 (c121 hS) (s121 hS) rfl (kp27))); have := congrArg Int32.toInt (show FI60 121 68 = x78 from h79); omega), (by have := congrArg Int32.toInt (show FI60 121 68 = x78 from h79); omega), (by have := congrArg Int32.toInt (show FI60 121 68 = x78 from h79); have := congrArg Int32.toInt (show FI60 121 73 = x81 from h82); have := congrArg Int32.toInt (show FI60 121 90 = x84 from h85); omega), (by have := congrArg Int32.toInt (show FI60 121 73 = x81 from h82); omega), (by have := congrArg Int32.toInt (show FI60 121 71 = x89 from h90); omega), (by have := congrArg Int32.toInt (show FI60 121 69 = x87 from h88); exact fun h => absurd h (by omega)), (by have := congrArg Int32.toInt (show FI60 121 69 = x87 from h88); exact fun h => absurd h (by omega))⟩
              · exact hw_L (ih ((0 : Int32)) FI60 (gf_tr ex_rf fr25 f62 rfl rfl rfl) hI61 (show FI60 121 67 = x4 from (gf_at f62 (c121 hS) (s121 hS) rfl (kp27))) (show rl_e (FI60 149) (FI60 121 67) from rl76) (show rl_t (FI60 149) (FL 150) from rl77) (show rl_pm (FI60 121 90) (FI60 121 73) (FI60 166) (FI60 167) (FI60 168) from rl75) (by have := ((by decide : (0 : Int32).toInt = 0) : ((0 : Int32)).toInt = 0); omega) (by have := ((by decide : (0 : Int32).toInt = 0) : ((0 : Int32)).toInt = 0); have := congrArg Int32.toInt (show FI60 121 68 = x78 from h79); omega) (by have := ((by decide : (0 : Int32).toInt = 0) : ((0 : Int32)).toInt = 0); have := congrArg Int32.toInt (show FI60 121 67 = x4 from (gf_at f62 (c121 hS) (s121 hS) rfl (kp27))); have := congrArg Int32.toInt (show FI60 121 68 = x78 from h79); omega) (by have := ((by decide : (0 : Int32).toInt = 0) : ((0 : Int32)).toInt = 0); have := congrArg Int32.toInt (show FI60 121 68 = x78 from h79); omega) (by have := ((by decide : (0 : Int32).toInt = 0) : ((0 : Int32)).toInt = 0); have := congrArg Int32.toInt (show FI60 121 68 = x78 from h79); have := congrArg Int32.toInt (show FI60 121 73 = x81 from h82); have := congrArg Int32.toInt (show FI60 121 90 = x84 from h85); omega) (by have := ((by decide : (0 : Int32).toInt = 0) : ((0 : Int32)).toInt = 0); have := congrArg Int32.toInt (show FI60 121 73 = x81 from h82); omega) (by have := ((by decide : (0 : Int32).toInt = 0) : ((0 : Int32)).toInt = 0); have := congrArg Int32.toInt (show FI60 121 69 = x87 from h88); omega) (by have := ((by decide : (0 : Int32).toInt = 0) : ((0 : Int32)).toInt = 0); have := congrArg Int32.toInt (show FI60 121 71 = x89 from h90); omega) (by have := ((by decide : (0 : Int32).toInt = 0) : ((0 : Int32)).toInt = 0); omega) (show ch_inv (kf (FI 149)) (wf (FL 150)) (FI 121 68).toInt.toNat (FI 121 71).toInt ((FI60 121 68).toInt).toNat 0 (sk (FI60 166) ((FI60 121 90).toInt).toNat) (FI60 121 71).toInt from (by have := ((by decide : (0 : Int32).toInt = 0) : ((0 : Int32)).toInt = 0); have := congrArg Int32.toInt (show FI60 121 68 = x78 from h79); have := congrArg Int32.toInt (show FI60 121 71 = x89 from h90); have := congrArg Int32.toInt (show FI60 121 90 = x84 from h85); exact (by have hx := xi14_0; rw [show (y1).toInt = 0 by omega] at hx; have ho := ((u73 (by omega)).1 (by omega)); rw [show FIv24 149 = FI 149 from rw40] at ho; have hop := u74 (by omega); exact (ch_opr hx ho (by rw [sk_len]; omega) hop).2 (by omega)))) (show FI60 149 = FI 149 from (gf_row f62 (c149 hS) (s149 hS) rfl (rw40))) (by have := ((by decide : (0 : Int32).toInt = 0) : ((0 : Int32)).toInt = 0); have := congrArg Int32.toInt (show FI60 121 68 = x78 from h79); omega)) ⟨rfl, rfl, trivial⟩
            · refine hw_ic (v := (1 : Int32)) (aX12_chosen 25 rfl) (by decide) ?_
              refine xw_goto (tgt := 54) (aX12_chosen 26 rfl) (by decide) ?_
              refine xw_istoren (L2 := [(1, .int ((1 : Int32))), (0, .ref (base + 121))]) (aX12_chosen 28 rfl) (by decide) rfl ?_
              refine xw_goto (tgt := 7) (aX12_chosen 29 rfl) (by decide) ?_
              refine hw_aloadn (aX12_chosen 5 rfl) rfl ?_
              refine hw_get (v := .int (x87)) (aX12_chosen 6 rfl) wf_RX12_475 (c121 hS) (s121 hS) (by decide) (congrArg Value.int (show FI60 121 69 = x87 from h88)) ?_
              refine hw_ifne (tgt := 58) (aX12_chosen 7 rfl) (by decide) rfl (fun cd97 => ?_) (fun cd97 => ?_)
              · refine xw_vret (aX12_chosen 30 rfl) rfl ?_
                exact ⟨rfl, FI60, rfl, hI61, (gf_tr ex_rf fr25 f62 rfl rfl rfl), (by have := congrArg Int32.toInt (show FI60 121 67 = x4 from (gf_at f62 (c121 hS) (s121 hS) rfl (kp27))); have := congrArg Int32.toInt (show FI60 121 68 = x78 from h79); omega), (by have := congrArg Int32.toInt (show FI60 121 68 = x78 from h79); omega), (by have := congrArg Int32.toInt (show FI60 121 68 = x78 from h79); have := congrArg Int32.toInt (show FI60 121 73 = x81 from h82); have := congrArg Int32.toInt (show FI60 121 90 = x84 from h85); omega), (by have := congrArg Int32.toInt (show FI60 121 73 = x81 from h82); omega), (by have := congrArg Int32.toInt (show FI60 121 71 = x89 from h90); omega), (by have := congrArg Int32.toInt (show FI60 121 69 = x87 from h88); exact fun h => absurd h (by omega)), (by have := congrArg Int32.toInt (show FI60 121 69 = x87 from h88); exact fun h => absurd h (by omega))⟩
              · exact hw_L (ih ((1 : Int32)) FI60 (gf_tr ex_rf fr25 f62 rfl rfl rfl) hI61 (show FI60 121 67 = x4 from (gf_at f62 (c121 hS) (s121 hS) rfl (kp27))) (show rl_e (FI60 149) (FI60 121 67) from rl76) (show rl_t (FI60 149) (FL 150) from rl77) (show rl_pm (FI60 121 90) (FI60 121 73) (FI60 166) (FI60 167) (FI60 168) from rl75) (by have := ((by decide : (1 : Int32).toInt = 1) : ((1 : Int32)).toInt = 1); omega) (by have := ((by decide : (1 : Int32).toInt = 1) : ((1 : Int32)).toInt = 1); have := congrArg Int32.toInt (show FI60 121 68 = x78 from h79); omega) (by have := ((by decide : (1 : Int32).toInt = 1) : ((1 : Int32)).toInt = 1); have := congrArg Int32.toInt (show FI60 121 67 = x4 from (gf_at f62 (c121 hS) (s121 hS) rfl (kp27))); have := congrArg Int32.toInt (show FI60 121 68 = x78 from h79); omega) (by have := ((by decide : (1 : Int32).toInt = 1) : ((1 : Int32)).toInt = 1); have := congrArg Int32.toInt (show FI60 121 68 = x78 from h79); omega) (by have := ((by decide : (1 : Int32).toInt = 1) : ((1 : Int32)).toInt = 1); have := congrArg Int32.toInt (show FI60 121 68 = x78 from h79); have := congrArg Int32.toInt (show FI60 121 73 = x81 from h82); have := congrArg Int32.toInt (show FI60 121 90 = x84 from h85); omega) (by have := ((by decide : (1 : Int32).toInt = 1) : ((1 : Int32)).toInt = 1); have := congrArg Int32.toInt (show FI60 121 73 = x81 from h82); omega) (by have := ((by decide : (1 : Int32).toInt = 1) : ((1 : Int32)).toInt = 1); have := congrArg Int32.toInt (show FI60 121 69 = x87 from h88); omega) (by have := ((by decide : (1 : Int32).toInt = 1) : ((1 : Int32)).toInt = 1); have := congrArg Int32.toInt (show FI60 121 71 = x89 from h90); omega) (by have := ((by decide : (1 : Int32).toInt = 1) : ((1 : Int32)).toInt = 1); omega) (show ch_inv (kf (FI 149)) (wf (FL 150)) (FI 121 68).toInt.toNat (FI 121 71).toInt ((FI60 121 68).toInt).toNat 1 (sk (FI60 166) ((FI60 121 90).toInt).toNat) (FI60 121 71).toInt from (by have := ((by decide : (1 : Int32).toInt = 1) : ((1 : Int32)).toInt = 1); have := congrArg Int32.toInt (show FI60 121 68 = x78 from h79); have := congrArg Int32.toInt (show FI60 121 71 = x89 from h90); have := congrArg Int32.toInt (show FI60 121 90 = x84 from h85); exact (by have hx := xi14_0; rw [show (y1).toInt = 0 by omega] at hx; have ho := ((u73 (by omega)).1 (by omega)); rw [show FIv24 149 = FI 149 from rw40] at ho; have hop := u74 (by omega); exact (ch_opr hx ho (by rw [sk_len]; omega) hop).1 (by omega)))) (show FI60 149 = FI 149 from (gf_row f62 (c149 hS) (s149 hS) rfl (rw40))) (by have := ((by decide : (1 : Int32).toInt = 1) : ((1 : Int32)).toInt = 1); have := congrArg Int32.toInt (show FI60 121 68 = x78 from h79); omega)) ⟨rfl, rfl, trivial⟩
          · clear t68
            refine xw_vret (aX12_chosen 21 rfl) rfl ?_
            exact ⟨rfl, FI60, rfl, hI61, (gf_tr ex_rf fr25 f62 rfl rfl rfl), (by have := congrArg Int32.toInt (show FI60 121 67 = x4 from (gf_at f62 (c121 hS) (s121 hS) rfl (kp27))); have := congrArg Int32.toInt (show FI60 121 68 = x78 from h79); omega), (by have := congrArg Int32.toInt (show FI60 121 68 = x78 from h79); omega), (by have := congrArg Int32.toInt (show FI60 121 68 = x78 from h79); have := congrArg Int32.toInt (show FI60 121 73 = x81 from h82); have := congrArg Int32.toInt (show FI60 121 90 = x84 from h85); omega), (by have := congrArg Int32.toInt (show FI60 121 73 = x81 from h82); omega), (by have := congrArg Int32.toInt (show FI60 121 71 = x89 from h90); omega), (by have := congrArg Int32.toInt (show FI60 121 69 = x87 from h88); intro h69; have hx := xi14_0; rw [show (y1).toInt = 0 by omega] at hx; have he := ((u73 (by omega)).2 (by omega)); rw [show FIv24 149 = FI 149 from rw40] at he; rw [he.2]; exact ch_end hx he.1), (by have := congrArg Int32.toInt (show FI60 121 69 = x87 from h88); have := congrArg Int32.toInt (show FI60 121 71 = x89 from h90); have := congrArg Int32.toInt (show FI60 121 90 = x84 from h85); intro h69; have hop := u74 (by omega); have h0 := hid_e t71 (by omega); rw [show (FI60 121 90).toInt.toNat = 0 by omega] at hop; have h2 := xi14_0.2.1; simp only [sk, au_op] at hop; omega)⟩
        · refine hw_aloadn (aX12_chosen 10 rfl) rfl ?_
          refine hw_callV (Bs := []) (rest := []) (aX12_chosen 11 rfl) wc_RX12_571 (by decide) rfl wi_yX12_operand wv_yX12_operand (c121 hS) (s121 hS) rfl rfl rfl (Nat.le_of_ble_eq_true rfl) (Nat.le_of_ble_eq_true rfl) (n_operand (d := d + 1) hS hF hI26 (by have := congrArg Int32.toInt (show FIv24 121 68 = x42 from h43); have := congrArg Int32.toInt (show FIv24 121 67 = x4 from kp27); omega) (by have := congrArg Int32.toInt (show FIv24 121 69 = x51 from h52); omega) (by have := congrArg Int32.toInt (show FIv24 121 73 = x45 from h46); have := congrArg Int32.toInt (show FIv24 121 90 = x48 from h49); omega) (by have := congrArg Int32.toInt (show FIv24 121 90 = x48 from h49); omega) (by have := congrArg Int32.toInt (show FIv24 121 71 = x53 from h54); have := congrArg Int32.toInt (show FIv24 121 71 = x53 from h54); omega) (show rl_e (FIv24 149) (FIv24 121 67) from rl28) (show rl_t (FIv24 149) (FL 150) from rl29) (show rl_pm (FIv24 121 90) (FIv24 121 73) (FIv24 166) (FIv24 167) (FIv24 168) from rl30)) (fun v98 sv99 p100 => ?_)
          have := congrArg Int32.toInt (show FIv24 121 68 = x42 from h43)
          have := congrArg Int32.toInt (show FIv24 121 73 = x45 from h46)
          have := congrArg Int32.toInt (show FIv24 121 90 = x48 from h49)
          have := congrArg Int32.toInt (show FIv24 121 68 = x42 from h43)
          have := congrArg Int32.toInt (show FIv24 121 73 = x45 from h46)
          have := congrArg Int32.toInt (show FIv24 121 68 = x42 from h43)
          have := congrArg Int32.toInt (show FIv24 121 90 = x48 from h49)
          have := congrArg Int32.toInt (show FIv24 121 71 = x53 from h54)
          have := congrArg Int32.toInt (show FIv24 121 71 = x53 from h54)
          obtain ⟨r101, rfl, FI102, rfl, hI103, f104, t105, t106, t107, t108, t109, t110, t111, t112, u113, u114, rl115⟩ := p100
          have rl116 : rl_e (FI102 149) (FI102 121 67) := by rw [show FI102 149 = FIv24 149 from gf_row f104 (c149 hS) (s149 hS) rfl rfl, show FI102 121 67 = FIv24 121 67 from gf_at f104 (c121 hS) (s121 hS) rfl rfl]; exact rl28
          have rl117 : rl_t (FI102 149) (FL 150) := by rw [show FI102 149 = FIv24 149 from gf_row f104 (c149 hS) (s149 hS) rfl rfl]; exact rl29
          obtain ⟨x118, h119⟩ : ∃ y, FI102 121 68 = y := ⟨_, rfl⟩
          have h119l := congrArg Int32.toInt h119
          have b120 := gI_121_68 hI103; rw [h119] at b120
          have := congrArg Int32.toInt (show FI102 121 67 = x4 from (gf_at f104 (c121 hS) (s121 hS) rfl (kp27)))
          obtain ⟨x121, h122⟩ : ∃ y, FI102 121 73 = y := ⟨_, rfl⟩
          have h122l := congrArg Int32.toInt h122
          have b123 := gI_121_73 hI103; rw [h122] at b123
          obtain ⟨x124, h125⟩ : ∃ y, FI102 121 90 = y := ⟨_, rfl⟩
          have h125l := congrArg Int32.toInt h125
          have b126 := gI_121_90 hI103; rw [h125] at b126
          obtain ⟨x127, h128⟩ : ∃ y, FI102 121 69 = y := ⟨_, rfl⟩
          have h128l := congrArg Int32.toInt h128
          have := i_rng x127
          obtain ⟨x129, h130⟩ : ∃ y, FI102 121 71 = y := ⟨_, rfl⟩
          have h130l := congrArg Int32.toInt h130
          have := i_rng x129
          show hw base _ _ _ _ _ [.int (r101)] _ _
          refine hw_ifne (tgt := 29) (aX12_chosen 12 rfl) (by decide) rfl (fun cd131 => ?_) (fun cd131 => ?_)
          · refine hw_ic (v := (0 : Int32)) (aX12_chosen 15 rfl) (by decide) ?_
            refine xw_istoren (L2 := [(1, .int ((0 : Int32))), (0, .ref (base + 121))]) (aX12_chosen 16 rfl) (by decide) rfl ?_
            refine xw_goto (tgt := 7) (aX12_chosen 17 rfl) (by decide) ?_
            refine hw_aloadn (aX12_chosen 5 rfl) rfl ?_
            refine hw_get (v := .int (x127)) (aX12_chosen 6 rfl) wf_RX12_475 (c121 hS) (s121 hS) (by decide) (congrArg Value.int (show FI102 121 69 = x127 from h128)) ?_
            refine hw_ifne (tgt := 58) (aX12_chosen 7 rfl) (by decide) rfl (fun cd132 => ?_) (fun cd132 => ?_)
            · refine xw_vret (aX12_chosen 30 rfl) rfl ?_
              exact ⟨rfl, FI102, rfl, hI103, (gf_tr ex_rf fr25 f104 rfl rfl rfl), (by have := congrArg Int32.toInt (show FI102 121 67 = x4 from (gf_at f104 (c121 hS) (s121 hS) rfl (kp27))); have := congrArg Int32.toInt (show FI102 121 68 = x118 from h119); omega), (by have := congrArg Int32.toInt (show FI102 121 68 = x118 from h119); omega), (by have := congrArg Int32.toInt (show FI102 121 68 = x118 from h119); have := congrArg Int32.toInt (show FI102 121 73 = x121 from h122); have := congrArg Int32.toInt (show FI102 121 90 = x124 from h125); omega), (by have := congrArg Int32.toInt (show FI102 121 73 = x121 from h122); omega), (by have := congrArg Int32.toInt (show FI102 121 71 = x129 from h130); omega), (by have := congrArg Int32.toInt (show FI102 121 69 = x127 from h128); exact fun h => absurd h (by omega)), (by have := congrArg Int32.toInt (show FI102 121 69 = x127 from h128); exact fun h => absurd h (by omega))⟩
            · exact hw_L (ih ((0 : Int32)) FI102 (gf_tr ex_rf fr25 f104 rfl rfl rfl) hI103 (show FI102 121 67 = x4 from (gf_at f104 (c121 hS) (s121 hS) rfl (kp27))) (show rl_e (FI102 149) (FI102 121 67) from rl116) (show rl_t (FI102 149) (FL 150) from rl117) (show rl_pm (FI102 121 90) (FI102 121 73) (FI102 166) (FI102 167) (FI102 168) from rl115) (by have := ((by decide : (0 : Int32).toInt = 0) : ((0 : Int32)).toInt = 0); omega) (by have := ((by decide : (0 : Int32).toInt = 0) : ((0 : Int32)).toInt = 0); have := congrArg Int32.toInt (show FI102 121 68 = x118 from h119); omega) (by have := ((by decide : (0 : Int32).toInt = 0) : ((0 : Int32)).toInt = 0); have := congrArg Int32.toInt (show FI102 121 67 = x4 from (gf_at f104 (c121 hS) (s121 hS) rfl (kp27))); have := congrArg Int32.toInt (show FI102 121 68 = x118 from h119); omega) (by have := ((by decide : (0 : Int32).toInt = 0) : ((0 : Int32)).toInt = 0); have := congrArg Int32.toInt (show FI102 121 68 = x118 from h119); omega) (by have := ((by decide : (0 : Int32).toInt = 0) : ((0 : Int32)).toInt = 0); have := congrArg Int32.toInt (show FI102 121 68 = x118 from h119); have := congrArg Int32.toInt (show FI102 121 73 = x121 from h122); have := congrArg Int32.toInt (show FI102 121 90 = x124 from h125); omega) (by have := ((by decide : (0 : Int32).toInt = 0) : ((0 : Int32)).toInt = 0); have := congrArg Int32.toInt (show FI102 121 73 = x121 from h122); omega) (by have := ((by decide : (0 : Int32).toInt = 0) : ((0 : Int32)).toInt = 0); have := congrArg Int32.toInt (show FI102 121 69 = x127 from h128); omega) (by have := ((by decide : (0 : Int32).toInt = 0) : ((0 : Int32)).toInt = 0); have := congrArg Int32.toInt (show FI102 121 71 = x129 from h130); omega) (by have := ((by decide : (0 : Int32).toInt = 0) : ((0 : Int32)).toInt = 0); omega) (show ch_inv (kf (FI 149)) (wf (FL 150)) (FI 121 68).toInt.toNat (FI 121 71).toInt ((FI102 121 68).toInt).toNat 0 (sk (FI102 166) ((FI102 121 90).toInt).toNat) (FI102 121 71).toInt from (by have := ((by decide : (0 : Int32).toInt = 0) : ((0 : Int32)).toInt = 0); have := congrArg Int32.toInt (show FI102 121 68 = x118 from h119); have := congrArg Int32.toInt (show FI102 121 71 = x129 from h130); have := congrArg Int32.toInt (show FI102 121 90 = x124 from h125); exact (by have hx := xi14_0; rw [show (y1).toInt = 1 by omega] at hx; have ho := (u113 (by omega)); rw [show FIv24 149 = FI 149 from rw40] at ho; have hop := u114 (by omega); exact (ch_opd hx ho (by rw [sk_len]; omega) hop).2 (by omega)))) (show FI102 149 = FI 149 from (gf_row f104 (c149 hS) (s149 hS) rfl (rw40))) (by have := ((by decide : (0 : Int32).toInt = 0) : ((0 : Int32)).toInt = 0); have := congrArg Int32.toInt (show FI102 121 68 = x118 from h119); omega)) ⟨rfl, rfl, trivial⟩
          · refine hw_ic (v := (1 : Int32)) (aX12_chosen 13 rfl) (by decide) ?_
            refine xw_goto (tgt := 30) (aX12_chosen 14 rfl) (by decide) ?_
            refine xw_istoren (L2 := [(1, .int ((1 : Int32))), (0, .ref (base + 121))]) (aX12_chosen 16 rfl) (by decide) rfl ?_
            refine xw_goto (tgt := 7) (aX12_chosen 17 rfl) (by decide) ?_
            refine hw_aloadn (aX12_chosen 5 rfl) rfl ?_
            refine hw_get (v := .int (x127)) (aX12_chosen 6 rfl) wf_RX12_475 (c121 hS) (s121 hS) (by decide) (congrArg Value.int (show FI102 121 69 = x127 from h128)) ?_
            refine hw_ifne (tgt := 58) (aX12_chosen 7 rfl) (by decide) rfl (fun cd133 => ?_) (fun cd133 => ?_)
            · refine xw_vret (aX12_chosen 30 rfl) rfl ?_
              exact ⟨rfl, FI102, rfl, hI103, (gf_tr ex_rf fr25 f104 rfl rfl rfl), (by have := congrArg Int32.toInt (show FI102 121 67 = x4 from (gf_at f104 (c121 hS) (s121 hS) rfl (kp27))); have := congrArg Int32.toInt (show FI102 121 68 = x118 from h119); omega), (by have := congrArg Int32.toInt (show FI102 121 68 = x118 from h119); omega), (by have := congrArg Int32.toInt (show FI102 121 68 = x118 from h119); have := congrArg Int32.toInt (show FI102 121 73 = x121 from h122); have := congrArg Int32.toInt (show FI102 121 90 = x124 from h125); omega), (by have := congrArg Int32.toInt (show FI102 121 73 = x121 from h122); omega), (by have := congrArg Int32.toInt (show FI102 121 71 = x129 from h130); omega), (by have := congrArg Int32.toInt (show FI102 121 69 = x127 from h128); exact fun h => absurd h (by omega)), (by have := congrArg Int32.toInt (show FI102 121 69 = x127 from h128); exact fun h => absurd h (by omega))⟩
            · exact hw_L (ih ((1 : Int32)) FI102 (gf_tr ex_rf fr25 f104 rfl rfl rfl) hI103 (show FI102 121 67 = x4 from (gf_at f104 (c121 hS) (s121 hS) rfl (kp27))) (show rl_e (FI102 149) (FI102 121 67) from rl116) (show rl_t (FI102 149) (FL 150) from rl117) (show rl_pm (FI102 121 90) (FI102 121 73) (FI102 166) (FI102 167) (FI102 168) from rl115) (by have := ((by decide : (1 : Int32).toInt = 1) : ((1 : Int32)).toInt = 1); omega) (by have := ((by decide : (1 : Int32).toInt = 1) : ((1 : Int32)).toInt = 1); have := congrArg Int32.toInt (show FI102 121 68 = x118 from h119); omega) (by have := ((by decide : (1 : Int32).toInt = 1) : ((1 : Int32)).toInt = 1); have := congrArg Int32.toInt (show FI102 121 67 = x4 from (gf_at f104 (c121 hS) (s121 hS) rfl (kp27))); have := congrArg Int32.toInt (show FI102 121 68 = x118 from h119); omega) (by have := ((by decide : (1 : Int32).toInt = 1) : ((1 : Int32)).toInt = 1); have := congrArg Int32.toInt (show FI102 121 68 = x118 from h119); omega) (by have := ((by decide : (1 : Int32).toInt = 1) : ((1 : Int32)).toInt = 1); have := congrArg Int32.toInt (show FI102 121 68 = x118 from h119); have := congrArg Int32.toInt (show FI102 121 73 = x121 from h122); have := congrArg Int32.toInt (show FI102 121 90 = x124 from h125); omega) (by have := ((by decide : (1 : Int32).toInt = 1) : ((1 : Int32)).toInt = 1); have := congrArg Int32.toInt (show FI102 121 73 = x121 from h122); omega) (by have := ((by decide : (1 : Int32).toInt = 1) : ((1 : Int32)).toInt = 1); have := congrArg Int32.toInt (show FI102 121 69 = x127 from h128); omega) (by have := ((by decide : (1 : Int32).toInt = 1) : ((1 : Int32)).toInt = 1); have := congrArg Int32.toInt (show FI102 121 71 = x129 from h130); omega) (by have := ((by decide : (1 : Int32).toInt = 1) : ((1 : Int32)).toInt = 1); omega) (show ch_inv (kf (FI 149)) (wf (FL 150)) (FI 121 68).toInt.toNat (FI 121 71).toInt ((FI102 121 68).toInt).toNat 1 (sk (FI102 166) ((FI102 121 90).toInt).toNat) (FI102 121 71).toInt from (by have := ((by decide : (1 : Int32).toInt = 1) : ((1 : Int32)).toInt = 1); have := congrArg Int32.toInt (show FI102 121 68 = x118 from h119); have := congrArg Int32.toInt (show FI102 121 71 = x129 from h130); have := congrArg Int32.toInt (show FI102 121 90 = x124 from h125); exact (by have hx := xi14_0; rw [show (y1).toInt = 1 by omega] at hx; have ho := (u113 (by omega)); rw [show FIv24 149 = FI 149 from rw40] at ho; have hop := u114 (by omega); exact (ch_opd hx ho (by rw [sk_len]; omega) hop).1 (by omega)))) (show FI102 149 = FI 149 from (gf_row f104 (c149 hS) (s149 hS) rfl (rw40))) (by have := ((by decide : (1 : Int32).toInt = 1) : ((1 : Int32)).toInt = 1); have := congrArg Int32.toInt (show FI102 121 68 = x118 from h119); omega)) ⟨rfl, rfl, trivial⟩
    exact hw_L (lp41 ((1001 - (x1).toInt : Int).toNat + 1) ((1 : Int32)) FI17 (gf_f gf_rf u18 (by decide)) hI21 (show FI17 121 67 = x4 from (up_k u18 (by decide) (h5))) (show rl_e (FI17 149) (FI17 121 67) from rl19) (show rl_t (FI17 149) (FL 150) from rl20) (show rl_pm (FI17 121 90) (FI17 121 73) (FI17 166) (FI17 167) (FI17 168) from rl22) (by have := ((by decide : (1 : Int32).toInt = 1) : ((1 : Int32)).toInt = 1); omega) (by have := ((by decide : (1 : Int32).toInt = 1) : ((1 : Int32)).toInt = 1); have := congrArg Int32.toInt (show FI17 121 68 = x1 from (up_k u18 (by decide) (h2))); omega) (by have := ((by decide : (1 : Int32).toInt = 1) : ((1 : Int32)).toInt = 1); have := congrArg Int32.toInt (show FI17 121 67 = x4 from (up_k u18 (by decide) (h5))); have := congrArg Int32.toInt (show FI17 121 68 = x1 from (up_k u18 (by decide) (h2))); omega) (by have := ((by decide : (1 : Int32).toInt = 1) : ((1 : Int32)).toInt = 1); have := congrArg Int32.toInt (show FI17 121 68 = x1 from (up_k u18 (by decide) (h2))); omega) (by have := ((by decide : (1 : Int32).toInt = 1) : ((1 : Int32)).toInt = 1); have := congrArg Int32.toInt (show FI17 121 68 = x1 from (up_k u18 (by decide) (h2))); have := congrArg Int32.toInt (show FI17 121 73 = x7 from (up_k u18 (by decide) (h8))); have := congrArg Int32.toInt (show FI17 121 90 = (0 : Int32) from up_eq u18); have := ((by decide : (0 : Int32).toInt = 0) : ((0 : Int32)).toInt = 0); omega) (by have := ((by decide : (1 : Int32).toInt = 1) : ((1 : Int32)).toInt = 1); have := congrArg Int32.toInt (show FI17 121 73 = x7 from (up_k u18 (by decide) (h8))); omega) (by have := ((by decide : (1 : Int32).toInt = 1) : ((1 : Int32)).toInt = 1); have := congrArg Int32.toInt (show FI17 121 69 = x10 from (up_k u18 (by decide) (h11))); omega) (by have := ((by decide : (1 : Int32).toInt = 1) : ((1 : Int32)).toInt = 1); have := congrArg Int32.toInt (show FI17 121 71 = x12 from (up_k u18 (by decide) (h13))); omega) (by have := ((by decide : (1 : Int32).toInt = 1) : ((1 : Int32)).toInt = 1); omega) (show ch_inv (kf (FI 149)) (wf (FL 150)) (FI 121 68).toInt.toNat (FI 121 71).toInt ((FI17 121 68).toInt).toNat 1 (sk (FI17 166) ((FI17 121 90).toInt).toNat) (FI17 121 71).toInt from (by have := ((by decide : (1 : Int32).toInt = 1) : ((1 : Int32)).toInt = 1); have := congrArg Int32.toInt (show FI17 121 68 = x1 from (up_k u18 (by decide) (h2))); have := congrArg Int32.toInt (show FI17 121 71 = x12 from (up_k u18 (by decide) (h13))); have := congrArg Int32.toInt (show FI17 121 90 = (0 : Int32) from up_eq u18); have := ((by decide : (0 : Int32).toInt = 0) : ((0 : Int32)).toInt = 0); exact (by rw [show (FI17 121 90).toInt.toNat = 0 by omega, show (FI17 121 68).toInt.toNat = (FI 121 68).toInt.toNat by omega, show (FI17 121 71).toInt = (FI 121 71).toInt by omega]; exact ch_0))) (show FI17 149 = FI 149 from (up_row u18 (by decide) (rfl))) (by have := ((by decide : (1 : Int32).toInt = 1) : ((1 : Int32)).toInt = 1); have := congrArg Int32.toInt (show FI17 121 68 = x1 from (up_k u18 (by decide) (h2))); omega)) ⟨rfl, rfl, trivial⟩
