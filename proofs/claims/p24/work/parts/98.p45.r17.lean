section
set_option maxHeartbeats 4000000 in
set_option maxRecDepth 100000 in
theorem n_emit0 {zk : xK} {base d n sl : Nat} {SH : Nat → Nat × Nat} {FI : Nat → Nat → Int32} {FL : Nat → Nat → Int64} {FR : Nat → Nat → Option Nat} (hS : h_S n SH) (hF : h_FR FR) (hI : g_I FI) (a1 : Int32) (g0 : (FI 121 73).toInt ≤ 29999) : hw zk base d none 219 0 [(0, .ref (base + 121)), (1, .int (a1))] [] (n, sl, SH, FI, FL, FR) (h_V (fun s => ∃ FI', s = (n, sl, SH, FI', FL, FR) ∧ g_I FI' ∧ g_fr n SH [(121, 73)] [154] [] FI FI' ∧ ((FI' 121 73).toInt = (FI 121 73).toInt + 1))) := by
  have rg_a1 := i_rng a1
  obtain ⟨x1, h2⟩ : ∃ y, FI 121 73 = y := ⟨_, rfl⟩
  have h2l := congrArg Int32.toInt h2
  have b3 := gI_121_73 hI; rw [h2] at b3
  refine hw_aloadn (aX12_emit 0 rfl) rfl ?_
  refine hw_get (v := .int (x1)) (aX12_emit 1 rfl) wf_RX12_493 (c121 hS) (s121 hS) (by decide) (congrArg Value.int (show FI 121 73 = x1 from h2)) ?_
  refine hw_sp (v := (4000 : Int32)) (aX12_emit 2 rfl) (by decide) ?_
  refine hw_icge (tgt := 24) (aX12_emit 3 rfl) (by decide) rfl (by decide : (4000 : Int32).toInt = 4000) (fun cd4 => ?_) (fun cd4 => ?_)
  · refine hw_aloadn (aX12_emit 12 rfl) rfl ?_
    refine hw_aloadn (aX12_emit 13 rfl) rfl ?_
    refine hw_get (v := .int (x1)) (aX12_emit 14 rfl) wf_RX12_493 (c121 hS) (s121 hS) (by decide) (congrArg Value.int (show FI 121 73 = x1 from h2)) ?_
    refine hw_ic (v := (1 : Int32)) (aX12_emit 15 rfl) (by decide) ?_
    refine xw_iadd (aX12_emit 16 rfl) ?_
    refine hw_tie (A := ((x1).toInt) + (1)) (i_add rfl (by decide : (1 : Int32).toInt = 1) (by omega) (by omega)) (fun x5 e6 => ?_)
    refine hv_puti (aX12_emit 17 rfl) wf_RX12_493 (c121 hS) (s121 hS) (by decide) rfl rfl (fun FI7 u8 => ?_)
    have hI9 : g_I FI7 := gU_121_73 hI u8 (by have := (e6 : (x5).toInt = ((x1).toInt) + (1)); omega) (by have := (e6 : (x5).toInt = ((x1).toInt) + (1)); omega)
    refine xw_vret (aX12_emit 18 rfl) rfl ?_
    exact ⟨rfl, FI7, rfl, hI9, (gf_f gf_rf u8 (by decide)), (by have := congrArg Int32.toInt (show FI7 121 73 = x5 from up_eq u8); have := (e6 : (x5).toInt = ((x1).toInt) + (1)); omega)⟩
  · refine hw_aloadn (aX12_emit 4 rfl) rfl ?_
    refine hw_get (v := .ref (base + 154)) (aX12_emit 5 rfl) wf_RX12_120 (c121 hS) (s121 hS) (by decide) (congrArg (fun r => va_rf (h_rf base r)) (r121_72 hF)) ?_
    refine hw_aloadn (aX12_emit 6 rfl) rfl ?_
    refine hw_get (v := .int (x1)) (aX12_emit 7 rfl) wf_RX12_493 (c121 hS) (s121 hS) (by decide) (congrArg Value.int (show FI 121 73 = x1 from h2)) ?_
    refine xw_iloadn (aX12_emit 8 rfl) rfl ?_
    refine hw_sp (v := (255 : Int32)) (aX12_emit 9 rfl) (by decide) ?_
    refine xw_iand (aX12_emit 10 rfl) ?_
    refine hw_tib (lo := 0) (hi := 255) (i_and (x := a1) (m := (255 : Int32)) (M := 255) (by decide) (by decide)) (fun x10 b11 => ?_)
    refine hv_iast (k := (x1).toNatClampNeg) (aX12_emit 11 rfl) (c154 hS) (s154 hS) (h_in rfl (by omega) (by omega)) rfl (fun FI12 u13 => ?_)
    have hI14 : g_I FI12 := gU_154 hI u13 (by omega) (by omega)
    refine hw_aloadn (aX12_emit 12 rfl) rfl ?_
    refine hw_aloadn (aX12_emit 13 rfl) rfl ?_
    refine hw_get (v := .int (x1)) (aX12_emit 14 rfl) wf_RX12_493 (c121 hS) (s121 hS) (by decide) (congrArg Value.int (show FI12 121 73 = x1 from (up_c u13 (by decide) (h2)))) ?_
    refine hw_ic (v := (1 : Int32)) (aX12_emit 15 rfl) (by decide) ?_
    refine xw_iadd (aX12_emit 16 rfl) ?_
    refine hw_tie (A := ((x1).toInt) + (1)) (i_add rfl (by decide : (1 : Int32).toInt = 1) (by omega) (by omega)) (fun x15 e16 => ?_)
    refine hv_puti (aX12_emit 17 rfl) wf_RX12_493 (c121 hS) (s121 hS) (by decide) rfl rfl (fun FI17 u18 => ?_)
    have hI19 : g_I FI17 := gU_121_73 hI14 u18 (by have := (e16 : (x15).toInt = ((x1).toInt) + (1)); omega) (by have := (e16 : (x15).toInt = ((x1).toInt) + (1)); omega)
    refine xw_vret (aX12_emit 18 rfl) rfl ?_
    exact ⟨rfl, FI17, rfl, hI19, (gf_f (gf_a gf_rf u13 (by decide)) u18 (by decide)), (by have := congrArg Int32.toInt (show FI17 121 73 = x15 from up_eq u18); have := (e16 : (x15).toInt = ((x1).toInt) + (1)); omega)⟩
set_option maxHeartbeats 4000000 in
set_option maxRecDepth 100000 in
theorem n_emits0 {zk : xK} {base d n sl : Nat} {SH : Nat → Nat × Nat} {FI : Nat → Nat → Int32} {FL : Nat → Nat → Int64} {FR : Nat → Nat → Option Nat} (hS : h_S n SH) (hF : h_FR FR) (hI : g_I FI) (a1 : Int64) (a2 : Int32) (g0 : (FI 121 73).toInt ≤ 29900) (g1 : 0 ≤ (a2).toInt ∧ (a2).toInt ≤ 8) : hw zk base (d + 1) none 220 0 [(0, .ref (base + 121)), (1, .long (a1)), (3, .int (a2))] [] (n, sl, SH, FI, FL, FR) (h_V (fun s => ∃ FI', s = (n, sl, SH, FI', FL, FR) ∧ g_I FI' ∧ g_fr n SH [(121, 73)] [154] [] FI FI' ∧ ((FI' 121 73).toInt = (FI 121 73).toInt + (a2).toInt))) := by
  have rg_a1 := l_rng a1
  have rg_a2 := i_rng a2
  obtain ⟨x1, h2⟩ : ∃ y, FI 121 73 = y := ⟨_, rfl⟩
  have h2l := congrArg Int32.toInt h2
  have b3 := gI_121_73 hI; rw [h2] at b3
  refine hw_ic (v := (0 : Int32)) (aX12_emits 0 rfl) (by decide) ?_
  refine xw_istore (L2 := [(4, .int ((0 : Int32))), (0, .ref (base + 121)), (1, .long (a1)), (3, .int (a2))]) (aX12_emits 1 rfl) (by decide) rfl ?_
  have lp10 : ∀ (m : Nat) (y4 : Int32) (FIv4 : Nat → Nat → Int32), (g_fr n SH [(121, 73)] [154] [] FI FIv4) → (g_I FIv4) → (0 ≤ (y4).toInt ∧ (y4).toInt ≤ 8) → ((y4).toInt ≤ (a2).toInt) → ((FIv4 121 73).toInt = (FI 121 73).toInt + (y4).toInt) → (a2).toInt - (y4).toInt < m → hw zk base (d + 1) none 220 3 [(4, .int (y4)), (0, .ref (base + 121)), (1, .long (a1)), (3, .int (a2))] [] (n, sl, SH, FIv4, FL, FR) (h_V (fun s => ∃ FI', s = (n, sl, SH, FI', FL, FR) ∧ g_I FI' ∧ g_fr n SH [(121, 73)] [154] [] FI FI' ∧ ((FI' 121 73).toInt = (FI 121 73).toInt + (a2).toInt))) := by
    intro m
    induction m with
    | zero => intro y4 FIv4 fr5 hI6 iv7 iv8 iv9 hm; omega
    | succ m ih =>
      intro y4 FIv4 fr5 hI6 iv7 iv8 iv9 hm
      have rg_y4 := i_rng y4
      obtain ⟨x11, h12⟩ : ∃ y, FIv4 121 73 = y := ⟨_, rfl⟩
      have h12l := congrArg Int32.toInt h12
      have b13 := gI_121_73 hI6; rw [h12] at b13
      refine xw_iload (aX12_emits 2 rfl) rfl ?_
      refine xw_iloadn (aX12_emits 3 rfl) rfl ?_
      refine hw_icge (tgt := 27) (aX12_emits 4 rfl) (by decide) rfl rfl (fun cd14 => ?_) (fun cd14 => ?_)
      · refine xw_vret (aX12_emits 15 rfl) rfl ?_
        exact ⟨rfl, FIv4, rfl, hI6, fr5, (by have := congrArg Int32.toInt (show FIv4 121 73 = x11 from h12); omega)⟩
      · refine hw_aloadn (aX12_emits 5 rfl) rfl ?_
        refine xw_lloadn (aX12_emits 6 rfl) rfl ?_
        refine hw_bp (v := (8 : Int32)) (aX12_emits 7 rfl) (by decide) ?_
        refine xw_iload (aX12_emits 8 rfl) rfl ?_
        refine xw_imul (aX12_emits 9 rfl) ?_
        refine hw_tie (A := (8) * ((y4).toInt)) (i_mul (by decide : (8 : Int32).toInt = 8) rfl (by omega) (by omega)) (fun x15 e16 => ?_)
        refine xw_lshr (aX12_emits 10 rfl) ?_
        refine hw_tl (fun x17 => ?_)
        have b18 := l_rng x17
        refine xw_l2i (aX12_emits 11 rfl) ?_
        refine hw_ti (fun x19 => ?_)
        have b20 := i_rng x19
        refine hw_callV (Bs := [.int (x19)]) (rest := []) (aX12_emits 12 rfl) wc_RX12_496 (by decide) rfl wi_yX12_emit wv_yX12_emit (c121 hS) (s121 hS) rfl rfl rfl (Nat.le_of_ble_eq_true rfl) (Nat.le_of_ble_eq_true rfl) (n_emit0 (d := d) hS hF hI6 (x19) (by have := congrArg Int32.toInt (show FIv4 121 73 = x11 from h12); omega)) (fun v21 sv22 p23 => ?_)
        have := congrArg Int32.toInt (show FIv4 121 73 = x11 from h12)
        obtain ⟨rfl, FI25, rfl, hI26, f27, t28⟩ := p23
        obtain ⟨x29, h30⟩ : ∃ y, FI25 121 73 = y := ⟨_, rfl⟩
        have h30l := congrArg Int32.toInt h30
        have b31 := gI_121_73 hI26; rw [h30] at b31
        show hw zk base _ _ _ _ _ [] _ _
        obtain ⟨x32, q34⟩ : ∃ y : Int32, (y4) + Int32.ofInt (1) = y := ⟨_, rfl⟩
        have e33 : (x32).toInt = (y4).toInt + (1) := by rw [← q34]; exact i_add rfl (by decide) (by omega) (by omega)
        refine xw_iinc (L2 := [(4, .int (x32)), (0, .ref (base + 121)), (1, .long (a1)), (3, .int (a2))]) (aX12_emits 13 rfl) rfl (by decide) (by rw [q34]; rfl) ?_
        refine xw_goto (tgt := 3) (aX12_emits 14 rfl) (by decide) ?_
        exact hw_L (ih (x32) FI25 (gf_tr ex_rf fr5 f27 rfl rfl rfl) hI26 (by have := (e33 : (x32).toInt = (y4).toInt + (1)); omega) (by have := (e33 : (x32).toInt = (y4).toInt + (1)); omega) (by have := (e33 : (x32).toInt = (y4).toInt + (1)); have := congrArg Int32.toInt (show FI25 121 73 = x29 from h30); omega) (by have := (e33 : (x32).toInt = (y4).toInt + (1)); omega)) ⟨rfl, rfl, rfl, rfl, trivial⟩
  exact hw_L (lp10 (((a2).toInt - 0 : Int).toNat + 1) ((0 : Int32)) FI gf_rf hI (by have := ((by decide : (0 : Int32).toInt = 0) : ((0 : Int32)).toInt = 0); omega) (by have := ((by decide : (0 : Int32).toInt = 0) : ((0 : Int32)).toInt = 0); omega) (by have := ((by decide : (0 : Int32).toInt = 0) : ((0 : Int32)).toInt = 0); have := congrArg Int32.toInt (show FI 121 73 = x1 from h2); omega) (by have := ((by decide : (0 : Int32).toInt = 0) : ((0 : Int32)).toInt = 0); omega)) ⟨rfl, rfl, rfl, rfl, trivial⟩
set_option maxHeartbeats 4000000 in
set_option maxRecDepth 100000 in
theorem n_unsigned0 {zk : xK} {base d n sl : Nat} {SH : Nat → Nat × Nat} {FI : Nat → Nat → Int32} {FL : Nat → Nat → Int64} {FR : Nat → Nat → Option Nat} (hS : h_S n SH) (hF : h_FR FR) (hI : g_I FI) (a1 : Int64) (g0 : (FI 121 73).toInt ≤ 29000) (g1 : 0 ≤ (a1).toInt ∧ (a1).toInt ≤ 9223372036854775807) : hw zk base (d + 1) none 221 0 [(0, .ref (base + 121)), (1, .long (a1))] [] (n, sl, SH, FI, FL, FR) (h_V (fun s => ∃ FI', s = (n, sl, SH, FI', FL, FR) ∧ g_I FI' ∧ g_fr n SH [(121, 73)] [154] [] FI FI' ∧ ((FI 121 73).toInt < (FI' 121 73).toInt) ∧ ((FI' 121 73).toInt ≤ (FI 121 73).toInt + 10) ∧ ((a1).toInt ≤ 65535 → (FI' 121 73).toInt ≤ (FI 121 73).toInt + 3))) := by
  have rg_a1 := l_rng a1
  obtain ⟨x1, h2⟩ : ∃ y, FI 121 73 = y := ⟨_, rfl⟩
  have h2l := congrArg Int32.toInt h2
  have b3 := gI_121_73 hI; rw [h2] at b3
  refine xw_lloadn (aX12_unsigned 0 rfl) rfl ?_
  refine xw_lstoren (L2 := [(3, .long (a1)), (0, .ref (base + 121)), (1, .long (a1))]) (aX12_unsigned 1 rfl) (by decide) rfl ?_
  have lp11 : ∀ (m : Nat) (y3 : Int64) (FIv4 : Nat → Nat → Int32), (g_fr n SH [(121, 73)] [154] [] FI FIv4) → (g_I FIv4) → (0 ≤ (y3).toInt ∧ (y3).toInt ≤ 9223372036854775807) → ((FI 121 73).toInt ≤ (FIv4 121 73).toInt) → ((FIv4 121 73).toInt ≤ (FI 121 73).toInt + 9) → ((a1).toInt ≤ 65535 → (((FIv4 121 73).toInt = (FI 121 73).toInt ∧ (y3).toInt ≤ 65535) ∨ ((FIv4 121 73).toInt = (FI 121 73).toInt + 1 ∧ (y3).toInt ≤ 511) ∨ ((FIv4 121 73).toInt = (FI 121 73).toInt + 2 ∧ (y3).toInt ≤ 3))) → ((y3).toInt < p7 ((FIv4 121 73).toInt - (FI 121 73).toInt)) → (y3).toInt < m → hw zk base (d + 1) none 221 2 [(3, .long (y3)), (0, .ref (base + 121))] [] (n, sl, SH, FIv4, FL, FR) (h_V (fun s => ∃ FI', s = (n, sl, SH, FI', FL, FR) ∧ g_I FI' ∧ g_fr n SH [(121, 73)] [154] [] FI FI' ∧ ((FI 121 73).toInt < (FI' 121 73).toInt) ∧ ((FI' 121 73).toInt ≤ (FI 121 73).toInt + 10) ∧ ((a1).toInt ≤ 65535 → (FI' 121 73).toInt ≤ (FI 121 73).toInt + 3))) := by
    intro m
    induction m with
    | zero => intro y3 FIv4 fr5 hI6 iv7 iv8 iv9 iv10 xi2_0 hm; omega
    | succ m ih =>
      intro y3 FIv4 fr5 hI6 iv7 iv8 iv9 iv10 xi2_0 hm
      have rg_y3 := l_rng y3
      obtain ⟨x12, h13⟩ : ∃ y, FIv4 121 73 = y := ⟨_, rfl⟩
      have h13l := congrArg Int32.toInt h13
      have b14 := gI_121_73 hI6; rw [h13] at b14
      refine xw_lloadn (aX12_unsigned 2 rfl) rfl ?_
      refine xw_ldc2 (aX12_unsigned 3 rfl) wk_RX12_499 ?_
      refine hw_lcle (tgt := 32) (aX12_unsigned 4 rfl) (aX12_unsigned 5 rfl) (by decide) rfl (by decide : (127 : Int64).toInt = 127) (fun cd15 => ?_) (fun cd15 => ?_)
      · refine hw_aloadn (aX12_unsigned 19 rfl) rfl ?_
        refine xw_lloadn (aX12_unsigned 20 rfl) rfl ?_
        refine xw_l2i (aX12_unsigned 21 rfl) ?_
        refine hw_tie (A := (y3).toInt) (l_2i rfl (by omega) (by omega)) (fun x16 e17 => ?_)
        refine hw_callV (Bs := [.int (x16)]) (rest := []) (aX12_unsigned 22 rfl) wc_RX12_496 (by decide) rfl wi_yX12_emit wv_yX12_emit (c121 hS) (s121 hS) rfl rfl rfl (Nat.le_of_ble_eq_true rfl) (Nat.le_of_ble_eq_true rfl) (n_emit0 (d := d) hS hF hI6 (x16) (by have := congrArg Int32.toInt (show FIv4 121 73 = x12 from h13); omega)) (fun v18 sv19 p20 => ?_)
        have := congrArg Int32.toInt (show FIv4 121 73 = x12 from h13)
        obtain ⟨rfl, FI22, rfl, hI23, f24, t25⟩ := p20
        obtain ⟨x26, h27⟩ : ∃ y, FI22 121 73 = y := ⟨_, rfl⟩
        have h27l := congrArg Int32.toInt h27
        have b28 := gI_121_73 hI23; rw [h27] at b28
        show hw zk base _ _ _ _ _ [] _ _
        refine xw_vret (aX12_unsigned 23 rfl) rfl ?_
        exact ⟨rfl, FI22, rfl, hI23, (gf_tr ex_rf fr5 f24 rfl rfl rfl), (by have := congrArg Int32.toInt (show FI22 121 73 = x26 from h27); omega), (by have := congrArg Int32.toInt (show FI22 121 73 = x26 from h27); omega), (by have := congrArg Int32.toInt (show FI22 121 73 = x26 from h27); omega)⟩
      · have h9 : (((FIv4 121 73).toInt - (FI 121 73).toInt) : Int) < 9 := by rcases Int.lt_or_le ((FIv4 121 73).toInt - (FI 121 73).toInt) 9 with h | h; { exact h }; { have := p7_9 xi2_0 (by omega); omega }
        refine hw_aloadn (aX12_unsigned 6 rfl) rfl ?_
        refine xw_lloadn (aX12_unsigned 7 rfl) rfl ?_
        refine xw_ldc2 (aX12_unsigned 8 rfl) wk_RX12_499 ?_
        refine xw_land (aX12_unsigned 9 rfl) ?_
        refine hw_tlb (lo := 0) (hi := 127) (l_and (x := y3) (m := (127 : Int64)) (M := 127) (by decide) (by decide)) (fun x29 b30 => ?_)
        refine xw_l2i (aX12_unsigned 10 rfl) ?_
        refine hw_tie (A := (x29).toInt) (l_2i rfl (by omega) (by omega)) (fun x31 e32 => ?_)
        refine hw_sp (v := (128 : Int32)) (aX12_unsigned 11 rfl) (by decide) ?_
        refine xw_ior (aX12_unsigned 12 rfl) ?_
        refine hw_ti (fun x33 => ?_)
        have b34 := i_rng x33
        refine hw_callV (Bs := [.int (x33)]) (rest := []) (aX12_unsigned 13 rfl) wc_RX12_496 (by decide) rfl wi_yX12_emit wv_yX12_emit (c121 hS) (s121 hS) rfl rfl rfl (Nat.le_of_ble_eq_true rfl) (Nat.le_of_ble_eq_true rfl) (n_emit0 (d := d) hS hF hI6 (x33) (by have := congrArg Int32.toInt (show FIv4 121 73 = x12 from h13); omega)) (fun v35 sv36 p37 => ?_)
        have := congrArg Int32.toInt (show FIv4 121 73 = x12 from h13)
        obtain ⟨rfl, FI39, rfl, hI40, f41, t42⟩ := p37
        obtain ⟨x43, h44⟩ : ∃ y, FI39 121 73 = y := ⟨_, rfl⟩
        have h44l := congrArg Int32.toInt h44
        have b45 := gI_121_73 hI40; rw [h44] at b45
        show hw zk base _ _ _ _ _ [] _ _
        refine xw_lloadn (aX12_unsigned 14 rfl) rfl ?_
        refine hw_bp (v := (7 : Int32)) (aX12_unsigned 15 rfl) (by decide) ?_
        refine xw_lshr (aX12_unsigned 16 rfl) ?_
        refine hw_tle (A := ((y3).toInt) / (128)) (l_shr7 rfl) (fun x46 e47 => ?_)
        refine xw_lstoren (L2 := [(3, .long (x46)), (0, .ref (base + 121))]) (aX12_unsigned 17 rfl) (by decide) rfl ?_
        refine xw_goto (tgt := 2) (aX12_unsigned 18 rfl) (by decide) ?_
        exact hw_L (ih (x46) FI39 (gf_tr ex_rf fr5 f41 rfl rfl rfl) hI40 (by have := (e47 : (x46).toInt = ((y3).toInt) / (128)); omega) (by have := (e47 : (x46).toInt = ((y3).toInt) / (128)); have := congrArg Int32.toInt (show FI39 121 73 = x43 from h44); omega) (by have := (e47 : (x46).toInt = ((y3).toInt) / (128)); have := congrArg Int32.toInt (show FI39 121 73 = x43 from h44); omega) (by have := (e47 : (x46).toInt = ((y3).toInt) / (128)); have := congrArg Int32.toInt (show FI39 121 73 = x43 from h44); omega) (show (x46).toInt < p7 ((FI39 121 73).toInt - (FI 121 73).toInt) from (by have := (e47 : (x46).toInt = ((y3).toInt) / (128)); have := congrArg Int32.toInt (show FI39 121 73 = x43 from h44); exact (by have e1 := e47; rw [show ((FI39 121 73).toInt - (FI 121 73).toInt) = ((FIv4 121 73).toInt - (FI 121 73).toInt) + 1 by omega, e1]; exact p7_s xi2_0 (by omega) (by omega)))) (by have := (e47 : (x46).toInt = ((y3).toInt) / (128)); omega)) ⟨rfl, rfl, trivial⟩
  exact hw_L (lp11 (((a1).toInt : Int).toNat + 1) (a1) FI gf_rf hI (by omega) (by have := congrArg Int32.toInt (show FI 121 73 = x1 from h2); omega) (by have := congrArg Int32.toInt (show FI 121 73 = x1 from h2); omega) (by have := congrArg Int32.toInt (show FI 121 73 = x1 from h2); omega) (show (a1).toInt < p7 ((FI 121 73).toInt - (FI 121 73).toInt) from (by have := congrArg Int32.toInt (show FI 121 73 = x1 from h2); exact (by rw [show ((FI 121 73).toInt - (FI 121 73).toInt) = (0 : Int) by omega]; exact p7_0 (by omega)))) (by omega)) ⟨rfl, rfl, trivial⟩
def nX12_chosen : Nat := 0xb1d0ffa73c030400a70407009a4102b42ab104009a3e02b62ae8ffa73c030400a70407009a3b02b62a1300991b2f009adb01b42a3c042c02b5032a
theorem bX12_chosen : cX12_chosen.data.toList.map UInt8.toNat = x_un nX12_chosen 59 := by decide +kernel
def iX12_chosen : List (Nat × Jvm.ClassFile.Instr × Nat) := [(0, .aload_n 0, 1), (1, .iconst 0, 1), (2, .putfield 556, 3), (5, .iconst 1, 1), (6, .istore_n 1, 1), (7, .aload_n 0, 1), (8, .getfield 475, 3), (11, .ifCond .ne 47, 3), (14, .iload_n 1, 1), (15, .ifCond .eq 19, 3), (18, .aload_n 0, 1), (19, .invokevirtual 571, 3), (22, .ifCond .ne 7, 3), (25, .iconst 1, 1), (26, .goto 4, 3), (29, .iconst 0, 1), (30, .istore_n 1, 1), (31, .goto (-24), 3), (34, .aload_n 0, 1), (35, .invokevirtual 574, 3), (38, .ifCond .ne 4, 3), (41, .return_, 1), (42, .aload_n 0, 1), (43, .getfield 577, 3), (46, .ifCond .ne 7, 3), (49, .iconst 1, 1), (50, .goto 4, 3), (53, .iconst 0, 1), (54, .istore_n 1, 1), (55, .goto (-48), 3), (58, .return_, 1)]
theorem dX12_chosen : x_il nX12_chosen 59 iX12_chosen = true := by decide +kernel
theorem aX12_chosen (k : Nat) {pc : Nat} {i : Jvm.ClassFile.Instr} {len : Nat} (hk : iX12_chosen[k]? = some (pc, i, len)) : x_at xMM 238 pc i len yX12_chosen 2 none := ⟨cX12_chosen, rfl, x_il_ok bX12_chosen dX12_chosen k hk⟩
set_option maxHeartbeats 4000000 in
set_option maxRecDepth 100000 in
theorem n_chosen {zk : xK} {base d n sl : Nat} {SH : Nat → Nat × Nat} {FI : Nat → Nat → Int32} {FL : Nat → Nat → Int64} {FR : Nat → Nat → Option Nat} (hS : h_S n SH) (hF : h_FR FR) (hI : g_I FI) (g0 : (FI 121 68).toInt ≤ (FI 121 67).toInt - 1) (g1 : (FI 121 73).toInt ≤ 20 * (FI 121 68).toInt + 200) (g2 : (FI 121 69).toInt = 0 → 0 ≤ (FI 121 71).toInt ∧ (FI 121 71).toInt ≤ 12) (g3 : -700 ≤ (FI 121 71).toInt ∧ (FI 121 71).toInt ≤ 100) (rel_tend : rl_e (FI 149) (FI 121 67)) (rel_tok : rl_t (FI 149) (FL 150)) (rel_wh : rl_w (FI 121 67) (FI 149) (FL 150) (FI 151)) : hw zk base (d + 6) none 238 0 [(0, .ref (base + 121))] [] (n, sl, SH, FI, FL, FR) (h_V (fun s => ∃ FI', s = (n, sl, SH, FI', FL, FR) ∧ g_I FI' ∧ g_fr n SH [(121, 68), (121, 69), (121, 70), (121, 71), (121, 73), (121, 90), (121, 91)] [154, 164, 165, 166, 167, 168] [] FI FI' ∧ ((FI' 121 68).toInt ≤ (FI' 121 67).toInt - 1) ∧ ((FI 121 68).toInt ≤ (FI' 121 68).toInt) ∧ ((FI' 121 73).toInt + 4 * (FI' 121 90).toInt ≤ (FI 121 73).toInt + 20 * ((FI' 121 68).toInt - (FI 121 68).toInt)) ∧ ((FI 121 73).toInt ≤ (FI' 121 73).toInt) ∧ (-700 ≤ (FI' 121 71).toInt ∧ (FI' 121 71).toInt ≤ 100) ∧ ((FI' 121 69).toInt = 0 → au_acc (kf (FI 149)) (wf (FL 150)) (FI 121 68).toInt.toNat (FI' 121 68).toInt.toNat) ∧ ((FI' 121 69).toInt = 0 → (FI' 121 71).toInt = (FI 121 71).toInt) ∧ ((FI' 121 69).toInt = 0 → (FI' 121 73).toInt - 4 * wp (FI 151) (FI' 121 68) ≤ (FI 121 73).toInt - 4 * wp (FI 151) (FI 121 68)))) := by
  obtain ⟨x1, h2⟩ : ∃ y, FI 121 68 = y := ⟨_, rfl⟩
  have h2l := congrArg Int32.toInt h2
  have b3 := gI_121_68 hI; rw [h2] at b3
  obtain ⟨x4, h5⟩ : ∃ y, FI 121 67 = y := ⟨_, rfl⟩
  have h5l := congrArg Int32.toInt h5
  have b6 := gI_121_67 hI; rw [h5] at b6
  obtain ⟨x7, h8⟩ : ∃ y, FI 121 73 = y := ⟨_, rfl⟩
  have h8l := congrArg Int32.toInt h8
  have b9 := gI_121_73 hI; rw [h8] at b9
  obtain ⟨x10, h11⟩ : ∃ y, FI 121 69 = y := ⟨_, rfl⟩
  have h11l := congrArg Int32.toInt h11
  have := i_rng x10
  obtain ⟨x12, h13⟩ : ∃ y, FI 121 71 = y := ⟨_, rfl⟩
  have h13l := congrArg Int32.toInt h13
  have := i_rng x12
  obtain ⟨x14, h15⟩ : ∃ y, FI 121 90 = y := ⟨_, rfl⟩
  have h15l := congrArg Int32.toInt h15
  have b16 := gI_121_90 hI; rw [h15] at b16
  refine hw_aloadn (aX12_chosen 0 rfl) rfl ?_
  refine hw_ic (v := (0 : Int32)) (aX12_chosen 1 rfl) (by decide) ?_
  refine hv_puti (aX12_chosen 2 rfl) wf_RX12_556 (c121 hS) (s121 hS) (by decide) rfl rfl (fun FI17 u18 => ?_)
  have rl19 : rl_e (FI17 149) (FI17 121 67) := by rw [show FI17 149 = FI 149 from up_row u18 (by decide) rfl, show FI17 121 67 = FI 121 67 from up_k u18 (by decide) rfl]; exact rel_tend
  have rl20 : rl_t (FI17 149) (FL 150) := by rw [show FI17 149 = FI 149 from up_row u18 (by decide) rfl]; exact rel_tok
  have rl21 : rl_w (FI17 121 67) (FI17 149) (FL 150) (FI17 151) := by rw [show FI17 149 = FI 149 from up_row u18 (by decide) rfl, show FI17 151 = FI 151 from up_row u18 (by decide) rfl, show FI17 121 67 = FI 121 67 from up_k u18 (by decide) rfl]; exact rel_wh
  have hI22 : g_I FI17 := gU_121_90 hI u18 (by have := ((by decide : (0 : Int32).toInt = 0) : ((0 : Int32)).toInt = 0); omega) (by have := ((by decide : (0 : Int32).toInt = 0) : ((0 : Int32)).toInt = 0); omega)
  have rl23 : rl_pm (FI17 121 90) (FI17 121 73) (FI17 166) (FI17 167) (FI17 168) := rl_pm_0 (by have := congrArg Int32.toInt (show FI17 121 90 = (0 : Int32) from up_eq u18); have := ((by decide : (0 : Int32).toInt = 0) : ((0 : Int32)).toInt = 0); omega)
  refine hw_ic (v := (1 : Int32)) (aX12_chosen 3 rfl) (by decide) ?_
  refine xw_istoren (L2 := [(1, .int ((1 : Int32))), (0, .ref (base + 121))]) (aX12_chosen 4 rfl) (by decide) rfl ?_
  refine hw_aloadn (aX12_chosen 5 rfl) rfl ?_
  refine hw_get (v := .int (x10)) (aX12_chosen 6 rfl) wf_RX12_475 (c121 hS) (s121 hS) (by decide) (congrArg Value.int (show FI17 121 69 = x10 from (up_k u18 (by decide) (h11)))) ?_
  refine hw_ifne (tgt := 58) (aX12_chosen 7 rfl) (by decide) rfl (fun cd24 => ?_) (fun cd24 => ?_)
  · refine xw_vret (aX12_chosen 30 rfl) rfl ?_
    exact ⟨rfl, FI17, rfl, hI22, (gf_f gf_rf u18 (by decide)), (by have := congrArg Int32.toInt (show FI17 121 67 = x4 from (up_k u18 (by decide) (h5))); have := congrArg Int32.toInt (show FI17 121 68 = x1 from (up_k u18 (by decide) (h2))); omega), (by have := congrArg Int32.toInt (show FI17 121 68 = x1 from (up_k u18 (by decide) (h2))); omega), (by have := congrArg Int32.toInt (show FI17 121 68 = x1 from (up_k u18 (by decide) (h2))); have := congrArg Int32.toInt (show FI17 121 73 = x7 from (up_k u18 (by decide) (h8))); have := congrArg Int32.toInt (show FI17 121 90 = (0 : Int32) from up_eq u18); have := ((by decide : (0 : Int32).toInt = 0) : ((0 : Int32)).toInt = 0); omega), (by have := congrArg Int32.toInt (show FI17 121 73 = x7 from (up_k u18 (by decide) (h8))); omega), (by have := congrArg Int32.toInt (show FI17 121 71 = x12 from (up_k u18 (by decide) (h13))); omega), (by have := congrArg Int32.toInt (show FI17 121 69 = x10 from (up_k u18 (by decide) (h11))); exact fun h => absurd h (by omega)), (by have := congrArg Int32.toInt (show FI17 121 69 = x10 from (up_k u18 (by decide) (h11))); exact fun h => absurd h (by omega)), (by have := congrArg Int32.toInt (show FI17 121 69 = x10 from (up_k u18 (by decide) (h11))); exact fun h => absurd h (by omega))⟩
  · have lp44 : ∀ (m : Nat) (y1 : Int32) (FIv25 : Nat → Nat → Int32), (g_fr n SH [(121, 68), (121, 69), (121, 70), (121, 71), (121, 73), (121, 90), (121, 91)] [154, 164, 165, 166, 167, 168] [] FI FIv25) → (g_I FIv25) → (FIv25 121 67 = x4) → (rl_e (FIv25 149) (FIv25 121 67)) → (rl_t (FIv25 149) (FL 150)) → (rl_w (FIv25 121 67) (FIv25 149) (FL 150) (FIv25 151)) → (rl_pm (FIv25 121 90) (FIv25 121 73) (FIv25 166) (FIv25 167) (FIv25 168)) → (0 ≤ (y1).toInt ∧ (y1).toInt ≤ 1) → (0 ≤ (FIv25 121 68).toInt ∧ (FIv25 121 68).toInt ≤ 1000) → ((FIv25 121 68).toInt ≤ (x4).toInt - 1) → ((FI 121 68).toInt ≤ (FIv25 121 68).toInt) → ((FIv25 121 73).toInt + 4 * (FIv25 121 90).toInt ≤ (FI 121 73).toInt + 20 * ((FIv25 121 68).toInt - (FI 121 68).toInt)) → ((FI 121 73).toInt ≤ (FIv25 121 73).toInt) → ((FIv25 121 69).toInt = 0) → ((FIv25 121 71).toInt ≤ 12) → (0 ≤ (FI 121 71).toInt) → (ch_inv (kf (FI 149)) (wf (FL 150)) (FI 121 68).toInt.toNat (FI 121 71).toInt ((FIv25 121 68).toInt).toNat (y1).toInt (sk (FIv25 166) ((FIv25 121 90).toInt).toNat) (FIv25 121 71).toInt) → ((FIv25 121 73).toInt + 4 * (FIv25 121 90).toInt - 3 * (au_q (sk (FIv25 166) ((FIv25 121 90).toInt).toNat) : Int) - 4 * wp (FI 151) (FIv25 121 68) ≤ (FI 121 73).toInt - 4 * wp (FI 151) (FI 121 68)) → (FIv25 149 = FI 149) → (FIv25 151 = FI 151) → 1001 - (FIv25 121 68).toInt < m → hw zk base (d + 6) none 238 14 [(1, .int (y1)), (0, .ref (base + 121))] [] (n, sl, SH, FIv25, FL, FR) (h_V (fun s => ∃ FI', s = (n, sl, SH, FI', FL, FR) ∧ g_I FI' ∧ g_fr n SH [(121, 68), (121, 69), (121, 70), (121, 71), (121, 73), (121, 90), (121, 91)] [154, 164, 165, 166, 167, 168] [] FI FI' ∧ ((FI' 121 68).toInt ≤ (FI' 121 67).toInt - 1) ∧ ((FI 121 68).toInt ≤ (FI' 121 68).toInt) ∧ ((FI' 121 73).toInt + 4 * (FI' 121 90).toInt ≤ (FI 121 73).toInt + 20 * ((FI' 121 68).toInt - (FI 121 68).toInt)) ∧ ((FI 121 73).toInt ≤ (FI' 121 73).toInt) ∧ (-700 ≤ (FI' 121 71).toInt ∧ (FI' 121 71).toInt ≤ 100) ∧ ((FI' 121 69).toInt = 0 → au_acc (kf (FI 149)) (wf (FL 150)) (FI 121 68).toInt.toNat (FI' 121 68).toInt.toNat) ∧ ((FI' 121 69).toInt = 0 → (FI' 121 71).toInt = (FI 121 71).toInt) ∧ ((FI' 121 69).toInt = 0 → (FI' 121 73).toInt - 4 * wp (FI 151) (FI' 121 68) ≤ (FI 121 73).toInt - 4 * wp (FI 151) (FI 121 68)))) := by
      intro m
      induction m with
      | zero => intro y1 FIv25 fr26 hI27 kp28 rl29 rl30 rl31 rl32 iv33 iv34 iv35 iv36 iv37 iv38 iv39 iv40 iv41 xi14_0 xi14_1 rw42 rw43 hm; omega
      | succ m ih =>
        intro y1 FIv25 fr26 hI27 kp28 rl29 rl30 rl31 rl32 iv33 iv34 iv35 iv36 iv37 iv38 iv39 iv40 iv41 xi14_0 xi14_1 rw42 rw43 hm
        have rg_y1 := i_rng y1
        have := congrArg Int32.toInt kp28
        obtain ⟨x45, h46⟩ : ∃ y, FIv25 121 68 = y := ⟨_, rfl⟩
        have h46l := congrArg Int32.toInt h46
        have b47 := gI_121_68 hI27; rw [h46] at b47
        obtain ⟨x48, h49⟩ : ∃ y, FIv25 121 73 = y := ⟨_, rfl⟩
        have h49l := congrArg Int32.toInt h49
        have b50 := gI_121_73 hI27; rw [h49] at b50
        obtain ⟨x51, h52⟩ : ∃ y, FIv25 121 90 = y := ⟨_, rfl⟩
        have h52l := congrArg Int32.toInt h52
        have b53 := gI_121_90 hI27; rw [h52] at b53
        obtain ⟨x54, h55⟩ : ∃ y, FIv25 121 69 = y := ⟨_, rfl⟩
        have h55l := congrArg Int32.toInt h55
        have := i_rng x54
        obtain ⟨x56, h57⟩ : ∃ y, FIv25 121 71 = y := ⟨_, rfl⟩
        have h57l := congrArg Int32.toInt h57
        have := i_rng x56
        refine xw_iloadn (aX12_chosen 8 rfl) rfl ?_
        have hk14 := ch_ok xi14_0
        rw [sk_len] at hk14
        have hw14 : (FIv25 121 90).toInt ≤ 103 ∧ 0 ≤ (FIv25 121 71).toInt := by have := hk14.2.2; have h2 := xi14_0.2.1; omega
        refine hw_ifeq (tgt := 34) (aX12_chosen 9 rfl) (by decide) rfl (fun cd58 => ?_) (fun cd58 => ?_)
        · refine hw_aloadn (aX12_chosen 18 rfl) rfl ?_
          refine hw_callV (Bs := []) (rest := []) (aX12_chosen 19 rfl) wc_RX12_574 (by decide) rfl wi_yX12_operator wv_yX12_operator (c121 hS) (s121 hS) rfl rfl rfl (Nat.le_of_ble_eq_true rfl) (Nat.le_of_ble_eq_true rfl) (n_operator (d := d) hS hF hI27 (by have := congrArg Int32.toInt (show FIv25 121 68 = x45 from h46); have := congrArg Int32.toInt (show FIv25 121 67 = x4 from kp28); omega) (by have := congrArg Int32.toInt (show FIv25 121 69 = x54 from h55); omega) (by have := congrArg Int32.toInt (show FIv25 121 73 = x48 from h49); have := congrArg Int32.toInt (show FIv25 121 90 = x51 from h52); omega) (by have := congrArg Int32.toInt (show FIv25 121 90 = x51 from h52); omega) (by have := congrArg Int32.toInt (show FIv25 121 71 = x56 from h57); have := congrArg Int32.toInt (show FIv25 121 71 = x56 from h57); omega) (hk14.1) (hk14.2.1 (by omega)) (show rl_e (FIv25 149) (FIv25 121 67) from rl29) (show rl_t (FIv25 149) (FL 150) from rl30) (show rl_pm (FIv25 121 90) (FIv25 121 73) (FIv25 166) (FIv25 167) (FIv25 168) from rl32) (show rl_w (FIv25 121 67) (FIv25 149) (FL 150) (FIv25 151) from rl31)) (fun v59 sv60 p61 => ?_)
          have := congrArg Int32.toInt (show FIv25 121 68 = x45 from h46)
          have := congrArg Int32.toInt (show FIv25 121 73 = x48 from h49)
          have := congrArg Int32.toInt (show FIv25 121 90 = x51 from h52)
          have := congrArg Int32.toInt (show FIv25 121 68 = x45 from h46)
          have := congrArg Int32.toInt (show FIv25 121 73 = x48 from h49)
          have := congrArg Int32.toInt (show FIv25 121 90 = x51 from h52)
          have := congrArg Int32.toInt (show FIv25 121 68 = x45 from h46)
          have := congrArg Int32.toInt (show FIv25 121 71 = x56 from h57)
          have := congrArg Int32.toInt (show FIv25 121 71 = x56 from h57)
          obtain ⟨r62, rfl, FI63, rfl, hI64, f65, t66, t67, t68, t69, t70, t71, t72, t73, t74, t75, u76, u77, u78, rl79⟩ := p61
          have rl80 : rl_e (FI63 149) (FI63 121 67) := by rw [show FI63 149 = FIv25 149 from gf_row f65 (c149 hS) (s149 hS) rfl rfl, show FI63 121 67 = FIv25 121 67 from gf_at f65 (c121 hS) (s121 hS) rfl rfl]; exact rl29
          have rl81 : rl_t (FI63 149) (FL 150) := by rw [show FI63 149 = FIv25 149 from gf_row f65 (c149 hS) (s149 hS) rfl rfl]; exact rl30
          have rl82 : rl_w (FI63 121 67) (FI63 149) (FL 150) (FI63 151) := by rw [show FI63 149 = FIv25 149 from gf_row f65 (c149 hS) (s149 hS) rfl rfl, show FI63 151 = FIv25 151 from gf_row f65 (c151 hS) (s151 hS) rfl rfl, show FI63 121 67 = FIv25 121 67 from gf_at f65 (c121 hS) (s121 hS) rfl rfl]; exact rl31
          obtain ⟨x83, h84⟩ : ∃ y, FI63 121 68 = y := ⟨_, rfl⟩
          have h84l := congrArg Int32.toInt h84
          have b85 := gI_121_68 hI64; rw [h84] at b85
          have := congrArg Int32.toInt (show FI63 121 67 = x4 from (gf_at f65 (c121 hS) (s121 hS) rfl (kp28)))
          obtain ⟨x86, h87⟩ : ∃ y, FI63 121 73 = y := ⟨_, rfl⟩
          have h87l := congrArg Int32.toInt h87
          have b88 := gI_121_73 hI64; rw [h87] at b88
          obtain ⟨x89, h90⟩ : ∃ y, FI63 121 90 = y := ⟨_, rfl⟩
          have h90l := congrArg Int32.toInt h90
          have b91 := gI_121_90 hI64; rw [h90] at b91
          obtain ⟨x92, h93⟩ : ∃ y, FI63 121 69 = y := ⟨_, rfl⟩
          have h93l := congrArg Int32.toInt h93
          have := i_rng x92
          obtain ⟨x94, h95⟩ : ∃ y, FI63 121 71 = y := ⟨_, rfl⟩
          have h95l := congrArg Int32.toInt h95
          have := i_rng x94
          show hw zk base _ _ _ _ _ [.int (r62)] _ _
          refine hw_ifne (tgt := 42) (aX12_chosen 20 rfl) (by decide) rfl (fun cd96 => ?_) (fun cd96 => ?_)
          · replace t71 := t71 (by omega)
            refine hw_aloadn (aX12_chosen 22 rfl) rfl ?_
            obtain ⟨x97, h98⟩ : ∃ y, FI63 121 91 = y := ⟨_, rfl⟩
            have h98l := congrArg Int32.toInt h98
            have b99 := gI_121_91 hI64; rw [h98] at b99
            refine hw_get (v := .int (x97)) (aX12_chosen 23 rfl) wf_RX12_577 (c121 hS) (s121 hS) (by decide) (congrArg Value.int (show FI63 121 91 = x97 from h98)) ?_
            refine hw_ifne (tgt := 53) (aX12_chosen 24 rfl) (by decide) rfl (fun cd100 => ?_) (fun cd100 => ?_)
            · refine hw_ic (v := (0 : Int32)) (aX12_chosen 27 rfl) (by decide) ?_
              refine xw_istoren (L2 := [(1, .int ((0 : Int32))), (0, .ref (base + 121))]) (aX12_chosen 28 rfl) (by decide) rfl ?_
              refine xw_goto (tgt := 7) (aX12_chosen 29 rfl) (by decide) ?_
              refine hw_aloadn (aX12_chosen 5 rfl) rfl ?_
              refine hw_get (v := .int (x92)) (aX12_chosen 6 rfl) wf_RX12_475 (c121 hS) (s121 hS) (by decide) (congrArg Value.int (show FI63 121 69 = x92 from h93)) ?_
              refine hw_ifne (tgt := 58) (aX12_chosen 7 rfl) (by decide) rfl (fun cd101 => ?_) (fun cd101 => ?_)
              · refine xw_vret (aX12_chosen 30 rfl) rfl ?_
                exact ⟨rfl, FI63, rfl, hI64, (gf_tr ex_rf fr26 f65 rfl rfl rfl), (by have := congrArg Int32.toInt (show FI63 121 67 = x4 from (gf_at f65 (c121 hS) (s121 hS) rfl (kp28))); have := congrArg Int32.toInt (show FI63 121 68 = x83 from h84); omega), (by have := congrArg Int32.toInt (show FI63 121 68 = x83 from h84); omega), (by have := congrArg Int32.toInt (show FI63 121 68 = x83 from h84); have := congrArg Int32.toInt (show FI63 121 73 = x86 from h87); have := congrArg Int32.toInt (show FI63 121 90 = x89 from h90); omega), (by have := congrArg Int32.toInt (show FI63 121 73 = x86 from h87); omega), (by have := congrArg Int32.toInt (show FI63 121 71 = x94 from h95); omega), (by have := congrArg Int32.toInt (show FI63 121 69 = x92 from h93); exact fun h => absurd h (by omega)), (by have := congrArg Int32.toInt (show FI63 121 69 = x92 from h93); exact fun h => absurd h (by omega)), (by have := congrArg Int32.toInt (show FI63 121 69 = x92 from h93); exact fun h => absurd h (by omega))⟩
              · exact hw_L (ih ((0 : Int32)) FI63 (gf_tr ex_rf fr26 f65 rfl rfl rfl) hI64 (show FI63 121 67 = x4 from (gf_at f65 (c121 hS) (s121 hS) rfl (kp28))) (show rl_e (FI63 149) (FI63 121 67) from rl80) (show rl_t (FI63 149) (FL 150) from rl81) (show rl_w (FI63 121 67) (FI63 149) (FL 150) (FI63 151) from rl82) (show rl_pm (FI63 121 90) (FI63 121 73) (FI63 166) (FI63 167) (FI63 168) from rl79) (by have := ((by decide : (0 : Int32).toInt = 0) : ((0 : Int32)).toInt = 0); omega) (by have := ((by decide : (0 : Int32).toInt = 0) : ((0 : Int32)).toInt = 0); have := congrArg Int32.toInt (show FI63 121 68 = x83 from h84); omega) (by have := ((by decide : (0 : Int32).toInt = 0) : ((0 : Int32)).toInt = 0); have := congrArg Int32.toInt (show FI63 121 67 = x4 from (gf_at f65 (c121 hS) (s121 hS) rfl (kp28))); have := congrArg Int32.toInt (show FI63 121 68 = x83 from h84); omega) (by have := ((by decide : (0 : Int32).toInt = 0) : ((0 : Int32)).toInt = 0); have := congrArg Int32.toInt (show FI63 121 68 = x83 from h84); omega) (by have := ((by decide : (0 : Int32).toInt = 0) : ((0 : Int32)).toInt = 0); have := congrArg Int32.toInt (show FI63 121 68 = x83 from h84); have := congrArg Int32.toInt (show FI63 121 73 = x86 from h87); have := congrArg Int32.toInt (show FI63 121 90 = x89 from h90); omega) (by have := ((by decide : (0 : Int32).toInt = 0) : ((0 : Int32)).toInt = 0); have := congrArg Int32.toInt (show FI63 121 73 = x86 from h87); omega) (by have := ((by decide : (0 : Int32).toInt = 0) : ((0 : Int32)).toInt = 0); have := congrArg Int32.toInt (show FI63 121 69 = x92 from h93); omega) (by have := ((by decide : (0 : Int32).toInt = 0) : ((0 : Int32)).toInt = 0); have := congrArg Int32.toInt (show FI63 121 71 = x94 from h95); omega) (by have := ((by decide : (0 : Int32).toInt = 0) : ((0 : Int32)).toInt = 0); omega) (show ch_inv (kf (FI 149)) (wf (FL 150)) (FI 121 68).toInt.toNat (FI 121 71).toInt ((FI63 121 68).toInt).toNat 0 (sk (FI63 166) ((FI63 121 90).toInt).toNat) (FI63 121 71).toInt from (by have := ((by decide : (0 : Int32).toInt = 0) : ((0 : Int32)).toInt = 0); have := congrArg Int32.toInt (show FI63 121 68 = x83 from h84); have := congrArg Int32.toInt (show FI63 121 71 = x94 from h95); have := congrArg Int32.toInt (show FI63 121 90 = x89 from h90); exact (by have hx := xi14_0; rw [show (y1).toInt = 0 by omega] at hx; have ho := ((u76 (by omega)).1 (by omega)); rw [show FIv25 149 = FI 149 from rw42] at ho; have hop := u77 (by omega); exact (ch_opr hx ho (by rw [sk_len]; omega) hop).2 (by omega)))) (show (FI63 121 73).toInt + 4 * (FI63 121 90).toInt - 3 * (au_q (sk (FI63 166) ((FI63 121 90).toInt).toNat) : Int) - 4 * wp (FI 151) (FI63 121 68) ≤ (FI 121 73).toInt - 4 * wp (FI 151) (FI 121 68) from (by have := ((by decide : (0 : Int32).toInt = 0) : ((0 : Int32)).toInt = 0); have := congrArg Int32.toInt (show FI63 121 73 = x86 from h87); have := congrArg Int32.toInt (show FI63 121 90 = x89 from h90); exact (by have hx1 := xi14_1; have hu := u78 (by omega); rw [show FIv25 151 = FI 151 from rw43] at hu; omega))) (show FI63 149 = FI 149 from (gf_row f65 (c149 hS) (s149 hS) rfl (rw42))) (show FI63 151 = FI 151 from (gf_row f65 (c151 hS) (s151 hS) rfl (rw43))) (by have := ((by decide : (0 : Int32).toInt = 0) : ((0 : Int32)).toInt = 0); have := congrArg Int32.toInt (show FI63 121 68 = x83 from h84); omega)) ⟨rfl, rfl, trivial⟩
            · refine hw_ic (v := (1 : Int32)) (aX12_chosen 25 rfl) (by decide) ?_
              refine xw_goto (tgt := 54) (aX12_chosen 26 rfl) (by decide) ?_
              refine xw_istoren (L2 := [(1, .int ((1 : Int32))), (0, .ref (base + 121))]) (aX12_chosen 28 rfl) (by decide) rfl ?_
              refine xw_goto (tgt := 7) (aX12_chosen 29 rfl) (by decide) ?_
              refine hw_aloadn (aX12_chosen 5 rfl) rfl ?_
              refine hw_get (v := .int (x92)) (aX12_chosen 6 rfl) wf_RX12_475 (c121 hS) (s121 hS) (by decide) (congrArg Value.int (show FI63 121 69 = x92 from h93)) ?_
              refine hw_ifne (tgt := 58) (aX12_chosen 7 rfl) (by decide) rfl (fun cd102 => ?_) (fun cd102 => ?_)
              · refine xw_vret (aX12_chosen 30 rfl) rfl ?_
                exact ⟨rfl, FI63, rfl, hI64, (gf_tr ex_rf fr26 f65 rfl rfl rfl), (by have := congrArg Int32.toInt (show FI63 121 67 = x4 from (gf_at f65 (c121 hS) (s121 hS) rfl (kp28))); have := congrArg Int32.toInt (show FI63 121 68 = x83 from h84); omega), (by have := congrArg Int32.toInt (show FI63 121 68 = x83 from h84); omega), (by have := congrArg Int32.toInt (show FI63 121 68 = x83 from h84); have := congrArg Int32.toInt (show FI63 121 73 = x86 from h87); have := congrArg Int32.toInt (show FI63 121 90 = x89 from h90); omega), (by have := congrArg Int32.toInt (show FI63 121 73 = x86 from h87); omega), (by have := congrArg Int32.toInt (show FI63 121 71 = x94 from h95); omega), (by have := congrArg Int32.toInt (show FI63 121 69 = x92 from h93); exact fun h => absurd h (by omega)), (by have := congrArg Int32.toInt (show FI63 121 69 = x92 from h93); exact fun h => absurd h (by omega)), (by have := congrArg Int32.toInt (show FI63 121 69 = x92 from h93); exact fun h => absurd h (by omega))⟩
              · exact hw_L (ih ((1 : Int32)) FI63 (gf_tr ex_rf fr26 f65 rfl rfl rfl) hI64 (show FI63 121 67 = x4 from (gf_at f65 (c121 hS) (s121 hS) rfl (kp28))) (show rl_e (FI63 149) (FI63 121 67) from rl80) (show rl_t (FI63 149) (FL 150) from rl81) (show rl_w (FI63 121 67) (FI63 149) (FL 150) (FI63 151) from rl82) (show rl_pm (FI63 121 90) (FI63 121 73) (FI63 166) (FI63 167) (FI63 168) from rl79) (by have := ((by decide : (1 : Int32).toInt = 1) : ((1 : Int32)).toInt = 1); omega) (by have := ((by decide : (1 : Int32).toInt = 1) : ((1 : Int32)).toInt = 1); have := congrArg Int32.toInt (show FI63 121 68 = x83 from h84); omega) (by have := ((by decide : (1 : Int32).toInt = 1) : ((1 : Int32)).toInt = 1); have := congrArg Int32.toInt (show FI63 121 67 = x4 from (gf_at f65 (c121 hS) (s121 hS) rfl (kp28))); have := congrArg Int32.toInt (show FI63 121 68 = x83 from h84); omega) (by have := ((by decide : (1 : Int32).toInt = 1) : ((1 : Int32)).toInt = 1); have := congrArg Int32.toInt (show FI63 121 68 = x83 from h84); omega) (by have := ((by decide : (1 : Int32).toInt = 1) : ((1 : Int32)).toInt = 1); have := congrArg Int32.toInt (show FI63 121 68 = x83 from h84); have := congrArg Int32.toInt (show FI63 121 73 = x86 from h87); have := congrArg Int32.toInt (show FI63 121 90 = x89 from h90); omega) (by have := ((by decide : (1 : Int32).toInt = 1) : ((1 : Int32)).toInt = 1); have := congrArg Int32.toInt (show FI63 121 73 = x86 from h87); omega) (by have := ((by decide : (1 : Int32).toInt = 1) : ((1 : Int32)).toInt = 1); have := congrArg Int32.toInt (show FI63 121 69 = x92 from h93); omega) (by have := ((by decide : (1 : Int32).toInt = 1) : ((1 : Int32)).toInt = 1); have := congrArg Int32.toInt (show FI63 121 71 = x94 from h95); omega) (by have := ((by decide : (1 : Int32).toInt = 1) : ((1 : Int32)).toInt = 1); omega) (show ch_inv (kf (FI 149)) (wf (FL 150)) (FI 121 68).toInt.toNat (FI 121 71).toInt ((FI63 121 68).toInt).toNat 1 (sk (FI63 166) ((FI63 121 90).toInt).toNat) (FI63 121 71).toInt from (by have := ((by decide : (1 : Int32).toInt = 1) : ((1 : Int32)).toInt = 1); have := congrArg Int32.toInt (show FI63 121 68 = x83 from h84); have := congrArg Int32.toInt (show FI63 121 71 = x94 from h95); have := congrArg Int32.toInt (show FI63 121 90 = x89 from h90); exact (by have hx := xi14_0; rw [show (y1).toInt = 0 by omega] at hx; have ho := ((u76 (by omega)).1 (by omega)); rw [show FIv25 149 = FI 149 from rw42] at ho; have hop := u77 (by omega); exact (ch_opr hx ho (by rw [sk_len]; omega) hop).1 (by omega)))) (show (FI63 121 73).toInt + 4 * (FI63 121 90).toInt - 3 * (au_q (sk (FI63 166) ((FI63 121 90).toInt).toNat) : Int) - 4 * wp (FI 151) (FI63 121 68) ≤ (FI 121 73).toInt - 4 * wp (FI 151) (FI 121 68) from (by have := ((by decide : (1 : Int32).toInt = 1) : ((1 : Int32)).toInt = 1); have := congrArg Int32.toInt (show FI63 121 73 = x86 from h87); have := congrArg Int32.toInt (show FI63 121 90 = x89 from h90); exact (by have hx1 := xi14_1; have hu := u78 (by omega); rw [show FIv25 151 = FI 151 from rw43] at hu; omega))) (show FI63 149 = FI 149 from (gf_row f65 (c149 hS) (s149 hS) rfl (rw42))) (show FI63 151 = FI 151 from (gf_row f65 (c151 hS) (s151 hS) rfl (rw43))) (by have := ((by decide : (1 : Int32).toInt = 1) : ((1 : Int32)).toInt = 1); have := congrArg Int32.toInt (show FI63 121 68 = x83 from h84); omega)) ⟨rfl, rfl, trivial⟩
          · clear t71
            refine xw_vret (aX12_chosen 21 rfl) rfl ?_
            exact ⟨rfl, FI63, rfl, hI64, (gf_tr ex_rf fr26 f65 rfl rfl rfl), (by have := congrArg Int32.toInt (show FI63 121 67 = x4 from (gf_at f65 (c121 hS) (s121 hS) rfl (kp28))); have := congrArg Int32.toInt (show FI63 121 68 = x83 from h84); omega), (by have := congrArg Int32.toInt (show FI63 121 68 = x83 from h84); omega), (by have := congrArg Int32.toInt (show FI63 121 68 = x83 from h84); have := congrArg Int32.toInt (show FI63 121 73 = x86 from h87); have := congrArg Int32.toInt (show FI63 121 90 = x89 from h90); omega), (by have := congrArg Int32.toInt (show FI63 121 73 = x86 from h87); omega), (by have := congrArg Int32.toInt (show FI63 121 71 = x94 from h95); omega), (by have := congrArg Int32.toInt (show FI63 121 69 = x92 from h93); intro h69; have hx := xi14_0; rw [show (y1).toInt = 0 by omega] at hx; have he := ((u76 (by omega)).2 (by omega)); rw [show FIv25 149 = FI 149 from rw42] at he; rw [he.2]; exact ch_end hx he.1), (by have := congrArg Int32.toInt (show FI63 121 69 = x92 from h93); have := congrArg Int32.toInt (show FI63 121 71 = x94 from h95); have := congrArg Int32.toInt (show FI63 121 90 = x89 from h90); intro h69; have hop := u77 (by omega); have h0 := hid_e t74 (by omega); rw [show (FI63 121 90).toInt.toNat = 0 by omega] at hop; have h2 := xi14_0.2.1; simp only [sk, au_op] at hop; omega), (by have := congrArg Int32.toInt (show FI63 121 69 = x92 from h93); have := congrArg Int32.toInt (show FI63 121 73 = x86 from h87); have := congrArg Int32.toInt (show FI63 121 90 = x89 from h90); intro h69; have hx1 := xi14_1; have hu := u78 (by omega); have h0 := hid_e t74 (by omega); rw [show FIv25 151 = FI 151 from rw43, show (FI63 121 90).toInt.toNat = 0 by omega] at hu; simp only [sk, au_q] at hu; omega)⟩
        · refine hw_aloadn (aX12_chosen 10 rfl) rfl ?_
          refine hw_callV (Bs := []) (rest := []) (aX12_chosen 11 rfl) wc_RX12_571 (by decide) rfl wi_yX12_operand wv_yX12_operand (c121 hS) (s121 hS) rfl rfl rfl (Nat.le_of_ble_eq_true rfl) (Nat.le_of_ble_eq_true rfl) (n_operand (d := d + 1) hS hF hI27 (by have := congrArg Int32.toInt (show FIv25 121 68 = x45 from h46); have := congrArg Int32.toInt (show FIv25 121 67 = x4 from kp28); omega) (by have := congrArg Int32.toInt (show FIv25 121 69 = x54 from h55); omega) (by have := congrArg Int32.toInt (show FIv25 121 73 = x48 from h49); have := congrArg Int32.toInt (show FIv25 121 90 = x51 from h52); omega) (by have := congrArg Int32.toInt (show FIv25 121 90 = x51 from h52); omega) (by have := congrArg Int32.toInt (show FIv25 121 71 = x56 from h57); have := congrArg Int32.toInt (show FIv25 121 71 = x56 from h57); omega) (show rl_e (FIv25 149) (FIv25 121 67) from rl29) (show rl_t (FIv25 149) (FL 150) from rl30) (show rl_pm (FIv25 121 90) (FIv25 121 73) (FIv25 166) (FIv25 167) (FIv25 168) from rl32) (show rl_w (FIv25 121 67) (FIv25 149) (FL 150) (FIv25 151) from rl31)) (fun v103 sv104 p105 => ?_)
          have := congrArg Int32.toInt (show FIv25 121 68 = x45 from h46)
          have := congrArg Int32.toInt (show FIv25 121 73 = x48 from h49)
          have := congrArg Int32.toInt (show FIv25 121 90 = x51 from h52)
          have := congrArg Int32.toInt (show FIv25 121 68 = x45 from h46)
          have := congrArg Int32.toInt (show FIv25 121 73 = x48 from h49)
          have := congrArg Int32.toInt (show FIv25 121 68 = x45 from h46)
          have := congrArg Int32.toInt (show FIv25 121 90 = x51 from h52)
          have := congrArg Int32.toInt (show FIv25 121 71 = x56 from h57)
          have := congrArg Int32.toInt (show FIv25 121 71 = x56 from h57)
          obtain ⟨r106, rfl, FI107, rfl, hI108, f109, t110, t111, t112, t113, t114, t115, t116, t117, u118, u119, u120, rl121⟩ := p105
          have rl122 : rl_e (FI107 149) (FI107 121 67) := by rw [show FI107 149 = FIv25 149 from gf_row f109 (c149 hS) (s149 hS) rfl rfl, show FI107 121 67 = FIv25 121 67 from gf_at f109 (c121 hS) (s121 hS) rfl rfl]; exact rl29
          have rl123 : rl_t (FI107 149) (FL 150) := by rw [show FI107 149 = FIv25 149 from gf_row f109 (c149 hS) (s149 hS) rfl rfl]; exact rl30
          have rl124 : rl_w (FI107 121 67) (FI107 149) (FL 150) (FI107 151) := by rw [show FI107 149 = FIv25 149 from gf_row f109 (c149 hS) (s149 hS) rfl rfl, show FI107 151 = FIv25 151 from gf_row f109 (c151 hS) (s151 hS) rfl rfl, show FI107 121 67 = FIv25 121 67 from gf_at f109 (c121 hS) (s121 hS) rfl rfl]; exact rl31
          obtain ⟨x125, h126⟩ : ∃ y, FI107 121 68 = y := ⟨_, rfl⟩
          have h126l := congrArg Int32.toInt h126
          have b127 := gI_121_68 hI108; rw [h126] at b127
          have := congrArg Int32.toInt (show FI107 121 67 = x4 from (gf_at f109 (c121 hS) (s121 hS) rfl (kp28)))
          obtain ⟨x128, h129⟩ : ∃ y, FI107 121 73 = y := ⟨_, rfl⟩
          have h129l := congrArg Int32.toInt h129
          have b130 := gI_121_73 hI108; rw [h129] at b130
          obtain ⟨x131, h132⟩ : ∃ y, FI107 121 90 = y := ⟨_, rfl⟩
          have h132l := congrArg Int32.toInt h132
          have b133 := gI_121_90 hI108; rw [h132] at b133
          obtain ⟨x134, h135⟩ : ∃ y, FI107 121 69 = y := ⟨_, rfl⟩
          have h135l := congrArg Int32.toInt h135
          have := i_rng x134
          obtain ⟨x136, h137⟩ : ∃ y, FI107 121 71 = y := ⟨_, rfl⟩
          have h137l := congrArg Int32.toInt h137
          have := i_rng x136
          show hw zk base _ _ _ _ _ [.int (r106)] _ _
          refine hw_ifne (tgt := 29) (aX12_chosen 12 rfl) (by decide) rfl (fun cd138 => ?_) (fun cd138 => ?_)
          · refine hw_ic (v := (0 : Int32)) (aX12_chosen 15 rfl) (by decide) ?_
            refine xw_istoren (L2 := [(1, .int ((0 : Int32))), (0, .ref (base + 121))]) (aX12_chosen 16 rfl) (by decide) rfl ?_
            refine xw_goto (tgt := 7) (aX12_chosen 17 rfl) (by decide) ?_
            refine hw_aloadn (aX12_chosen 5 rfl) rfl ?_
            refine hw_get (v := .int (x134)) (aX12_chosen 6 rfl) wf_RX12_475 (c121 hS) (s121 hS) (by decide) (congrArg Value.int (show FI107 121 69 = x134 from h135)) ?_
            refine hw_ifne (tgt := 58) (aX12_chosen 7 rfl) (by decide) rfl (fun cd139 => ?_) (fun cd139 => ?_)
            · refine xw_vret (aX12_chosen 30 rfl) rfl ?_
              exact ⟨rfl, FI107, rfl, hI108, (gf_tr ex_rf fr26 f109 rfl rfl rfl), (by have := congrArg Int32.toInt (show FI107 121 67 = x4 from (gf_at f109 (c121 hS) (s121 hS) rfl (kp28))); have := congrArg Int32.toInt (show FI107 121 68 = x125 from h126); omega), (by have := congrArg Int32.toInt (show FI107 121 68 = x125 from h126); omega), (by have := congrArg Int32.toInt (show FI107 121 68 = x125 from h126); have := congrArg Int32.toInt (show FI107 121 73 = x128 from h129); have := congrArg Int32.toInt (show FI107 121 90 = x131 from h132); omega), (by have := congrArg Int32.toInt (show FI107 121 73 = x128 from h129); omega), (by have := congrArg Int32.toInt (show FI107 121 71 = x136 from h137); omega), (by have := congrArg Int32.toInt (show FI107 121 69 = x134 from h135); exact fun h => absurd h (by omega)), (by have := congrArg Int32.toInt (show FI107 121 69 = x134 from h135); exact fun h => absurd h (by omega)), (by have := congrArg Int32.toInt (show FI107 121 69 = x134 from h135); exact fun h => absurd h (by omega))⟩
            · exact hw_L (ih ((0 : Int32)) FI107 (gf_tr ex_rf fr26 f109 rfl rfl rfl) hI108 (show FI107 121 67 = x4 from (gf_at f109 (c121 hS) (s121 hS) rfl (kp28))) (show rl_e (FI107 149) (FI107 121 67) from rl122) (show rl_t (FI107 149) (FL 150) from rl123) (show rl_w (FI107 121 67) (FI107 149) (FL 150) (FI107 151) from rl124) (show rl_pm (FI107 121 90) (FI107 121 73) (FI107 166) (FI107 167) (FI107 168) from rl121) (by have := ((by decide : (0 : Int32).toInt = 0) : ((0 : Int32)).toInt = 0); omega) (by have := ((by decide : (0 : Int32).toInt = 0) : ((0 : Int32)).toInt = 0); have := congrArg Int32.toInt (show FI107 121 68 = x125 from h126); omega) (by have := ((by decide : (0 : Int32).toInt = 0) : ((0 : Int32)).toInt = 0); have := congrArg Int32.toInt (show FI107 121 67 = x4 from (gf_at f109 (c121 hS) (s121 hS) rfl (kp28))); have := congrArg Int32.toInt (show FI107 121 68 = x125 from h126); omega) (by have := ((by decide : (0 : Int32).toInt = 0) : ((0 : Int32)).toInt = 0); have := congrArg Int32.toInt (show FI107 121 68 = x125 from h126); omega) (by have := ((by decide : (0 : Int32).toInt = 0) : ((0 : Int32)).toInt = 0); have := congrArg Int32.toInt (show FI107 121 68 = x125 from h126); have := congrArg Int32.toInt (show FI107 121 73 = x128 from h129); have := congrArg Int32.toInt (show FI107 121 90 = x131 from h132); omega) (by have := ((by decide : (0 : Int32).toInt = 0) : ((0 : Int32)).toInt = 0); have := congrArg Int32.toInt (show FI107 121 73 = x128 from h129); omega) (by have := ((by decide : (0 : Int32).toInt = 0) : ((0 : Int32)).toInt = 0); have := congrArg Int32.toInt (show FI107 121 69 = x134 from h135); omega) (by have := ((by decide : (0 : Int32).toInt = 0) : ((0 : Int32)).toInt = 0); have := congrArg Int32.toInt (show FI107 121 71 = x136 from h137); omega) (by have := ((by decide : (0 : Int32).toInt = 0) : ((0 : Int32)).toInt = 0); omega) (show ch_inv (kf (FI 149)) (wf (FL 150)) (FI 121 68).toInt.toNat (FI 121 71).toInt ((FI107 121 68).toInt).toNat 0 (sk (FI107 166) ((FI107 121 90).toInt).toNat) (FI107 121 71).toInt from (by have := ((by decide : (0 : Int32).toInt = 0) : ((0 : Int32)).toInt = 0); have := congrArg Int32.toInt (show FI107 121 68 = x125 from h126); have := congrArg Int32.toInt (show FI107 121 71 = x136 from h137); have := congrArg Int32.toInt (show FI107 121 90 = x131 from h132); exact (by have hx := xi14_0; rw [show (y1).toInt = 1 by omega] at hx; have ho := (u118 (by omega)); rw [show FIv25 149 = FI 149 from rw42] at ho; have hop := u119 (by omega); exact (ch_opd hx ho (by rw [sk_len]; omega) hop).2 (by omega)))) (show (FI107 121 73).toInt + 4 * (FI107 121 90).toInt - 3 * (au_q (sk (FI107 166) ((FI107 121 90).toInt).toNat) : Int) - 4 * wp (FI 151) (FI107 121 68) ≤ (FI 121 73).toInt - 4 * wp (FI 151) (FI 121 68) from (by have := ((by decide : (0 : Int32).toInt = 0) : ((0 : Int32)).toInt = 0); have := congrArg Int32.toInt (show FI107 121 73 = x128 from h129); have := congrArg Int32.toInt (show FI107 121 90 = x131 from h132); exact (by have hx1 := xi14_1; have hu := u120 (by omega); rw [show FIv25 151 = FI 151 from rw43] at hu; omega))) (show FI107 149 = FI 149 from (gf_row f109 (c149 hS) (s149 hS) rfl (rw42))) (show FI107 151 = FI 151 from (gf_row f109 (c151 hS) (s151 hS) rfl (rw43))) (by have := ((by decide : (0 : Int32).toInt = 0) : ((0 : Int32)).toInt = 0); have := congrArg Int32.toInt (show FI107 121 68 = x125 from h126); omega)) ⟨rfl, rfl, trivial⟩
          · refine hw_ic (v := (1 : Int32)) (aX12_chosen 13 rfl) (by decide) ?_
            refine xw_goto (tgt := 30) (aX12_chosen 14 rfl) (by decide) ?_
            refine xw_istoren (L2 := [(1, .int ((1 : Int32))), (0, .ref (base + 121))]) (aX12_chosen 16 rfl) (by decide) rfl ?_
            refine xw_goto (tgt := 7) (aX12_chosen 17 rfl) (by decide) ?_
            refine hw_aloadn (aX12_chosen 5 rfl) rfl ?_
            refine hw_get (v := .int (x134)) (aX12_chosen 6 rfl) wf_RX12_475 (c121 hS) (s121 hS) (by decide) (congrArg Value.int (show FI107 121 69 = x134 from h135)) ?_
            refine hw_ifne (tgt := 58) (aX12_chosen 7 rfl) (by decide) rfl (fun cd140 => ?_) (fun cd140 => ?_)
            · refine xw_vret (aX12_chosen 30 rfl) rfl ?_
              exact ⟨rfl, FI107, rfl, hI108, (gf_tr ex_rf fr26 f109 rfl rfl rfl), (by have := congrArg Int32.toInt (show FI107 121 67 = x4 from (gf_at f109 (c121 hS) (s121 hS) rfl (kp28))); have := congrArg Int32.toInt (show FI107 121 68 = x125 from h126); omega), (by have := congrArg Int32.toInt (show FI107 121 68 = x125 from h126); omega), (by have := congrArg Int32.toInt (show FI107 121 68 = x125 from h126); have := congrArg Int32.toInt (show FI107 121 73 = x128 from h129); have := congrArg Int32.toInt (show FI107 121 90 = x131 from h132); omega), (by have := congrArg Int32.toInt (show FI107 121 73 = x128 from h129); omega), (by have := congrArg Int32.toInt (show FI107 121 71 = x136 from h137); omega), (by have := congrArg Int32.toInt (show FI107 121 69 = x134 from h135); exact fun h => absurd h (by omega)), (by have := congrArg Int32.toInt (show FI107 121 69 = x134 from h135); exact fun h => absurd h (by omega)), (by have := congrArg Int32.toInt (show FI107 121 69 = x134 from h135); exact fun h => absurd h (by omega))⟩
            · exact hw_L (ih ((1 : Int32)) FI107 (gf_tr ex_rf fr26 f109 rfl rfl rfl) hI108 (show FI107 121 67 = x4 from (gf_at f109 (c121 hS) (s121 hS) rfl (kp28))) (show rl_e (FI107 149) (FI107 121 67) from rl122) (show rl_t (FI107 149) (FL 150) from rl123) (show rl_w (FI107 121 67) (FI107 149) (FL 150) (FI107 151) from rl124) (show rl_pm (FI107 121 90) (FI107 121 73) (FI107 166) (FI107 167) (FI107 168) from rl121) (by have := ((by decide : (1 : Int32).toInt = 1) : ((1 : Int32)).toInt = 1); omega) (by have := ((by decide : (1 : Int32).toInt = 1) : ((1 : Int32)).toInt = 1); have := congrArg Int32.toInt (show FI107 121 68 = x125 from h126); omega) (by have := ((by decide : (1 : Int32).toInt = 1) : ((1 : Int32)).toInt = 1); have := congrArg Int32.toInt (show FI107 121 67 = x4 from (gf_at f109 (c121 hS) (s121 hS) rfl (kp28))); have := congrArg Int32.toInt (show FI107 121 68 = x125 from h126); omega) (by have := ((by decide : (1 : Int32).toInt = 1) : ((1 : Int32)).toInt = 1); have := congrArg Int32.toInt (show FI107 121 68 = x125 from h126); omega) (by have := ((by decide : (1 : Int32).toInt = 1) : ((1 : Int32)).toInt = 1); have := congrArg Int32.toInt (show FI107 121 68 = x125 from h126); have := congrArg Int32.toInt (show FI107 121 73 = x128 from h129); have := congrArg Int32.toInt (show FI107 121 90 = x131 from h132); omega) (by have := ((by decide : (1 : Int32).toInt = 1) : ((1 : Int32)).toInt = 1); have := congrArg Int32.toInt (show FI107 121 73 = x128 from h129); omega) (by have := ((by decide : (1 : Int32).toInt = 1) : ((1 : Int32)).toInt = 1); have := congrArg Int32.toInt (show FI107 121 69 = x134 from h135); omega) (by have := ((by decide : (1 : Int32).toInt = 1) : ((1 : Int32)).toInt = 1); have := congrArg Int32.toInt (show FI107 121 71 = x136 from h137); omega) (by have := ((by decide : (1 : Int32).toInt = 1) : ((1 : Int32)).toInt = 1); omega) (show ch_inv (kf (FI 149)) (wf (FL 150)) (FI 121 68).toInt.toNat (FI 121 71).toInt ((FI107 121 68).toInt).toNat 1 (sk (FI107 166) ((FI107 121 90).toInt).toNat) (FI107 121 71).toInt from (by have := ((by decide : (1 : Int32).toInt = 1) : ((1 : Int32)).toInt = 1); have := congrArg Int32.toInt (show FI107 121 68 = x125 from h126); have := congrArg Int32.toInt (show FI107 121 71 = x136 from h137); have := congrArg Int32.toInt (show FI107 121 90 = x131 from h132); exact (by have hx := xi14_0; rw [show (y1).toInt = 1 by omega] at hx; have ho := (u118 (by omega)); rw [show FIv25 149 = FI 149 from rw42] at ho; have hop := u119 (by omega); exact (ch_opd hx ho (by rw [sk_len]; omega) hop).1 (by omega)))) (show (FI107 121 73).toInt + 4 * (FI107 121 90).toInt - 3 * (au_q (sk (FI107 166) ((FI107 121 90).toInt).toNat) : Int) - 4 * wp (FI 151) (FI107 121 68) ≤ (FI 121 73).toInt - 4 * wp (FI 151) (FI 121 68) from (by have := ((by decide : (1 : Int32).toInt = 1) : ((1 : Int32)).toInt = 1); have := congrArg Int32.toInt (show FI107 121 73 = x128 from h129); have := congrArg Int32.toInt (show FI107 121 90 = x131 from h132); exact (by have hx1 := xi14_1; have hu := u120 (by omega); rw [show FIv25 151 = FI 151 from rw43] at hu; omega))) (show FI107 149 = FI 149 from (gf_row f109 (c149 hS) (s149 hS) rfl (rw42))) (show FI107 151 = FI 151 from (gf_row f109 (c151 hS) (s151 hS) rfl (rw43))) (by have := ((by decide : (1 : Int32).toInt = 1) : ((1 : Int32)).toInt = 1); have := congrArg Int32.toInt (show FI107 121 68 = x125 from h126); omega)) ⟨rfl, rfl, trivial⟩
    exact hw_L (lp44 ((1001 - (x1).toInt : Int).toNat + 1) ((1 : Int32)) FI17 (gf_f gf_rf u18 (by decide)) hI22 (show FI17 121 67 = x4 from (up_k u18 (by decide) (h5))) (show rl_e (FI17 149) (FI17 121 67) from rl19) (show rl_t (FI17 149) (FL 150) from rl20) (show rl_w (FI17 121 67) (FI17 149) (FL 150) (FI17 151) from rl21) (show rl_pm (FI17 121 90) (FI17 121 73) (FI17 166) (FI17 167) (FI17 168) from rl23) (by have := ((by decide : (1 : Int32).toInt = 1) : ((1 : Int32)).toInt = 1); omega) (by have := ((by decide : (1 : Int32).toInt = 1) : ((1 : Int32)).toInt = 1); have := congrArg Int32.toInt (show FI17 121 68 = x1 from (up_k u18 (by decide) (h2))); omega) (by have := ((by decide : (1 : Int32).toInt = 1) : ((1 : Int32)).toInt = 1); have := congrArg Int32.toInt (show FI17 121 67 = x4 from (up_k u18 (by decide) (h5))); have := congrArg Int32.toInt (show FI17 121 68 = x1 from (up_k u18 (by decide) (h2))); omega) (by have := ((by decide : (1 : Int32).toInt = 1) : ((1 : Int32)).toInt = 1); have := congrArg Int32.toInt (show FI17 121 68 = x1 from (up_k u18 (by decide) (h2))); omega) (by have := ((by decide : (1 : Int32).toInt = 1) : ((1 : Int32)).toInt = 1); have := congrArg Int32.toInt (show FI17 121 68 = x1 from (up_k u18 (by decide) (h2))); have := congrArg Int32.toInt (show FI17 121 73 = x7 from (up_k u18 (by decide) (h8))); have := congrArg Int32.toInt (show FI17 121 90 = (0 : Int32) from up_eq u18); have := ((by decide : (0 : Int32).toInt = 0) : ((0 : Int32)).toInt = 0); omega) (by have := ((by decide : (1 : Int32).toInt = 1) : ((1 : Int32)).toInt = 1); have := congrArg Int32.toInt (show FI17 121 73 = x7 from (up_k u18 (by decide) (h8))); omega) (by have := ((by decide : (1 : Int32).toInt = 1) : ((1 : Int32)).toInt = 1); have := congrArg Int32.toInt (show FI17 121 69 = x10 from (up_k u18 (by decide) (h11))); omega) (by have := ((by decide : (1 : Int32).toInt = 1) : ((1 : Int32)).toInt = 1); have := congrArg Int32.toInt (show FI17 121 71 = x12 from (up_k u18 (by decide) (h13))); omega) (by have := ((by decide : (1 : Int32).toInt = 1) : ((1 : Int32)).toInt = 1); omega) (show ch_inv (kf (FI 149)) (wf (FL 150)) (FI 121 68).toInt.toNat (FI 121 71).toInt ((FI17 121 68).toInt).toNat 1 (sk (FI17 166) ((FI17 121 90).toInt).toNat) (FI17 121 71).toInt from (by have := ((by decide : (1 : Int32).toInt = 1) : ((1 : Int32)).toInt = 1); have := congrArg Int32.toInt (show FI17 121 68 = x1 from (up_k u18 (by decide) (h2))); have := congrArg Int32.toInt (show FI17 121 71 = x12 from (up_k u18 (by decide) (h13))); have := congrArg Int32.toInt (show FI17 121 90 = (0 : Int32) from up_eq u18); have := ((by decide : (0 : Int32).toInt = 0) : ((0 : Int32)).toInt = 0); exact (by rw [show (FI17 121 90).toInt.toNat = 0 by omega, show (FI17 121 68).toInt.toNat = (FI 121 68).toInt.toNat by omega, show (FI17 121 71).toInt = (FI 121 71).toInt by omega]; exact ch_0))) (show (FI17 121 73).toInt + 4 * (FI17 121 90).toInt - 3 * (au_q (sk (FI17 166) ((FI17 121 90).toInt).toNat) : Int) - 4 * wp (FI 151) (FI17 121 68) ≤ (FI 121 73).toInt - 4 * wp (FI 151) (FI 121 68) from (by have := ((by decide : (1 : Int32).toInt = 1) : ((1 : Int32)).toInt = 1); have := congrArg Int32.toInt (show FI17 121 73 = x7 from (up_k u18 (by decide) (h8))); have := congrArg Int32.toInt (show FI17 121 90 = (0 : Int32) from up_eq u18); have := ((by decide : (0 : Int32).toInt = 0) : ((0 : Int32)).toInt = 0); exact (by rw [show (FI17 121 90).toInt.toNat = 0 by omega, show FI17 121 68 = FI 121 68 from ((up_k u18 (by decide) (h2))).trans (h2).symm]; simp only [sk, au_q]; omega))) (show FI17 149 = FI 149 from (up_row u18 (by decide) (rfl))) (show FI17 151 = FI 151 from (up_row u18 (by decide) (rfl))) (by have := ((by decide : (1 : Int32).toInt = 1) : ((1 : Int32)).toInt = 1); have := congrArg Int32.toInt (show FI17 121 68 = x1 from (up_k u18 (by decide) (h2))); omega)) ⟨rfl, rfl, trivial⟩
end
section
/-! THE LANGUAGE's places, locations and rows over tokens, as means walks them. -/
def gr_br (K W : Nat → Int) (p : Nat) : Prop := K p = 5 ∧ W p = 91
def gr_cm (K W : Nat → Int) (p : Nat) : Prop := K p = 5 ∧ W p = 44
def gr_pl (K W : Nat → Int) (p q : Nat) : Prop :=
  (gr_br K W p ∧ ∃ e, au_acc K W (p + 1) e ∧ q = e + 1) ∨
  (¬ gr_br K W p ∧ W p = 0 ∧ K (p + 1) = 3 ∧ W (p + 1) ≤ 31 ∧ q = p + 2) ∨
  (¬ gr_br K W p ∧ W p = 1 ∧ au_acc K W (p + 1) q) ∨
  (¬ gr_br K W p ∧ W p = 2 ∧ p + 1 ≤ q ∧ (∀ i, p < i → i < q → K i = 3) ∧ K q ≠ 3 ∧ q ≤ p + 65) ∨
  (¬ gr_br K W p ∧ W p = 3 ∧ q = p + 1)
def gr_pts (K W : Nat → Int) : Nat → Nat → Nat → Prop
  | 0, _, _ => False
  | n + 1, p, q => ∃ e, gr_pl K W p e ∧ ((n = 0 ∧ ¬ gr_cm K W (e + 2) ∧ q = e + 3) ∨ (n ≠ 0 ∧ gr_cm K W (e + 2) ∧ gr_pts K W n (e + 3) q))
def gr_pf (K W : Nat → Int) : Nat → Nat → Nat → Prop
  | 0, p, q => p = q
  | n + 1, p, q => ∃ e, gr_pl K W p e ∧ gr_cm K W (e + 2) ∧ gr_pf K W n (e + 3) q
def gr_cu (K W : Nat → Int) (p : Nat) : Prop := K p = 5 ∧ W p = 123
def gr_loc (K W : Nat → Int) (p q : Nat) : Prop := (¬ gr_cu K W p ∧ gr_pl K W p q) ∨ (gr_cu K W p ∧ ∃ n, n ≤ 8 ∧ gr_pts K W n (p + 1) q)
def gr_rws (K W : Nat → Int) : Nat → Nat → Nat → Prop
  | 0, p, q => p = q
  | n + 1, p, q => ∃ e, gr_loc K W (p + 4) e ∧ gr_rws K W n (e + 1) q
def gr_var (K W : Nat → Int) (r s T : Nat) : Prop := (r = 0 ∧ ∃ q, q < T ∧ gr_loc K W s q) ∨ (r ≠ 0 ∧ ∃ q, q ≤ T ∧ gr_rws K W r s q)
theorem gr_pf_snoc {K W : Nat → Int} : ∀ {n p q e : Nat}, gr_pf K W n p q → gr_pl K W q e → gr_cm K W (e + 2) → gr_pf K W (n + 1) p (e + 3)
  | 0, p, q, e, h, h1, h2 => by cases h; exact ⟨e, h1, h2, rfl⟩
  | n + 1, p, q, e, h, h1, h2 => by
    obtain ⟨e0, g1, g2, g3⟩ := h
    exact ⟨e0, g1, g2, gr_pf_snoc g3 h1 h2⟩
theorem gr_pf_end {K W : Nat → Int} : ∀ {n p q e : Nat}, gr_pf K W n p q → gr_pl K W q e → ¬ gr_cm K W (e + 2) → gr_pts K W (n + 1) p (e + 3)
  | 0, p, q, e, h, h1, h2 => by cases h; exact ⟨e, h1, Or.inl ⟨rfl, h2, rfl⟩⟩
  | n + 1, p, q, e, h, h1, h2 => by
    obtain ⟨e0, g1, g2, g3⟩ := h
    exact ⟨e0, g1, Or.inr ⟨by omega, g2, gr_pf_end g3 h1 h2⟩⟩
theorem gr_rws_snoc {K W : Nat → Int} : ∀ {n p q e : Nat}, gr_rws K W n p q → gr_loc K W (q + 4) e → gr_rws K W (n + 1) p (e + 1)
  | 0, p, q, e, h, h1 => by cases h; exact ⟨e, h1, rfl⟩
  | n + 1, p, q, e, h, h1 => by
    obtain ⟨e0, g1, g2⟩ := h
    exact ⟨e0, g1, gr_rws_snoc g2 h1⟩
theorem au_acc_le {K W : Nat → Int} {p q : Nat} (h : au_acc K W p q) : p ≤ q := by
  obtain ⟨n, l, h1, -⟩ := h; exact au_rch_le _ _ _ _ _ _ _ h1
theorem gr_pl_lt {K W : Nat → Int} {p q : Nat} (h : gr_pl K W p q) : p < q := by
  rcases h with ⟨-, e, h, rfl⟩ | ⟨-, -, -, -, rfl⟩ | ⟨-, -, h⟩ | ⟨-, -, h, -⟩ | ⟨-, -, rfl⟩
  · have := au_acc_le h; omega
  · omega
  · have := au_acc_le h; omega
  · omega
  · omega
theorem gr_pts_lt {K W : Nat → Int} : ∀ {n p q : Nat}, gr_pts K W n p q → p < q
  | 0, _, _, h => h.elim
  | n + 1, p, q, h => by
    obtain ⟨e, g1, g2⟩ := h
    have := gr_pl_lt g1
    rcases g2 with ⟨-, -, rfl⟩ | ⟨-, -, g⟩
    · omega
    · have := gr_pts_lt g; omega
theorem gr_loc_lt {K W : Nat → Int} {p q : Nat} (h : gr_loc K W p q) : p < q := by
  rcases h with ⟨-, h⟩ | ⟨-, n, -, h⟩
  · exact gr_pl_lt h
  · have := gr_pts_lt h; omega
theorem gr_rws_le {K W : Nat → Int} : ∀ {n p q : Nat}, gr_rws K W n p q → p ≤ q
  | 0, _, _, h => Nat.le_of_eq h
  | n + 1, p, q, h => by
    obtain ⟨e, g1, g2⟩ := h
    have := gr_loc_lt g1
    have := gr_rws_le g2
    omega
/-! the same over other arrays that agree below T -/
section TR
variable {K W K' W' : Nat → Int} {T : Nat}
theorem au_st_tr (h : ∀ i, i < T → K' i = K i ∧ W' i = W i) {p q : Nat} {a b : Bool} {l m : List Int} (hq : q ≤ T) (hs : au_st K W p a l q b m) : au_st K' W' p a l q b m := by
  have hp := au_st_lt hs
  unfold au_st at hs ⊢
  rw [(h p (by omega)).1, (h p (by omega)).2]
  rcases hs with hs | hs | hs | hs | hs | hs | hs | hs
  · exact Or.inl hs
  · exact Or.inr (Or.inl hs)
  · exact Or.inr (Or.inr (Or.inl hs))
  · refine Or.inr (Or.inr (Or.inr (Or.inl ?_)))
    rw [(h (p + 1) (by omega)).1, (h (p + 1) (by omega)).2]; exact hs
  · exact Or.inr (Or.inr (Or.inr (Or.inr (Or.inl hs))))
  · exact Or.inr (Or.inr (Or.inr (Or.inr (Or.inr (Or.inl hs)))))
  · exact Or.inr (Or.inr (Or.inr (Or.inr (Or.inr (Or.inr (Or.inl hs))))))
  · exact Or.inr (Or.inr (Or.inr (Or.inr (Or.inr (Or.inr (Or.inr hs))))))
theorem au_rch_tr (h : ∀ i, i < T → K' i = K i ∧ W' i = W i) : ∀ (n p : Nat) (a : Bool) (l : List Int) (q : Nat) (b : Bool) (m : List Int), q ≤ T → au_rch K W n p a l q b m → au_rch K' W' n p a l q b m
  | 0, _, _, _, _, _, _, _, hr => hr
  | n + 1, p, a, l, q, b, m, hq, hr => by
    obtain ⟨p1, a1, l1, g1, g2, g3⟩ := hr
    have := au_rch_le _ _ _ _ _ _ _ g3
    exact ⟨p1, a1, l1, au_st_tr h (by omega) g1, g2, au_rch_tr h n _ _ _ _ _ _ hq g3⟩
theorem au_acc_tr (h : ∀ i, i < T → K' i = K i ∧ W' i = W i) {p q : Nat} (hq : q < T) (ha : au_acc K W p q) : au_acc K' W' p q := by
  obtain ⟨n, l, h1, h2, h3, h4⟩ := ha
  refine ⟨n, l, au_rch_tr h _ _ _ _ _ _ _ (by omega) h1, ?_, ?_, h4⟩
  · rw [(h q hq).1, (h q hq).2]; exact h2
  · rw [(h q hq).1, (h q hq).2]; exact h3
theorem gr_pl_tr (h : ∀ i, i < T → K' i = K i ∧ W' i = W i) {p q : Nat} (hq : q < T) (hs : gr_pl K W p q) : gr_pl K' W' p q := by
  have hp := gr_pl_lt hs
  have hb : gr_br K' W' p ↔ gr_br K W p := by unfold gr_br; rw [(h p (by omega)).1, (h p (by omega)).2]
  have hw := (h p (by omega)).2
  unfold gr_pl at hs ⊢
  rw [hb, hw]
  rcases hs with ⟨h1, e, h2, h3⟩ | ⟨h0, h1, h2, h3, h4⟩ | ⟨h0, h1, h2⟩ | ⟨h0, h1, h2, h3, h4, h5⟩ | h0
  · exact Or.inl ⟨h1, e, au_acc_tr h (by omega) h2, h3⟩
  · exact Or.inr (Or.inl ⟨h0, h1, by rw [(h (p + 1) (by omega)).1]; exact h2, by rw [(h (p + 1) (by omega)).2]; exact h3, h4⟩)
  · exact Or.inr (Or.inr (Or.inl ⟨h0, h1, au_acc_tr h hq h2⟩))
  · exact Or.inr (Or.inr (Or.inr (Or.inl ⟨h0, h1, h2, fun i g1 g2 => by rw [(h i (by omega)).1]; exact h3 i g1 g2, by rw [(h q hq).1]; exact h4, h5⟩)))
  · exact Or.inr (Or.inr (Or.inr (Or.inr h0)))
theorem gr_pts_tr (h : ∀ i, i < T → K' i = K i ∧ W' i = W i) : ∀ {n p q : Nat}, q < T → gr_pts K W n p q → gr_pts K' W' n p q
  | 0, _, _, _, hs => hs
  | n + 1, p, q, hq, hs => by
    obtain ⟨e, g1, g2⟩ := hs
    rcases g2 with ⟨z, g3, rfl⟩ | ⟨z, g3, g4⟩
    · exact ⟨e, gr_pl_tr h (by omega) g1, Or.inl ⟨z, by unfold gr_cm; rw [(h (e + 2) (by omega)).1, (h (e + 2) (by omega)).2]; exact g3, rfl⟩⟩
    · have := gr_pts_lt g4
      exact ⟨e, gr_pl_tr h (by omega) g1, Or.inr ⟨z, by unfold gr_cm; rw [(h (e + 2) (by omega)).1, (h (e + 2) (by omega)).2]; exact g3, gr_pts_tr h hq g4⟩⟩
theorem gr_loc_tr (h : ∀ i, i < T → K' i = K i ∧ W' i = W i) {p q : Nat} (hq : q < T) (hs : gr_loc K W p q) : gr_loc K' W' p q := by
  have hp := gr_loc_lt hs
  have hb : gr_cu K' W' p ↔ gr_cu K W p := by unfold gr_cu; rw [(h p (by omega)).1, (h p (by omega)).2]
  unfold gr_loc at hs ⊢
  rw [hb]
  rcases hs with ⟨h1, h2⟩ | ⟨h1, n, h2, h3⟩
  · exact Or.inl ⟨h1, gr_pl_tr h hq h2⟩
  · exact Or.inr ⟨h1, n, h2, gr_pts_tr h hq h3⟩
theorem gr_rws_tr (h : ∀ i, i < T → K' i = K i ∧ W' i = W i) : ∀ {n p q : Nat}, q ≤ T → gr_rws K W n p q → gr_rws K' W' n p q
  | 0, _, _, _, hs => hs
  | n + 1, p, q, hq, hs => by
    obtain ⟨e, g1, g2⟩ := hs
    have := gr_rws_le g2
    exact ⟨e, gr_loc_tr h (by omega) g1, gr_rws_tr h hq g2⟩
theorem gr_var_tr (h : ∀ i, i < T → K' i = K i ∧ W' i = W i) {r s : Nat} (hs : gr_var K W r s T) : gr_var K' W' r s T := by
  rcases hs with ⟨h1, q, h2, h3⟩ | ⟨h1, q, h2, h3⟩
  · exact Or.inl ⟨h1, q, h2, gr_loc_tr h h2 h3⟩
  · exact Or.inr ⟨h1, q, h2, gr_rws_tr h h2 h3⟩
end TR
end
section
theorem wp_nc {T t u : Int32} {k a : Nat → Int32} {w : Nat → Int64} (h : rl_w T k w a) (hh : 0 ≤ t.toInt ∧ t.toInt ≤ u.toInt ∧ u.toInt < T.toInt) : wp a t + (u.toInt - t.toInt) ≤ wp a u := wp_n h hh.1 hh.2.1 hh.2.2
theorem wp_vc {T t u : Int32} {k a : Nat → Int32} {w : Nat → Int64} (h : rl_w T k w a) (hh : 0 ≤ t.toInt ∧ u.toInt = t.toInt + 1 ∧ u.toInt < T.toInt) : wp a t + wl (kf k t.toInt.toNat) (wf w t.toInt.toNat) ≤ wp a u := wp_v h hh.1 hh.2.1 hh.2.2
end
section
def nX12_isPlace : Nat := 0xac030400a7040700991702b6062a0b009a1702b6052a13009a1702b6042a1b009a1702b6032a23009ae401b65b102a
theorem bX12_isPlace : cX12_isPlace.data.toList.map UInt8.toNat = x_un nX12_isPlace 47 := by decide +kernel
def iX12_isPlace : List (Nat × Jvm.ClassFile.Instr × Nat) := [(0, .aload_n 0, 1), (1, .bipush 91, 2), (3, .invokevirtual 484, 3), (6, .ifCond .ne 35, 3), (9, .aload_n 0, 1), (10, .iconst 0, 1), (11, .invokevirtual 535, 3), (14, .ifCond .ne 27, 3), (17, .aload_n 0, 1), (18, .iconst 1, 1), (19, .invokevirtual 535, 3), (22, .ifCond .ne 19, 3), (25, .aload_n 0, 1), (26, .iconst 2, 1), (27, .invokevirtual 535, 3), (30, .ifCond .ne 11, 3), (33, .aload_n 0, 1), (34, .iconst 3, 1), (35, .invokevirtual 535, 3), (38, .ifCond .eq 7, 3), (41, .iconst 1, 1), (42, .goto 4, 3), (45, .iconst 0, 1), (46, .ireturn, 1)]
theorem dX12_isPlace : x_il nX12_isPlace 47 iX12_isPlace = true := by decide +kernel
theorem aX12_isPlace (k : Nat) {pc : Nat} {i : Jvm.ClassFile.Instr} {len : Nat} (hk : iX12_isPlace[k]? = some (pc, i, len)) : x_at xMM 228 pc i len yX12_isPlace 1 (some .boolean) := ⟨cX12_isPlace, rfl, x_il_ok bX12_isPlace dX12_isPlace k hk⟩
set_option maxHeartbeats 4000000 in
set_option maxRecDepth 100000 in
theorem n_isPlace {zk : xK} {base d n sl : Nat} {SH : Nat → Nat × Nat} {FI : Nat → Nat → Int32} {FL : Nat → Nat → Int64} {FR : Nat → Nat → Option Nat} (hS : h_S n SH) (hF : h_FR FR) (hI : g_I FI) (g0 : (FI 121 68).toInt ≤ (FI 121 67).toInt - 1) (rel_tend : rl_e (FI 149) (FI 121 67)) : hw zk base (d + 1) none 228 0 [(0, .ref (base + 121))] [] (n, sl, SH, FI, FL, FR) (h_I (fun r s => s = (n, sl, SH, FI, FL, FR) ∧ (r.toInt = 1 → (FI 121 68).toInt < (FI 121 67).toInt - 1) ∧ (0 ≤ r.toInt ∧ r.toInt ≤ 1) ∧ ((r.toInt = 1 ↔ ((kf (FI 149) (FI 121 68).toInt.toNat = 5 ∧ wf (FL 150) (FI 121 68).toInt.toNat = 91) ∨ (kf (FI 149) (FI 121 68).toInt.toNat = 2 ∧ (wf (FL 150) (FI 121 68).toInt.toNat = 0 ∨ wf (FL 150) (FI 121 68).toInt.toNat = 1 ∨ wf (FL 150) (FI 121 68).toInt.toNat = 2 ∨ wf (FL 150) (FI 121 68).toInt.toNat = 3))))))) := by
  obtain ⟨x1, h2⟩ : ∃ y, FI 121 68 = y := ⟨_, rfl⟩
  have h2l := congrArg Int32.toInt h2
  have b3 := gI_121_68 hI; rw [h2] at b3
  obtain ⟨x4, h5⟩ : ∃ y, FI 121 67 = y := ⟨_, rfl⟩
  have h5l := congrArg Int32.toInt h5
  have b6 := gI_121_67 hI; rw [h5] at b6
  refine hw_aloadn (aX12_isPlace 0 rfl) rfl ?_
  refine hw_bp (v := (91 : Int32)) (aX12_isPlace 1 rfl) (by decide) ?_
  refine hw_callV (Bs := [.int ((91 : Int32))]) (rest := []) (aX12_isPlace 2 rfl) wc_RX12_484 (by decide) rfl wi_yX12_isSign wv_yX12_isSign (c121 hS) (s121 hS) rfl rfl rfl (Nat.le_of_ble_eq_true rfl) (Nat.le_of_ble_eq_true rfl) (n_isSign (d := d) hS hF hI ((91 : Int32)) (by have := congrArg Int32.toInt (show FI 121 68 = x1 from h2); have := congrArg Int32.toInt (show FI 121 67 = x4 from h5); omega) (show rl_e (FI 149) (FI 121 67) from rel_tend)) (fun v7 sv8 p9 => ?_)
  have := congrArg Int32.toInt (show FI 121 68 = x1 from h2)
  have := congrArg Int32.toInt (show FI 121 67 = x4 from h5)
  obtain ⟨r10, rfl, rfl, t12, t13, u14⟩ := p9
  show hw zk base _ _ _ _ _ [.int (r10)] _ _
  refine hw_ifne (tgt := 41) (aX12_isPlace 3 rfl) (by decide) rfl (fun cd15 => ?_) (fun cd15 => ?_)
  · replace t12 := t12 (by omega)
    refine hw_ic (v := (1 : Int32)) (aX12_isPlace 20 rfl) (by decide) ?_
    refine xw_goto (tgt := 46) (aX12_isPlace 21 rfl) (by decide) ?_
    refine xw_iret (aX12_isPlace 23 rfl) rfl (by decide) ?_
    have e16 : ((1 : Int32)).toInt = 1 := (by decide : (1 : Int32).toInt = 1)
    exact ⟨(1 : Int32), rfl, rfl, (by have : ((1 : Int32)).toInt = 1 := (by decide); omega), (by have : ((1 : Int32)).toInt = 1 := (by decide); omega), (by have hz : (((1 : Int32))).toInt = 1 := (by decide : (1 : Int32).toInt = 1); have q91 := u14; rw [show ((91 : Int32)).toInt = (91 : Int) from by decide] at q91; omega)⟩
  · clear t12
    refine hw_aloadn (aX12_isPlace 4 rfl) rfl ?_
    refine hw_ic (v := (0 : Int32)) (aX12_isPlace 5 rfl) (by decide) ?_
    refine hw_callV (Bs := [.int ((0 : Int32))]) (rest := []) (aX12_isPlace 6 rfl) wc_RX12_535 (by decide) rfl wi_yX12_isWord wv_yX12_isWord (c121 hS) (s121 hS) rfl rfl rfl (Nat.le_of_ble_eq_true rfl) (Nat.le_of_ble_eq_true rfl) (n_isWord (d := d) hS hF hI ((0 : Int32)) (by have := congrArg Int32.toInt (show FI 121 68 = x1 from h2); have := congrArg Int32.toInt (show FI 121 67 = x4 from h5); omega) (show rl_e (FI 149) (FI 121 67) from rel_tend)) (fun v17 sv18 p19 => ?_)
    have := congrArg Int32.toInt (show FI 121 68 = x1 from h2)
    have := congrArg Int32.toInt (show FI 121 67 = x4 from h5)
    obtain ⟨r20, rfl, rfl, t22, t23, u24⟩ := p19
    show hw zk base _ _ _ _ _ [.int (r20)] _ _
    refine hw_ifne (tgt := 41) (aX12_isPlace 7 rfl) (by decide) rfl (fun cd25 => ?_) (fun cd25 => ?_)
    · replace t22 := t22 (by omega)
      refine hw_ic (v := (1 : Int32)) (aX12_isPlace 20 rfl) (by decide) ?_
      refine xw_goto (tgt := 46) (aX12_isPlace 21 rfl) (by decide) ?_
      refine xw_iret (aX12_isPlace 23 rfl) rfl (by decide) ?_
      have e26 : ((1 : Int32)).toInt = 1 := (by decide : (1 : Int32).toInt = 1)
      exact ⟨(1 : Int32), rfl, rfl, (by have : ((1 : Int32)).toInt = 1 := (by decide); omega), (by have : ((1 : Int32)).toInt = 1 := (by decide); omega), (by have hz : (((1 : Int32))).toInt = 1 := (by decide : (1 : Int32).toInt = 1); have q91 := u14; rw [show ((91 : Int32)).toInt = (91 : Int) from by decide] at q91; have q0 := u24; rw [show ((0 : Int32)).toInt = (0 : Int) from by decide] at q0; omega)⟩
    · clear t22
      refine hw_aloadn (aX12_isPlace 8 rfl) rfl ?_
      refine hw_ic (v := (1 : Int32)) (aX12_isPlace 9 rfl) (by decide) ?_
      refine hw_callV (Bs := [.int ((1 : Int32))]) (rest := []) (aX12_isPlace 10 rfl) wc_RX12_535 (by decide) rfl wi_yX12_isWord wv_yX12_isWord (c121 hS) (s121 hS) rfl rfl rfl (Nat.le_of_ble_eq_true rfl) (Nat.le_of_ble_eq_true rfl) (n_isWord (d := d) hS hF hI ((1 : Int32)) (by have := congrArg Int32.toInt (show FI 121 68 = x1 from h2); have := congrArg Int32.toInt (show FI 121 67 = x4 from h5); omega) (show rl_e (FI 149) (FI 121 67) from rel_tend)) (fun v27 sv28 p29 => ?_)
      have := congrArg Int32.toInt (show FI 121 68 = x1 from h2)
      have := congrArg Int32.toInt (show FI 121 67 = x4 from h5)
      obtain ⟨r30, rfl, rfl, t32, t33, u34⟩ := p29
      show hw zk base _ _ _ _ _ [.int (r30)] _ _
      refine hw_ifne (tgt := 41) (aX12_isPlace 11 rfl) (by decide) rfl (fun cd35 => ?_) (fun cd35 => ?_)
      · replace t32 := t32 (by omega)
        refine hw_ic (v := (1 : Int32)) (aX12_isPlace 20 rfl) (by decide) ?_
        refine xw_goto (tgt := 46) (aX12_isPlace 21 rfl) (by decide) ?_
        refine xw_iret (aX12_isPlace 23 rfl) rfl (by decide) ?_
        have e36 : ((1 : Int32)).toInt = 1 := (by decide : (1 : Int32).toInt = 1)
        exact ⟨(1 : Int32), rfl, rfl, (by have : ((1 : Int32)).toInt = 1 := (by decide); omega), (by have : ((1 : Int32)).toInt = 1 := (by decide); omega), (by have hz : (((1 : Int32))).toInt = 1 := (by decide : (1 : Int32).toInt = 1); have q91 := u14; rw [show ((91 : Int32)).toInt = (91 : Int) from by decide] at q91; have q0 := u24; rw [show ((0 : Int32)).toInt = (0 : Int) from by decide] at q0; have q1 := u34; rw [show ((1 : Int32)).toInt = (1 : Int) from by decide] at q1; omega)⟩
      · clear t32
        refine hw_aloadn (aX12_isPlace 12 rfl) rfl ?_
        refine hw_ic (v := (2 : Int32)) (aX12_isPlace 13 rfl) (by decide) ?_
        refine hw_callV (Bs := [.int ((2 : Int32))]) (rest := []) (aX12_isPlace 14 rfl) wc_RX12_535 (by decide) rfl wi_yX12_isWord wv_yX12_isWord (c121 hS) (s121 hS) rfl rfl rfl (Nat.le_of_ble_eq_true rfl) (Nat.le_of_ble_eq_true rfl) (n_isWord (d := d) hS hF hI ((2 : Int32)) (by have := congrArg Int32.toInt (show FI 121 68 = x1 from h2); have := congrArg Int32.toInt (show FI 121 67 = x4 from h5); omega) (show rl_e (FI 149) (FI 121 67) from rel_tend)) (fun v37 sv38 p39 => ?_)
        have := congrArg Int32.toInt (show FI 121 68 = x1 from h2)
        have := congrArg Int32.toInt (show FI 121 67 = x4 from h5)
        obtain ⟨r40, rfl, rfl, t42, t43, u44⟩ := p39
        show hw zk base _ _ _ _ _ [.int (r40)] _ _
        refine hw_ifne (tgt := 41) (aX12_isPlace 15 rfl) (by decide) rfl (fun cd45 => ?_) (fun cd45 => ?_)
        · replace t42 := t42 (by omega)
          refine hw_ic (v := (1 : Int32)) (aX12_isPlace 20 rfl) (by decide) ?_
          refine xw_goto (tgt := 46) (aX12_isPlace 21 rfl) (by decide) ?_
          refine xw_iret (aX12_isPlace 23 rfl) rfl (by decide) ?_
          have e46 : ((1 : Int32)).toInt = 1 := (by decide : (1 : Int32).toInt = 1)
          exact ⟨(1 : Int32), rfl, rfl, (by have : ((1 : Int32)).toInt = 1 := (by decide); omega), (by have : ((1 : Int32)).toInt = 1 := (by decide); omega), (by have hz : (((1 : Int32))).toInt = 1 := (by decide : (1 : Int32).toInt = 1); have q91 := u14; rw [show ((91 : Int32)).toInt = (91 : Int) from by decide] at q91; have q0 := u24; rw [show ((0 : Int32)).toInt = (0 : Int) from by decide] at q0; have q1 := u34; rw [show ((1 : Int32)).toInt = (1 : Int) from by decide] at q1; have q2 := u44; rw [show ((2 : Int32)).toInt = (2 : Int) from by decide] at q2; omega)⟩
        · clear t42
          refine hw_aloadn (aX12_isPlace 16 rfl) rfl ?_
          refine hw_ic (v := (3 : Int32)) (aX12_isPlace 17 rfl) (by decide) ?_
          refine hw_callV (Bs := [.int ((3 : Int32))]) (rest := []) (aX12_isPlace 18 rfl) wc_RX12_535 (by decide) rfl wi_yX12_isWord wv_yX12_isWord (c121 hS) (s121 hS) rfl rfl rfl (Nat.le_of_ble_eq_true rfl) (Nat.le_of_ble_eq_true rfl) (n_isWord (d := d) hS hF hI ((3 : Int32)) (by have := congrArg Int32.toInt (show FI 121 68 = x1 from h2); have := congrArg Int32.toInt (show FI 121 67 = x4 from h5); omega) (show rl_e (FI 149) (FI 121 67) from rel_tend)) (fun v47 sv48 p49 => ?_)
          have := congrArg Int32.toInt (show FI 121 68 = x1 from h2)
          have := congrArg Int32.toInt (show FI 121 67 = x4 from h5)
          obtain ⟨r50, rfl, rfl, t52, t53, u54⟩ := p49
          show hw zk base _ _ _ _ _ [.int (r50)] _ _
          refine hw_ifeq (tgt := 45) (aX12_isPlace 19 rfl) (by decide) rfl (fun cd55 => ?_) (fun cd55 => ?_)
          · clear t52
            refine hw_ic (v := (0 : Int32)) (aX12_isPlace 22 rfl) (by decide) ?_
            refine xw_iret (aX12_isPlace 23 rfl) rfl (by decide) ?_
            have e56 : ((0 : Int32)).toInt = 0 := (by decide : (0 : Int32).toInt = 0)
            exact ⟨(0 : Int32), rfl, rfl, (by have : ((0 : Int32)).toInt = 0 := (by decide); omega), (by have : ((0 : Int32)).toInt = 0 := (by decide); omega), (by have hz : (((0 : Int32))).toInt = 0 := (by decide : (0 : Int32).toInt = 0); have q91 := u14; rw [show ((91 : Int32)).toInt = (91 : Int) from by decide] at q91; have q0 := u24; rw [show ((0 : Int32)).toInt = (0 : Int) from by decide] at q0; have q1 := u34; rw [show ((1 : Int32)).toInt = (1 : Int) from by decide] at q1; have q2 := u44; rw [show ((2 : Int32)).toInt = (2 : Int) from by decide] at q2; have q3 := u54; rw [show ((3 : Int32)).toInt = (3 : Int) from by decide] at q3; omega)⟩
          · replace t52 := t52 (by omega)
            refine hw_ic (v := (1 : Int32)) (aX12_isPlace 20 rfl) (by decide) ?_
            refine xw_goto (tgt := 46) (aX12_isPlace 21 rfl) (by decide) ?_
            refine xw_iret (aX12_isPlace 23 rfl) rfl (by decide) ?_
            have e57 : ((1 : Int32)).toInt = 1 := (by decide : (1 : Int32).toInt = 1)
            exact ⟨(1 : Int32), rfl, rfl, (by have : ((1 : Int32)).toInt = 1 := (by decide); omega), (by have : ((1 : Int32)).toInt = 1 := (by decide); omega), (by have hz : (((1 : Int32))).toInt = 1 := (by decide : (1 : Int32).toInt = 1); have q91 := u14; rw [show ((91 : Int32)).toInt = (91 : Int) from by decide] at q91; have q0 := u24; rw [show ((0 : Int32)).toInt = (0 : Int) from by decide] at q0; have q1 := u34; rw [show ((1 : Int32)).toInt = (1 : Int) from by decide] at q1; have q2 := u44; rw [show ((2 : Int32)).toInt = (2 : Int) from by decide] at q2; have q3 := u54; rw [show ((3 : Int32)).toInt = (3 : Int) from by decide] at q3; omega)⟩
end
