section
set_option maxHeartbeats 4000000 in
set_option maxRecDepth 100000 in
theorem k_feedFour2 {sk : xK} {base d n sl : Nat} {SH : Nat → Nat × Nat} {FI : Nat → Nat → Int32} {FL : Nat → Nat → Int64} {FR : Nat → Nat → Option Nat} (hS : h_S n SH) (hF : h_FR FR) (hI : g_I FI) (hR : g_R n SH FR) (a1 : Int32) (g0 : (FI 0 9).toInt + 4 ≤ 1000) : hw sk base d none 119 0 [(0, .ref (base + 0)), (1, .int (a1))] [] (n, sl, SH, FI, FL, FR) (h_V (fun s => ∃ FI', s = (n, sl, SH, FI', FL, FR) ∧ g_I FI' ∧ g_fr n (shd SH) [(0, 9)] [19] [] FI FI' ∧ ((FI' 0 9).toInt = (FI 0 9).toInt + 4))) := by
  have rg_a1 := i_rng a1
  obtain ⟨x1, h2⟩ : ∃ y, FI 0 9 = y := ⟨_, rfl⟩
  have h2l := congrArg Int32.toInt h2
  have b3 := gI_0_9 hI; rw [h2] at b3
  refine hw_bp (v := (24 : Int32)) (aX11_feedFour 0 rfl) (by decide) ?_
  refine xw_istoren (L2 := [(2, .int ((24 : Int32))), (0, .ref (base + 0)), (1, .int (a1))]) (aX11_feedFour 1 rfl) (by decide) rfl ?_
  have lp9 : ∀ (m : Nat) (y2 : Int32) (FIv4 : Nat → Nat → Int32), (g_fr n (shd SH) [(0, 9)] [19] [] FI FIv4) → (g_I FIv4) → (-8 ≤ (y2).toInt ∧ (y2).toInt ≤ 24) → (8 * ((FIv4 0 9).toInt - (FI 0 9).toInt) = 24 - (y2).toInt) → (y2).toInt + 8 < m → hw sk base d none 119 3 [(2, .int (y2)), (0, .ref (base + 0)), (1, .int (a1))] [] (n, sl, SH, FIv4, FL, FR) (h_V (fun s => ∃ FI', s = (n, sl, SH, FI', FL, FR) ∧ g_I FI' ∧ g_fr n (shd SH) [(0, 9)] [19] [] FI FI' ∧ ((FI' 0 9).toInt = (FI 0 9).toInt + 4))) := by
    intro m
    induction m with
    | zero => intro y2 FIv4 fr5 hI6 iv7 iv8 hm; omega
    | succ m ih =>
      intro y2 FIv4 fr5 hI6 iv7 iv8 hm
      have rg_y2 := i_rng y2
      obtain ⟨x10, h11⟩ : ∃ y, FIv4 0 9 = y := ⟨_, rfl⟩
      have h11l := congrArg Int32.toInt h11
      have b12 := gI_0_9 hI6; rw [h11] at b12
      refine xw_iloadn (aX11_feedFour 2 rfl) rfl ?_
      refine hw_iflt (tgt := 49) (aX11_feedFour 3 rfl) (by decide) rfl (fun cd13 => ?_) (fun cd13 => ?_)
      · refine xw_vret (aX11_feedFour 26 rfl) rfl ?_
        exact ⟨rfl, FIv4, rfl, hI6, fr5, (by have := congrArg Int32.toInt (show FIv4 0 9 = x10 from h11); omega)⟩
      · refine hw_aloadn (aX11_feedFour 4 rfl) rfl ?_
        refine hw_get (v := .int (x10)) (aX11_feedFour 5 rfl) wf_RX11_69 (c0 hS) (s0 hS) (by decide) (congrArg Value.int (show FIv4 0 9 = x10 from h11)) ?_
        refine hw_sp (v := (1000 : Int32)) (aX11_feedFour 6 rfl) (by decide) ?_
        refine hw_icge (tgt := 49) (aX11_feedFour 7 rfl) (by decide) rfl (by decide : (1000 : Int32).toInt = 1000) (fun cd14 => ?_) (fun cd14 => ?_)
        · refine xw_vret (aX11_feedFour 26 rfl) rfl ?_
          exact ⟨rfl, FIv4, rfl, hI6, fr5, (by have := congrArg Int32.toInt (show FIv4 0 9 = x10 from h11); omega)⟩
        · refine hw_aloadn (aX11_feedFour 8 rfl) rfl ?_
          refine hw_get (v := .ref (base + 19)) (aX11_feedFour 9 rfl) wf_RX11_16 (c0 hS) (s0 hS) (by decide) (congrArg (fun r => va_rf (h_rf base r)) (r0_6 hF)) ?_
          refine hw_aloadn (aX11_feedFour 10 rfl) rfl ?_
          refine hw_get (v := .int (x10)) (aX11_feedFour 11 rfl) wf_RX11_69 (c0 hS) (s0 hS) (by decide) (congrArg Value.int (show FIv4 0 9 = x10 from h11)) ?_
          refine xw_iloadn (aX11_feedFour 12 rfl) rfl ?_
          refine xw_iloadn (aX11_feedFour 13 rfl) rfl ?_
          refine xw_iushr (aX11_feedFour 14 rfl) ?_
          refine hw_ti (fun x15 => ?_)
          have b16 := i_rng x15
          refine hw_sp (v := (255 : Int32)) (aX11_feedFour 15 rfl) (by decide) ?_
          refine xw_iand (aX11_feedFour 16 rfl) ?_
          refine hw_tib (lo := 0) (hi := 255) (i_and (x := x15) (m := (255 : Int32)) (M := 255) (by decide) (by decide)) (fun x17 b18 => ?_)
          refine hv_iast (k := (x10).toNatClampNeg) (aX11_feedFour 17 rfl) (c19 hS) (s19 hS) (h_in rfl (by omega) (by omega)) rfl (fun FI19 u20 => ?_)
          have hI21 : g_I FI19 := gU_F hI6 u20 rfl
          refine hw_aloadn (aX11_feedFour 18 rfl) rfl ?_
          refine xw_dup (aX11_feedFour 19 rfl) rfl ?_
          refine hw_get (v := .int (x10)) (aX11_feedFour 20 rfl) wf_RX11_69 (c0 hS) (s0 hS) (by decide) (congrArg Value.int (show FI19 0 9 = x10 from (up_c u20 (by decide) (h11)))) ?_
          refine hw_ic (v := (1 : Int32)) (aX11_feedFour 21 rfl) (by decide) ?_
          refine xw_iadd (aX11_feedFour 22 rfl) ?_
          refine hw_tie (A := ((x10).toInt) + (1)) (i_add rfl (by decide : (1 : Int32).toInt = 1) (by omega) (by omega)) (fun x22 e23 => ?_)
          refine hv_puti (aX11_feedFour 23 rfl) wf_RX11_69 (c0 hS) (s0 hS) (by decide) rfl rfl (fun FI24 u25 => ?_)
          have hI26 : g_I FI24 := gU_0_9 hI21 u25 (by have := (e23 : (x22).toInt = ((x10).toInt) + (1)); omega) (by have := (e23 : (x22).toInt = ((x10).toInt) + (1)); omega)
          obtain ⟨x27, q29⟩ : ∃ y : Int32, (y2) + Int32.ofInt (-8) = y := ⟨_, rfl⟩
          have e28 : (x27).toInt = (y2).toInt + (-8) := by rw [← q29]; exact i_add rfl (by decide) (by omega) (by omega)
          refine xw_iinc (L2 := [(2, .int (x27)), (0, .ref (base + 0)), (1, .int (a1))]) (aX11_feedFour 24 rfl) rfl (by decide) (by rw [q29]; rfl) ?_
          refine xw_goto (tgt := 3) (aX11_feedFour 25 rfl) (by decide) ?_
          exact hw_L (ih (x27) FI24 (gf_f (gf_a fr5 u20 (by decide)) u25 (by decide)) hI26 (by have := (e28 : (x27).toInt = (y2).toInt + (-8)); omega) (by have := (e28 : (x27).toInt = (y2).toInt + (-8)); have := congrArg Int32.toInt (show FI24 0 9 = x22 from up_eq u25); have := (e23 : (x22).toInt = ((x10).toInt) + (1)); omega) (by have := (e28 : (x27).toInt = (y2).toInt + (-8)); omega)) ⟨rfl, rfl, rfl, trivial⟩
  exact hw_L (lp9 ((24 + 8 : Int).toNat + 1) ((24 : Int32)) FI gf_rf hI (by have := ((by decide : (24 : Int32).toInt = 24) : ((24 : Int32)).toInt = 24); omega) (by have := ((by decide : (24 : Int32).toInt = 24) : ((24 : Int32)).toInt = 24); have := congrArg Int32.toInt (show FI 0 9 = x1 from h2); omega) (by have := ((by decide : (24 : Int32).toInt = 24) : ((24 : Int32)).toInt = 24); omega)) ⟨rfl, rfl, rfl, trivial⟩
set_option maxHeartbeats 4000000 in
set_option maxRecDepth 100000 in
theorem k_feed2 {sk : xK} {base d n sl : Nat} {SH : Nat → Nat × Nat} {FI : Nat → Nat → Int32} {FL : Nat → Nat → Int64} {FR : Nat → Nat → Option Nat} (hS : h_S n SH) (hF : h_FR FR) (hI : g_I FI) (hR : g_R n SH FR) (a1 : Int32) (a2 : Int32) (a3 : Int32) (a4 : Int32) (a5 : Int32) : hw sk base (d + 1) none 118 0 [(0, .ref (base + 0)), (1, .int (a1)), (2, .int (a2)), (3, .int (a3)), (4, .int (a4)), (5, .int (a5))] [] (n, sl, SH, FI, FL, FR) (h_I (fun r s => ∃ FI', s = (n, sl, SH, FI', FL, FR) ∧ g_I FI' ∧ g_fr n (shd SH) [(0, 9)] [19] [] FI FI' ∧ ((r.toInt = -1 ∧ (FI' 0 9).toInt = (FI 0 9).toInt ∧ 980 < (FI 0 9).toInt) ∨ (r.toInt = (FI 0 9).toInt + 20 ∧ (FI' 0 9).toInt = (FI 0 9).toInt + 20 ∧ (FI 0 9).toInt ≤ 980)))) := by
  have rg_a1 := i_rng a1
  have rg_a2 := i_rng a2
  have rg_a3 := i_rng a3
  have rg_a4 := i_rng a4
  have rg_a5 := i_rng a5
  obtain ⟨x1, h2⟩ : ∃ y, FI 0 9 = y := ⟨_, rfl⟩
  have h2l := congrArg Int32.toInt h2
  have b3 := gI_0_9 hI; rw [h2] at b3
  refine hw_aloadn (aX11_feed 0 rfl) rfl ?_
  refine hw_get (v := .int (x1)) (aX11_feed 1 rfl) wf_RX11_69 (c0 hS) (s0 hS) (by decide) (congrArg Value.int (show FI 0 9 = x1 from h2)) ?_
  refine hw_bp (v := (20 : Int32)) (aX11_feed 2 rfl) (by decide) ?_
  refine xw_iadd (aX11_feed 3 rfl) ?_
  refine hw_tie (A := ((x1).toInt) + (20)) (i_add rfl (by decide : (20 : Int32).toInt = 20) (by omega) (by omega)) (fun x4 e5 => ?_)
  refine hw_sp (v := (1000 : Int32)) (aX11_feed 4 rfl) (by decide) ?_
  refine hw_icle (tgt := 15) (aX11_feed 5 rfl) (by decide) e5 (by decide : (1000 : Int32).toInt = 1000) (fun cd6 => ?_) (fun cd6 => ?_)
  · refine hw_aloadn (aX11_feed 8 rfl) rfl ?_
    refine xw_iloadn (aX11_feed 9 rfl) rfl ?_
    refine hw_callV (Bs := [.int (a1)]) (rest := []) (aX11_feed 10 rfl) wc_RX11_73 (by decide) rfl wi_yX11_feedFour wv_yX11_feedFour (c0 hS) (s0 hS) rfl rfl rfl (Nat.le_of_ble_eq_true rfl) (Nat.le_of_ble_eq_true rfl) (k_feedFour2 (d := d) hS hF hI hR (a1) (by have := congrArg Int32.toInt (show FI 0 9 = x1 from h2); omega)) (fun v7 sv8 p9 => ?_)
    have := congrArg Int32.toInt (show FI 0 9 = x1 from h2)
    obtain ⟨rfl, FI11, rfl, hI12, f13, t16⟩ := p9
    obtain ⟨x19, h20⟩ : ∃ y, FI11 0 9 = y := ⟨_, rfl⟩
    have h20l := congrArg Int32.toInt h20
    have b21 := gI_0_9 hI12; rw [h20] at b21
    show hw sk base _ _ _ _ _ [] _ _
    refine hw_aloadn (aX11_feed 11 rfl) rfl ?_
    refine xw_iloadn (aX11_feed 12 rfl) rfl ?_
    refine hw_callV (Bs := [.int (a2)]) (rest := []) (aX11_feed 13 rfl) wc_RX11_73 (by decide) rfl wi_yX11_feedFour wv_yX11_feedFour (c0 hS) (s0 hS) rfl rfl rfl (Nat.le_of_ble_eq_true rfl) (Nat.le_of_ble_eq_true rfl) (k_feedFour2 (d := d) hS hF hI12 hR (a2) (by have := congrArg Int32.toInt (show FI11 0 9 = x19 from h20); omega)) (fun v22 sv23 p24 => ?_)
    have := congrArg Int32.toInt (show FI11 0 9 = x19 from h20)
    obtain ⟨rfl, FI26, rfl, hI27, f28, t31⟩ := p24
    obtain ⟨x34, h35⟩ : ∃ y, FI26 0 9 = y := ⟨_, rfl⟩
    have h35l := congrArg Int32.toInt h35
    have b36 := gI_0_9 hI27; rw [h35] at b36
    show hw sk base _ _ _ _ _ [] _ _
    refine hw_aloadn (aX11_feed 14 rfl) rfl ?_
    refine xw_iloadn (aX11_feed 15 rfl) rfl ?_
    refine hw_callV (Bs := [.int (a3)]) (rest := []) (aX11_feed 16 rfl) wc_RX11_73 (by decide) rfl wi_yX11_feedFour wv_yX11_feedFour (c0 hS) (s0 hS) rfl rfl rfl (Nat.le_of_ble_eq_true rfl) (Nat.le_of_ble_eq_true rfl) (k_feedFour2 (d := d) hS hF hI27 hR (a3) (by have := congrArg Int32.toInt (show FI26 0 9 = x34 from h35); omega)) (fun v37 sv38 p39 => ?_)
    have := congrArg Int32.toInt (show FI26 0 9 = x34 from h35)
    obtain ⟨rfl, FI41, rfl, hI42, f43, t46⟩ := p39
    obtain ⟨x49, h50⟩ : ∃ y, FI41 0 9 = y := ⟨_, rfl⟩
    have h50l := congrArg Int32.toInt h50
    have b51 := gI_0_9 hI42; rw [h50] at b51
    show hw sk base _ _ _ _ _ [] _ _
    refine hw_aloadn (aX11_feed 17 rfl) rfl ?_
    refine xw_iload (aX11_feed 18 rfl) rfl ?_
    refine hw_callV (Bs := [.int (a4)]) (rest := []) (aX11_feed 19 rfl) wc_RX11_73 (by decide) rfl wi_yX11_feedFour wv_yX11_feedFour (c0 hS) (s0 hS) rfl rfl rfl (Nat.le_of_ble_eq_true rfl) (Nat.le_of_ble_eq_true rfl) (k_feedFour2 (d := d) hS hF hI42 hR (a4) (by have := congrArg Int32.toInt (show FI41 0 9 = x49 from h50); omega)) (fun v52 sv53 p54 => ?_)
    have := congrArg Int32.toInt (show FI41 0 9 = x49 from h50)
    obtain ⟨rfl, FI56, rfl, hI57, f58, t61⟩ := p54
    obtain ⟨x64, h65⟩ : ∃ y, FI56 0 9 = y := ⟨_, rfl⟩
    have h65l := congrArg Int32.toInt h65
    have b66 := gI_0_9 hI57; rw [h65] at b66
    show hw sk base _ _ _ _ _ [] _ _
    refine hw_aloadn (aX11_feed 20 rfl) rfl ?_
    refine xw_iload (aX11_feed 21 rfl) rfl ?_
    refine hw_callV (Bs := [.int (a5)]) (rest := []) (aX11_feed 22 rfl) wc_RX11_73 (by decide) rfl wi_yX11_feedFour wv_yX11_feedFour (c0 hS) (s0 hS) rfl rfl rfl (Nat.le_of_ble_eq_true rfl) (Nat.le_of_ble_eq_true rfl) (k_feedFour2 (d := d) hS hF hI57 hR (a5) (by have := congrArg Int32.toInt (show FI56 0 9 = x64 from h65); omega)) (fun v67 sv68 p69 => ?_)
    have := congrArg Int32.toInt (show FI56 0 9 = x64 from h65)
    obtain ⟨rfl, FI71, rfl, hI72, f73, t76⟩ := p69
    obtain ⟨x79, h80⟩ : ∃ y, FI71 0 9 = y := ⟨_, rfl⟩
    have h80l := congrArg Int32.toInt h80
    have b81 := gI_0_9 hI72; rw [h80] at b81
    show hw sk base _ _ _ _ _ [] _ _
    refine hw_aloadn (aX11_feed 23 rfl) rfl ?_
    refine hw_get (v := .int (x79)) (aX11_feed 24 rfl) wf_RX11_69 (c0 hS) (s0 hS) (by decide) (congrArg Value.int (show FI71 0 9 = x79 from h80)) ?_
    refine xw_iret (aX11_feed 25 rfl) rfl rfl ?_
    exact ⟨x79, rfl, FI71, rfl, hI72, (gf_tr ex_rf (gf_tr ex_rf (gf_tr ex_rf (gf_tr ex_rf (gf_tr ex_rf gf_rf f13 rfl rfl rfl) f28 rfl rfl rfl) f43 rfl rfl rfl) f58 rfl rfl rfl) f73 rfl rfl rfl), (by have := congrArg Int32.toInt (show FI71 0 9 = x79 from h80); omega)⟩
  · refine hw_ic (v := ((-1) : Int32)) (aX11_feed 6 rfl) (by decide) ?_
    refine xw_iret (aX11_feed 7 rfl) rfl rfl ?_
    have e82 : (((-1) : Int32)).toInt = (-1) := (by decide : ((-1) : Int32).toInt = (-1))
    exact ⟨((-1) : Int32), rfl, FI, rfl, hI, gf_rf, (by have : (((-1) : Int32)).toInt = (-1) := (by decide); have := congrArg Int32.toInt (show FI 0 9 = x1 from h2); omega)⟩
set_option maxHeartbeats 4000000 in
set_option maxRecDepth 100000 in
theorem k_end2 {sk : xK} {base d n sl : Nat} {SH : Nat → Nat × Nat} {FI : Nat → Nat → Int32} {FL : Nat → Nat → Int64} {FR : Nat → Nat → Option Nat} (hS : h_S n SH) (hF : h_FR FR) (hI : g_I FI) (hR : g_R n SH FR) (a1 : Int32) : hw sk base d none 120 0 [(0, .ref (base + 0)), (1, .int (a1))] [] (n, sl, SH, FI, FL, FR) (h_I (fun r s => ∃ FI', s = (n, sl, SH, FI', FL, FR) ∧ g_I FI' ∧ g_fr n (shd SH) [(0, 9)] [] [] FI FI' ∧ ((r.toInt = -1 ∧ (FI' 0 9).toInt = (FI 0 9).toInt ∧ ((a1).toInt < 0 ∨ (FI 0 9).toInt < (a1).toInt)) ∨ (r.toInt = (a1).toInt ∧ (FI' 0 9).toInt = (a1).toInt ∧ 0 ≤ (a1).toInt ∧ (a1).toInt ≤ (FI 0 9).toInt)))) := by
  have rg_a1 := i_rng a1
  obtain ⟨x1, h2⟩ : ∃ y, FI 0 9 = y := ⟨_, rfl⟩
  have h2l := congrArg Int32.toInt h2
  have b3 := gI_0_9 hI; rw [h2] at b3
  refine xw_iloadn (aX11_end 0 rfl) rfl ?_
  refine hw_iflt (tgt := 12) (aX11_end 1 rfl) (by decide) rfl (fun cd4 => ?_) (fun cd4 => ?_)
  · refine hw_ic (v := ((-1) : Int32)) (aX11_end 6 rfl) (by decide) ?_
    refine xw_iret (aX11_end 7 rfl) rfl rfl ?_
    have e5 : (((-1) : Int32)).toInt = (-1) := (by decide : ((-1) : Int32).toInt = (-1))
    exact ⟨((-1) : Int32), rfl, FI, rfl, hI, gf_rf, (by have : (((-1) : Int32)).toInt = (-1) := (by decide); have := congrArg Int32.toInt (show FI 0 9 = x1 from h2); omega)⟩
  · refine xw_iloadn (aX11_end 2 rfl) rfl ?_
    refine hw_aloadn (aX11_end 3 rfl) rfl ?_
    refine hw_get (v := .int (x1)) (aX11_end 4 rfl) wf_RX11_69 (c0 hS) (s0 hS) (by decide) (congrArg Value.int (show FI 0 9 = x1 from h2)) ?_
    refine hw_icle (tgt := 14) (aX11_end 5 rfl) (by decide) rfl rfl (fun cd6 => ?_) (fun cd6 => ?_)
    · refine hw_aloadn (aX11_end 8 rfl) rfl ?_
      refine xw_iloadn (aX11_end 9 rfl) rfl ?_
      refine hv_puti (aX11_end 10 rfl) wf_RX11_69 (c0 hS) (s0 hS) (by decide) rfl rfl (fun FI7 u8 => ?_)
      have hI9 : g_I FI7 := gU_0_9 hI u8 (by omega) (by omega)
      refine xw_iloadn (aX11_end 11 rfl) rfl ?_
      refine xw_iret (aX11_end 12 rfl) rfl rfl ?_
      exact ⟨a1, rfl, FI7, rfl, hI9, (gf_f gf_rf u8 (by decide)), (by have := congrArg Int32.toInt (show FI7 0 9 = a1 from up_eq u8); omega)⟩
    · refine hw_ic (v := ((-1) : Int32)) (aX11_end 6 rfl) (by decide) ?_
      refine xw_iret (aX11_end 7 rfl) rfl rfl ?_
      have e10 : (((-1) : Int32)).toInt = (-1) := (by decide : ((-1) : Int32).toInt = (-1))
      exact ⟨((-1) : Int32), rfl, FI, rfl, hI, gf_rf, (by have : (((-1) : Int32)).toInt = (-1) := (by decide); have := congrArg Int32.toInt (show FI 0 9 = x1 from h2); omega)⟩
set_option maxHeartbeats 4000000 in
set_option maxRecDepth 100000 in
theorem k_tapeIntoU26 {sk : xK} {base d n sl : Nat} {SH : Nat → Nat × Nat} {FI : Nat → Nat → Int32} {FL : Nat → Nat → Int64} {FR : Nat → Nat → Option Nat} (hS : h_S n SH) (hF : h_FR FR) (hI : g_I FI) (hR : g_R n SH FR) (a2 : Int32) (gp : Nat → Nat) (gw : Nat → Nat) (gs : Nat → Nat) (gg0 : g_T n SH FI FR gp gw gs) : hw sk base (d + 2) none 123 0 [(0, .ref (base + 0)), (1, .ref (base + 26)), (2, .int (a2))] [] (n, sl, SH, FI, FL, FR) (h_I (fun r s => ∃ n' sl' SH' FI' FL' FR', s = (n', sl', SH', FI', FL', FR') ∧ g_ex n SH n' SH' ∧ h_S n' SH' ∧ g_I FI' ∧ g_fr n (shd SH) [(0, 9)] [] [] FI FI' ∧ g_fr n (shd SH) [] [] [] FL FL' ∧ g_fr n (shd SH) [] [26] [] FR FR' ∧ h_FR FR' ∧ g_R n' SH' FR' ∧ ((n' : Int) ≤ n + 1) ∧ ((sl' : Int) + (FI' 0 9).toInt ≤ sl + (FI 0 9).toInt) ∧ ((FI' 0 9).toInt ≤ (FI 0 9).toInt) ∧ ((r.toInt = -1 ∧ (FI' 0 9).toInt = (FI 0 9).toInt ∧ ((a2).toInt < 0 ∨ 16 ≤ (a2).toInt ∨ 600 < (FI 0 9).toInt)) ∨ (r.toInt = (FI 0 9).toInt ∧ (FI' 0 9).toInt = 0 ∧ 0 ≤ (a2).toInt ∧ (a2).toInt < 16 ∧ (FI 0 9).toInt ≤ 600)) ∧ (∃ gp2 gw2 gs2, g_T n' SH' FI' FR' gp2 gw2 gs2 ∧ (∀ c, c < n → gp2 c = gp c ∧ gw2 c = gw c ∧ gs2 c = gs c) ∧ True))) := by
  have rg_a2 := i_rng a2
  have hk0 : ∀ c, c < n → gp c = gp c ∧ gw c = gw c ∧ gs c = gs c := fun _ _ => ⟨rfl, rfl, rfl⟩
  obtain ⟨x1, h2⟩ : ∃ y, FI 0 9 = y := ⟨_, rfl⟩
  have h2l := congrArg Int32.toInt h2
  have b3 := gI_0_9 hI; rw [h2] at b3
  refine xw_iloadn (aX11_tapeInto 0 rfl) rfl ?_
  refine hw_iflt (tgt := 20) (aX11_tapeInto 1 rfl) (by decide) rfl (fun cd4 => ?_) (fun cd4 => ?_)
  · refine hw_ic (v := ((-1) : Int32)) (aX11_tapeInto 10 rfl) (by decide) ?_
    refine xw_iret (aX11_tapeInto 11 rfl) rfl rfl ?_
    have e5 : (((-1) : Int32)).toInt = (-1) := (by decide : ((-1) : Int32).toInt = (-1))
    exact ⟨((-1) : Int32), rfl, n, sl, SH, FI, FL, FR, rfl, ex_rf, hS, hI, gf_rf, gf_rf, gf_rf, hF, hR, (by have : (((-1) : Int32)).toInt = (-1) := (by decide); omega), (by have : (((-1) : Int32)).toInt = (-1) := (by decide); have := congrArg Int32.toInt (show FI 0 9 = x1 from h2); omega), (by have : (((-1) : Int32)).toInt = (-1) := (by decide); have := congrArg Int32.toInt (show FI 0 9 = x1 from h2); omega), (by have : (((-1) : Int32)).toInt = (-1) := (by decide); have := congrArg Int32.toInt (show FI 0 9 = x1 from h2); omega), (by exact ⟨gp, gw, gs, gg0, hk0, trivial⟩)⟩
  · refine xw_iloadn (aX11_tapeInto 2 rfl) rfl ?_
    refine hw_aloadn (aX11_tapeInto 3 rfl) rfl ?_
    refine hw_alen (k := 6) (z := 16) (v := (16 : Int32)) (aX11_tapeInto 4 rfl) (c26 hS) (s26 hS) (by decide) (by decide) ?_
    refine hw_icge (tgt := 20) (aX11_tapeInto 5 rfl) (by decide) rfl (by decide : (16 : Int32).toInt = 16) (fun cd6 => ?_) (fun cd6 => ?_)
    · refine hw_ic (v := ((-1) : Int32)) (aX11_tapeInto 10 rfl) (by decide) ?_
      refine xw_iret (aX11_tapeInto 11 rfl) rfl rfl ?_
      have e7 : (((-1) : Int32)).toInt = (-1) := (by decide : ((-1) : Int32).toInt = (-1))
      exact ⟨((-1) : Int32), rfl, n, sl, SH, FI, FL, FR, rfl, ex_rf, hS, hI, gf_rf, gf_rf, gf_rf, hF, hR, (by have : (((-1) : Int32)).toInt = (-1) := (by decide); omega), (by have : (((-1) : Int32)).toInt = (-1) := (by decide); have := congrArg Int32.toInt (show FI 0 9 = x1 from h2); omega), (by have : (((-1) : Int32)).toInt = (-1) := (by decide); have := congrArg Int32.toInt (show FI 0 9 = x1 from h2); omega), (by have : (((-1) : Int32)).toInt = (-1) := (by decide); have := congrArg Int32.toInt (show FI 0 9 = x1 from h2); omega), (by exact ⟨gp, gw, gs, gg0, hk0, trivial⟩)⟩
    · refine hw_aloadn (aX11_tapeInto 6 rfl) rfl ?_
      refine hw_get (v := .int (x1)) (aX11_tapeInto 7 rfl) wf_RX11_69 (c0 hS) (s0 hS) (by decide) (congrArg Value.int (show FI 0 9 = x1 from h2)) ?_
      refine hw_sp (v := (600 : Int32)) (aX11_tapeInto 8 rfl) (by decide) ?_
      refine hw_icle (tgt := 22) (aX11_tapeInto 9 rfl) (by decide) rfl (by decide : (600 : Int32).toInt = 600) (fun cd8 => ?_) (fun cd8 => ?_)
      · refine hw_aloadn (aX11_tapeInto 12 rfl) rfl ?_
        refine hw_get (v := .int (x1)) (aX11_tapeInto 13 rfl) wf_RX11_69 (c0 hS) (s0 hS) (by decide) (congrArg Value.int (show FI 0 9 = x1 from h2)) ?_
        refine xw_istoren (L2 := [(3, .int (x1)), (0, .ref (base + 0)), (1, .ref (base + 26)), (2, .int (a2))]) (aX11_tapeInto 14 rfl) (by decide) rfl ?_
        refine hw_aloadn (aX11_tapeInto 15 rfl) rfl ?_
        refine xw_iloadn (aX11_tapeInto 16 rfl) rfl ?_
        refine hw_aloadn (aX11_tapeInto 17 rfl) rfl ?_
        refine hw_get (v := .ref (base + 19)) (aX11_tapeInto 18 rfl) wf_RX11_16 (c0 hS) (s0 hS) (by decide) (congrArg (fun r => va_rf (h_rf base r)) (r0_6 hF)) ?_
        refine xw_iloadn (aX11_tapeInto 19 rfl) rfl ?_
        refine hw_callS (As := [.ref (base + 19), .int (x1)]) (rest := [.int (a2), .ref (base + 26)]) (aX11_tapeInto 20 rfl) wc_RX11_88 (by decide) rfl wt_yJ7_copyOf_59c91 rfl rfl (Nat.le_of_ble_eq_true rfl) (Nat.le_of_ble_eq_true rfl) (k_copyOf19 (d := d) hS hF hI hR (x1) (by omega)) (fun v9 sv10 p11 => ?_)
        obtain ⟨r12, rfl, n27, sl28, SH29, FI13, FL14, FR15, rfl, ex30, hS31, hI16, f17, f18, f19, hF20, hR21, t22, t23, u24, ht25, nn26, hfr32⟩ := p11
        obtain ⟨r33, rfl⟩ : ∃ q, r12 = some q := Option.ne_none_iff_exists'.mp nn26
        have fq34 := hfr32 r33 rfl
        have dq35 : 176 ≤ r33 := Nat.le_trans hS.1 fq34
        obtain ⟨lt37, ow38, sh39⟩ := ht25 r33 rfl
        have hT40 : g_T n27 SH29 FI13 FR15 gp gw gs := gT_ar (L := []) (A := []) (T := []) (L2 := []) (A2 := []) (T2 := []) hS hR gg0 (by omega) ex30 (by rw [show n = r33 by omega]; exact sh39) f17 f19 (by decide) (by decide)
        show hw sk base _ _ _ _ _ [.ref (base + r33), .int (a2), .ref (base + 26)] _ _
        refine hv_aastI (i2 := (a2).toNatClampNeg) (aX11_tapeInto 21 rfl) (c26 hS31) (s26 hS31) (nin_1 (i := 95) rfl rfl) lt37 sh39 (h_in rfl (by omega) (by omega)) rfl (fun FR41 u42 => ?_)
        have hT43 : g_T n27 SH29 FI13 FR41 gp gw gs := gT_wo hT40 (by rw [(s26 hS31)]; decide) (by rw [(s26 hS31)]; decide) u42
        have hF44 : h_FR FR41 := hF_ua hS31 hF20 u42 (s26 hS31) (by decide +kernel)
        have hR45 : g_R n27 SH29 FR41 := gR_up hR21 u42 (s26 hS31) (fun r e => by cases e; exact ⟨lt37, ow38, by rw [sh39]; rfl⟩) (fun h => absurd h (by have := (by decide : 26 < 176); omega)) (fun _ => by simp) (fun h => absurd h.1 (by decide))
        refine hw_aloadn (aX11_tapeInto 22 rfl) rfl ?_
        refine hw_ic (v := (0 : Int32)) (aX11_tapeInto 23 rfl) (by decide) ?_
        refine hv_puti (aX11_tapeInto 24 rfl) wf_RX11_69 (c0 hS31) (s0 hS31) (by decide) rfl rfl (fun FI46 u47 => ?_)
        have hT48 : g_T n27 SH29 FI46 FR41 gp gw gs := gT_wi hT43 (fun h => absurd h (by rw [(s0 hS31)]; decide)) u47
        have hI49 : g_I FI46 := gU_0_9 hI16 u47 (by have := ((by decide : (0 : Int32).toInt = 0) : ((0 : Int32)).toInt = 0); omega) (by have := ((by decide : (0 : Int32).toInt = 0) : ((0 : Int32)).toInt = 0); omega)
        refine xw_iloadn (aX11_tapeInto 25 rfl) rfl ?_
        refine xw_iret (aX11_tapeInto 26 rfl) rfl rfl ?_
        exact ⟨x1, rfl, n27, sl28, SH29, FI46, FL14, FR41, rfl, ex30, hS31, hI49, (gf_f (gf_tr ex_rf gf_rf f17 rfl rfl rfl) u47 (by decide)), (gf_tr ex_rf gf_rf f18 rfl rfl rfl), (gf_a (gf_tr ex_rf gf_rf f19 rfl rfl rfl) u42 (by decide)), hF44, hR45, (by omega), (by have := congrArg Int32.toInt (show FI46 0 9 = (0 : Int32) from up_eq u47); have := ((by decide : (0 : Int32).toInt = 0) : ((0 : Int32)).toInt = 0); omega), (by have := congrArg Int32.toInt (show FI46 0 9 = (0 : Int32) from up_eq u47); have := ((by decide : (0 : Int32).toInt = 0) : ((0 : Int32)).toInt = 0); omega), (by have := congrArg Int32.toInt (show FI46 0 9 = (0 : Int32) from up_eq u47); have := ((by decide : (0 : Int32).toInt = 0) : ((0 : Int32)).toInt = 0); omega), (by exact ⟨gp, gw, gs, hT48, hk0, trivial⟩)⟩
      · refine hw_ic (v := ((-1) : Int32)) (aX11_tapeInto 10 rfl) (by decide) ?_
        refine xw_iret (aX11_tapeInto 11 rfl) rfl rfl ?_
        have e50 : (((-1) : Int32)).toInt = (-1) := (by decide : ((-1) : Int32).toInt = (-1))
        exact ⟨((-1) : Int32), rfl, n, sl, SH, FI, FL, FR, rfl, ex_rf, hS, hI, gf_rf, gf_rf, gf_rf, hF, hR, (by have : (((-1) : Int32)).toInt = (-1) := (by decide); omega), (by have : (((-1) : Int32)).toInt = (-1) := (by decide); have := congrArg Int32.toInt (show FI 0 9 = x1 from h2); omega), (by have : (((-1) : Int32)).toInt = (-1) := (by decide); have := congrArg Int32.toInt (show FI 0 9 = x1 from h2); omega), (by have : (((-1) : Int32)).toInt = (-1) := (by decide); have := congrArg Int32.toInt (show FI 0 9 = x1 from h2); omega), (by exact ⟨gp, gw, gs, gg0, hk0, trivial⟩)⟩
set_option maxHeartbeats 4000000 in
set_option maxRecDepth 100000 in
theorem k_tapeIntoU43 {sk : xK} {base d n sl : Nat} {SH : Nat → Nat × Nat} {FI : Nat → Nat → Int32} {FL : Nat → Nat → Int64} {FR : Nat → Nat → Option Nat} (hS : h_S n SH) (hF : h_FR FR) (hI : g_I FI) (hR : g_R n SH FR) (a2 : Int32) (gp : Nat → Nat) (gw : Nat → Nat) (gs : Nat → Nat) (gg0 : g_T n SH FI FR gp gw gs) : hw sk base (d + 2) none 123 0 [(0, .ref (base + 0)), (1, .ref (base + 43)), (2, .int (a2))] [] (n, sl, SH, FI, FL, FR) (h_I (fun r s => ∃ n' sl' SH' FI' FL' FR', s = (n', sl', SH', FI', FL', FR') ∧ g_ex n SH n' SH' ∧ h_S n' SH' ∧ g_I FI' ∧ g_fr n (shd SH) [(0, 9)] [] [] FI FI' ∧ g_fr n (shd SH) [] [] [] FL FL' ∧ g_fr n (shd SH) [] [43] [] FR FR' ∧ h_FR FR' ∧ g_R n' SH' FR' ∧ ((n' : Int) ≤ n + 1) ∧ ((sl' : Int) + (FI' 0 9).toInt ≤ sl + (FI 0 9).toInt) ∧ ((FI' 0 9).toInt ≤ (FI 0 9).toInt) ∧ ((r.toInt = -1 ∧ (FI' 0 9).toInt = (FI 0 9).toInt ∧ ((a2).toInt < 0 ∨ 4 ≤ (a2).toInt ∨ 600 < (FI 0 9).toInt)) ∨ (r.toInt = (FI 0 9).toInt ∧ (FI' 0 9).toInt = 0 ∧ 0 ≤ (a2).toInt ∧ (a2).toInt < 4 ∧ (FI 0 9).toInt ≤ 600)) ∧ (∃ gp2 gw2 gs2, g_T n' SH' FI' FR' gp2 gw2 gs2 ∧ (∀ c, c < n → gp2 c = gp c ∧ gw2 c = gw c ∧ gs2 c = gs c) ∧ True))) := by
  have rg_a2 := i_rng a2
  have hk0 : ∀ c, c < n → gp c = gp c ∧ gw c = gw c ∧ gs c = gs c := fun _ _ => ⟨rfl, rfl, rfl⟩
  obtain ⟨x1, h2⟩ : ∃ y, FI 0 9 = y := ⟨_, rfl⟩
  have h2l := congrArg Int32.toInt h2
  have b3 := gI_0_9 hI; rw [h2] at b3
  refine xw_iloadn (aX11_tapeInto 0 rfl) rfl ?_
  refine hw_iflt (tgt := 20) (aX11_tapeInto 1 rfl) (by decide) rfl (fun cd4 => ?_) (fun cd4 => ?_)
  · refine hw_ic (v := ((-1) : Int32)) (aX11_tapeInto 10 rfl) (by decide) ?_
    refine xw_iret (aX11_tapeInto 11 rfl) rfl rfl ?_
    have e5 : (((-1) : Int32)).toInt = (-1) := (by decide : ((-1) : Int32).toInt = (-1))
    exact ⟨((-1) : Int32), rfl, n, sl, SH, FI, FL, FR, rfl, ex_rf, hS, hI, gf_rf, gf_rf, gf_rf, hF, hR, (by have : (((-1) : Int32)).toInt = (-1) := (by decide); omega), (by have : (((-1) : Int32)).toInt = (-1) := (by decide); have := congrArg Int32.toInt (show FI 0 9 = x1 from h2); omega), (by have : (((-1) : Int32)).toInt = (-1) := (by decide); have := congrArg Int32.toInt (show FI 0 9 = x1 from h2); omega), (by have : (((-1) : Int32)).toInt = (-1) := (by decide); have := congrArg Int32.toInt (show FI 0 9 = x1 from h2); omega), (by exact ⟨gp, gw, gs, gg0, hk0, trivial⟩)⟩
  · refine xw_iloadn (aX11_tapeInto 2 rfl) rfl ?_
    refine hw_aloadn (aX11_tapeInto 3 rfl) rfl ?_
    refine hw_alen (k := 6) (z := 4) (v := (4 : Int32)) (aX11_tapeInto 4 rfl) (c43 hS) (s43 hS) (by decide) (by decide) ?_
    refine hw_icge (tgt := 20) (aX11_tapeInto 5 rfl) (by decide) rfl (by decide : (4 : Int32).toInt = 4) (fun cd6 => ?_) (fun cd6 => ?_)
    · refine hw_ic (v := ((-1) : Int32)) (aX11_tapeInto 10 rfl) (by decide) ?_
      refine xw_iret (aX11_tapeInto 11 rfl) rfl rfl ?_
      have e7 : (((-1) : Int32)).toInt = (-1) := (by decide : ((-1) : Int32).toInt = (-1))
      exact ⟨((-1) : Int32), rfl, n, sl, SH, FI, FL, FR, rfl, ex_rf, hS, hI, gf_rf, gf_rf, gf_rf, hF, hR, (by have : (((-1) : Int32)).toInt = (-1) := (by decide); omega), (by have : (((-1) : Int32)).toInt = (-1) := (by decide); have := congrArg Int32.toInt (show FI 0 9 = x1 from h2); omega), (by have : (((-1) : Int32)).toInt = (-1) := (by decide); have := congrArg Int32.toInt (show FI 0 9 = x1 from h2); omega), (by have : (((-1) : Int32)).toInt = (-1) := (by decide); have := congrArg Int32.toInt (show FI 0 9 = x1 from h2); omega), (by exact ⟨gp, gw, gs, gg0, hk0, trivial⟩)⟩
    · refine hw_aloadn (aX11_tapeInto 6 rfl) rfl ?_
      refine hw_get (v := .int (x1)) (aX11_tapeInto 7 rfl) wf_RX11_69 (c0 hS) (s0 hS) (by decide) (congrArg Value.int (show FI 0 9 = x1 from h2)) ?_
      refine hw_sp (v := (600 : Int32)) (aX11_tapeInto 8 rfl) (by decide) ?_
      refine hw_icle (tgt := 22) (aX11_tapeInto 9 rfl) (by decide) rfl (by decide : (600 : Int32).toInt = 600) (fun cd8 => ?_) (fun cd8 => ?_)
      · refine hw_aloadn (aX11_tapeInto 12 rfl) rfl ?_
        refine hw_get (v := .int (x1)) (aX11_tapeInto 13 rfl) wf_RX11_69 (c0 hS) (s0 hS) (by decide) (congrArg Value.int (show FI 0 9 = x1 from h2)) ?_
        refine xw_istoren (L2 := [(3, .int (x1)), (0, .ref (base + 0)), (1, .ref (base + 43)), (2, .int (a2))]) (aX11_tapeInto 14 rfl) (by decide) rfl ?_
        refine hw_aloadn (aX11_tapeInto 15 rfl) rfl ?_
        refine xw_iloadn (aX11_tapeInto 16 rfl) rfl ?_
        refine hw_aloadn (aX11_tapeInto 17 rfl) rfl ?_
        refine hw_get (v := .ref (base + 19)) (aX11_tapeInto 18 rfl) wf_RX11_16 (c0 hS) (s0 hS) (by decide) (congrArg (fun r => va_rf (h_rf base r)) (r0_6 hF)) ?_
        refine xw_iloadn (aX11_tapeInto 19 rfl) rfl ?_
        refine hw_callS (As := [.ref (base + 19), .int (x1)]) (rest := [.int (a2), .ref (base + 43)]) (aX11_tapeInto 20 rfl) wc_RX11_88 (by decide) rfl wt_yJ7_copyOf_59c91 rfl rfl (Nat.le_of_ble_eq_true rfl) (Nat.le_of_ble_eq_true rfl) (k_copyOf19 (d := d) hS hF hI hR (x1) (by omega)) (fun v9 sv10 p11 => ?_)
        obtain ⟨r12, rfl, n27, sl28, SH29, FI13, FL14, FR15, rfl, ex30, hS31, hI16, f17, f18, f19, hF20, hR21, t22, t23, u24, ht25, nn26, hfr32⟩ := p11
        obtain ⟨r33, rfl⟩ : ∃ q, r12 = some q := Option.ne_none_iff_exists'.mp nn26
        have fq34 := hfr32 r33 rfl
        have dq35 : 176 ≤ r33 := Nat.le_trans hS.1 fq34
        obtain ⟨lt37, ow38, sh39⟩ := ht25 r33 rfl
        have hT40 : g_T n27 SH29 FI13 FR15 gp gw gs := gT_ar (L := []) (A := []) (T := []) (L2 := []) (A2 := []) (T2 := []) hS hR gg0 (by omega) ex30 (by rw [show n = r33 by omega]; exact sh39) f17 f19 (by decide) (by decide)
        show hw sk base _ _ _ _ _ [.ref (base + r33), .int (a2), .ref (base + 43)] _ _
        refine hv_aastI (i2 := (a2).toNatClampNeg) (aX11_tapeInto 21 rfl) (c43 hS31) (s43 hS31) (nin_1 (i := 95) rfl rfl) lt37 sh39 (h_in rfl (by omega) (by omega)) rfl (fun FR41 u42 => ?_)
        have hT43 : g_T n27 SH29 FI13 FR41 gp gw gs := gT_wo hT40 (by rw [(s43 hS31)]; decide) (by rw [(s43 hS31)]; decide) u42
        have hF44 : h_FR FR41 := hF_ua hS31 hF20 u42 (s43 hS31) (by decide +kernel)
        have hR45 : g_R n27 SH29 FR41 := gR_up hR21 u42 (s43 hS31) (fun r e => by cases e; exact ⟨lt37, ow38, by rw [sh39]; rfl⟩) (fun h => absurd h (by have := (by decide : 43 < 176); omega)) (fun _ => by simp) (fun h => absurd h.1 (by decide))
        refine hw_aloadn (aX11_tapeInto 22 rfl) rfl ?_
        refine hw_ic (v := (0 : Int32)) (aX11_tapeInto 23 rfl) (by decide) ?_
        refine hv_puti (aX11_tapeInto 24 rfl) wf_RX11_69 (c0 hS31) (s0 hS31) (by decide) rfl rfl (fun FI46 u47 => ?_)
        have hT48 : g_T n27 SH29 FI46 FR41 gp gw gs := gT_wi hT43 (fun h => absurd h (by rw [(s0 hS31)]; decide)) u47
        have hI49 : g_I FI46 := gU_0_9 hI16 u47 (by have := ((by decide : (0 : Int32).toInt = 0) : ((0 : Int32)).toInt = 0); omega) (by have := ((by decide : (0 : Int32).toInt = 0) : ((0 : Int32)).toInt = 0); omega)
        refine xw_iloadn (aX11_tapeInto 25 rfl) rfl ?_
        refine xw_iret (aX11_tapeInto 26 rfl) rfl rfl ?_
        exact ⟨x1, rfl, n27, sl28, SH29, FI46, FL14, FR41, rfl, ex30, hS31, hI49, (gf_f (gf_tr ex_rf gf_rf f17 rfl rfl rfl) u47 (by decide)), (gf_tr ex_rf gf_rf f18 rfl rfl rfl), (gf_a (gf_tr ex_rf gf_rf f19 rfl rfl rfl) u42 (by decide)), hF44, hR45, (by omega), (by have := congrArg Int32.toInt (show FI46 0 9 = (0 : Int32) from up_eq u47); have := ((by decide : (0 : Int32).toInt = 0) : ((0 : Int32)).toInt = 0); omega), (by have := congrArg Int32.toInt (show FI46 0 9 = (0 : Int32) from up_eq u47); have := ((by decide : (0 : Int32).toInt = 0) : ((0 : Int32)).toInt = 0); omega), (by have := congrArg Int32.toInt (show FI46 0 9 = (0 : Int32) from up_eq u47); have := ((by decide : (0 : Int32).toInt = 0) : ((0 : Int32)).toInt = 0); omega), (by exact ⟨gp, gw, gs, hT48, hk0, trivial⟩)⟩
      · refine hw_ic (v := ((-1) : Int32)) (aX11_tapeInto 10 rfl) (by decide) ?_
        refine xw_iret (aX11_tapeInto 11 rfl) rfl rfl ?_
        have e50 : (((-1) : Int32)).toInt = (-1) := (by decide : ((-1) : Int32).toInt = (-1))
        exact ⟨((-1) : Int32), rfl, n, sl, SH, FI, FL, FR, rfl, ex_rf, hS, hI, gf_rf, gf_rf, gf_rf, hF, hR, (by have : (((-1) : Int32)).toInt = (-1) := (by decide); omega), (by have : (((-1) : Int32)).toInt = (-1) := (by decide); have := congrArg Int32.toInt (show FI 0 9 = x1 from h2); omega), (by have : (((-1) : Int32)).toInt = (-1) := (by decide); have := congrArg Int32.toInt (show FI 0 9 = x1 from h2); omega), (by have : (((-1) : Int32)).toInt = (-1) := (by decide); have := congrArg Int32.toInt (show FI 0 9 = x1 from h2); omega), (by exact ⟨gp, gw, gs, gg0, hk0, trivial⟩)⟩
set_option maxHeartbeats 4000000 in
set_option maxRecDepth 100000 in
theorem k_expression2 {sk : xK} {base d n sl : Nat} {SH : Nat → Nat × Nat} {FI : Nat → Nat → Int32} {FL : Nat → Nat → Int64} {FR : Nat → Nat → Option Nat} (hS : h_S n SH) (hF : h_FR FR) (hI : g_I FI) (hR : g_R n SH FR) (a1 : Int32) (gp : Nat → Nat) (gw : Nat → Nat) (gs : Nat → Nat) (gg0 : g_T n SH FI FR gp gw gs) : hw sk base (d + 3) none 121 0 [(0, .ref (base + 0)), (1, .int (a1))] [] (n, sl, SH, FI, FL, FR) (h_I (fun r s => ∃ n' sl' SH' FI' FL' FR', s = (n', sl', SH', FI', FL', FR') ∧ g_ex n SH n' SH' ∧ h_S n' SH' ∧ g_I FI' ∧ g_fr n (shd SH) [(0, 9)] [] [] FI FI' ∧ g_fr n (shd SH) [] [] [] FL FL' ∧ g_fr n (shd SH) [] [26] [] FR FR' ∧ h_FR FR' ∧ g_R n' SH' FR' ∧ ((n' : Int) ≤ n + 1) ∧ ((sl' : Int) + (FI' 0 9).toInt ≤ sl + (FI 0 9).toInt) ∧ ((FI' 0 9).toInt ≤ (FI 0 9).toInt) ∧ ((r.toInt = -1 ∧ (FI' 0 9).toInt = (FI 0 9).toInt ∧ ((a1).toInt < 0 ∨ 16 ≤ (a1).toInt ∨ 600 < (FI 0 9).toInt)) ∨ (r.toInt = (FI 0 9).toInt ∧ (FI' 0 9).toInt = 0 ∧ 0 ≤ (a1).toInt ∧ (a1).toInt < 16 ∧ (FI 0 9).toInt ≤ 600)) ∧ (∃ gp2 gw2 gs2, g_T n' SH' FI' FR' gp2 gw2 gs2 ∧ (∀ c, c < n → gp2 c = gp c ∧ gw2 c = gw c ∧ gs2 c = gs c) ∧ True))) := by
  have rg_a1 := i_rng a1
  have hk0 : ∀ c, c < n → gp c = gp c ∧ gw c = gw c ∧ gs c = gs c := fun _ _ => ⟨rfl, rfl, rfl⟩
  obtain ⟨x1, h2⟩ : ∃ y, FI 0 9 = y := ⟨_, rfl⟩
  have h2l := congrArg Int32.toInt h2
  have b3 := gI_0_9 hI; rw [h2] at b3
  refine hw_aloadn (aX11_expression 0 rfl) rfl ?_
  refine hw_aloadn (aX11_expression 1 rfl) rfl ?_
  refine hw_get (v := .ref (base + 23)) (aX11_expression 2 rfl) wf_RX11_35 (c0 hS) (s0 hS) (by decide) (congrArg (fun r => va_rf (h_rf base r)) (r0_0 hF)) ?_
  refine hw_get (v := .ref (base + 26)) (aX11_expression 3 rfl) wf_RX11_77 (c23 hS) (s23 hS) (by decide) (congrArg (fun r => va_rf (h_rf base r)) (r23_2 hF)) ?_
  refine xw_iloadn (aX11_expression 4 rfl) rfl ?_
  refine hw_callV (Bs := [.ref (base + 26), .int (a1)]) (rest := []) (aX11_expression 5 rfl) wc_RX11_81 (by decide) rfl wi_yX11_tapeInto wv_yX11_tapeInto (c0 hS) (s0 hS) rfl rfl rfl (Nat.le_of_ble_eq_true rfl) (Nat.le_of_ble_eq_true rfl) (k_tapeIntoU26 (d := d) hS hF hI hR (a1) (gp) (gw) (gs) (gg0)) (fun v4 sv5 p6 => ?_)
  have := congrArg Int32.toInt (show FI 0 9 = x1 from h2)
  have := congrArg Int32.toInt (show FI 0 9 = x1 from h2)
  have := congrArg Int32.toInt (show FI 0 9 = x1 from h2)
  have := congrArg Int32.toInt (show FI 0 9 = x1 from h2)
  have := congrArg Int32.toInt (show FI 0 9 = x1 from h2)
  have := congrArg Int32.toInt (show FI 0 9 = x1 from h2)
  obtain ⟨r7, rfl, n24, sl25, SH26, FI8, FL9, FR10, rfl, ex27, hS28, hI11, f12, f13, f14, hF15, hR16, t17, t18, t19, t20, u21⟩ := p6
  obtain ⟨gp29, gw30, gs31, hT32, hkp33, hq34⟩ := u21
  have hk35 : ∀ c, c < n → gp29 c = gp c ∧ gw30 c = gw c ∧ gs31 c = gs c := fun c hc => by obtain ⟨k1, k2, k3⟩ := hk0 c hc; obtain ⟨m1, m2, m3⟩ := hkp33 c (Nat.lt_of_lt_of_le hc (Nat.le_refl _)); exact ⟨m1.trans k1, m2.trans k2, m3.trans k3⟩
  have rg_r7 := i_rng r7
  obtain ⟨x36, h37⟩ : ∃ y, FI8 0 9 = y := ⟨_, rfl⟩
  have h37l := congrArg Int32.toInt h37
  have b38 := gI_0_9 hI11; rw [h37] at b38
  show hw sk base _ _ _ _ _ [.int (r7)] _ _
  refine xw_iret (aX11_expression 6 rfl) rfl rfl ?_
  exact ⟨r7, rfl, n24, sl25, SH26, FI8, FL9, FR10, rfl, ex27, hS28, hI11, (gf_tr ex_rf gf_rf f12 rfl rfl rfl), (gf_tr ex_rf gf_rf f13 rfl rfl rfl), (gf_tr ex_rf gf_rf f14 rfl rfl rfl), hF15, hR16, (by omega), (by have := congrArg Int32.toInt (show FI8 0 9 = x36 from h37); omega), (by have := congrArg Int32.toInt (show FI8 0 9 = x36 from h37); omega), (by have := congrArg Int32.toInt (show FI8 0 9 = x36 from h37); omega), (by exact ⟨gp29, gw30, gs31, hT32, hk35, trivial⟩)⟩
set_option maxHeartbeats 4000000 in
set_option maxRecDepth 100000 in
theorem k_list2 {sk : xK} {base d n sl : Nat} {SH : Nat → Nat × Nat} {FI : Nat → Nat → Int32} {FL : Nat → Nat → Int64} {FR : Nat → Nat → Option Nat} (hS : h_S n SH) (hF : h_FR FR) (hI : g_I FI) (hR : g_R n SH FR) (a1 : Int32) (gp : Nat → Nat) (gw : Nat → Nat) (gs : Nat → Nat) (gg0 : g_T n SH FI FR gp gw gs) : hw sk base (d + 3) none 122 0 [(0, .ref (base + 0)), (1, .int (a1))] [] (n, sl, SH, FI, FL, FR) (h_I (fun r s => ∃ n' sl' SH' FI' FL' FR', s = (n', sl', SH', FI', FL', FR') ∧ g_ex n SH n' SH' ∧ h_S n' SH' ∧ g_I FI' ∧ g_fr n (shd SH) [(0, 9)] [] [] FI FI' ∧ g_fr n (shd SH) [] [] [] FL FL' ∧ g_fr n (shd SH) [] [43] [] FR FR' ∧ h_FR FR' ∧ g_R n' SH' FR' ∧ ((n' : Int) ≤ n + 1) ∧ ((sl' : Int) + (FI' 0 9).toInt ≤ sl + (FI 0 9).toInt) ∧ ((FI' 0 9).toInt ≤ (FI 0 9).toInt) ∧ ((r.toInt = -1 ∧ (FI' 0 9).toInt = (FI 0 9).toInt ∧ ((a1).toInt < 0 ∨ 4 ≤ (a1).toInt ∨ 600 < (FI 0 9).toInt)) ∨ (r.toInt = (FI 0 9).toInt ∧ (FI' 0 9).toInt = 0 ∧ 0 ≤ (a1).toInt ∧ (a1).toInt < 4 ∧ (FI 0 9).toInt ≤ 600)) ∧ (∃ gp2 gw2 gs2, g_T n' SH' FI' FR' gp2 gw2 gs2 ∧ (∀ c, c < n → gp2 c = gp c ∧ gw2 c = gw c ∧ gs2 c = gs c) ∧ True))) := by
  have rg_a1 := i_rng a1
  have hk0 : ∀ c, c < n → gp c = gp c ∧ gw c = gw c ∧ gs c = gs c := fun _ _ => ⟨rfl, rfl, rfl⟩
  obtain ⟨x1, h2⟩ : ∃ y, FI 0 9 = y := ⟨_, rfl⟩
  have h2l := congrArg Int32.toInt h2
  have b3 := gI_0_9 hI; rw [h2] at b3
  refine hw_aloadn (aX11_list 0 rfl) rfl ?_
  refine hw_aloadn (aX11_list 1 rfl) rfl ?_
  refine hw_get (v := .ref (base + 23)) (aX11_list 2 rfl) wf_RX11_35 (c0 hS) (s0 hS) (by decide) (congrArg (fun r => va_rf (h_rf base r)) (r0_0 hF)) ?_
  refine hw_get (v := .ref (base + 43)) (aX11_list 3 rfl) wf_RX11_85 (c23 hS) (s23 hS) (by decide) (congrArg (fun r => va_rf (h_rf base r)) (r23_3 hF)) ?_
  refine xw_iloadn (aX11_list 4 rfl) rfl ?_
  refine hw_callV (Bs := [.ref (base + 43), .int (a1)]) (rest := []) (aX11_list 5 rfl) wc_RX11_81 (by decide) rfl wi_yX11_tapeInto wv_yX11_tapeInto (c0 hS) (s0 hS) rfl rfl rfl (Nat.le_of_ble_eq_true rfl) (Nat.le_of_ble_eq_true rfl) (k_tapeIntoU43 (d := d) hS hF hI hR (a1) (gp) (gw) (gs) (gg0)) (fun v4 sv5 p6 => ?_)
  have := congrArg Int32.toInt (show FI 0 9 = x1 from h2)
  have := congrArg Int32.toInt (show FI 0 9 = x1 from h2)
  have := congrArg Int32.toInt (show FI 0 9 = x1 from h2)
  have := congrArg Int32.toInt (show FI 0 9 = x1 from h2)
  have := congrArg Int32.toInt (show FI 0 9 = x1 from h2)
  have := congrArg Int32.toInt (show FI 0 9 = x1 from h2)
  obtain ⟨r7, rfl, n24, sl25, SH26, FI8, FL9, FR10, rfl, ex27, hS28, hI11, f12, f13, f14, hF15, hR16, t17, t18, t19, t20, u21⟩ := p6
  obtain ⟨gp29, gw30, gs31, hT32, hkp33, hq34⟩ := u21
  have hk35 : ∀ c, c < n → gp29 c = gp c ∧ gw30 c = gw c ∧ gs31 c = gs c := fun c hc => by obtain ⟨k1, k2, k3⟩ := hk0 c hc; obtain ⟨m1, m2, m3⟩ := hkp33 c (Nat.lt_of_lt_of_le hc (Nat.le_refl _)); exact ⟨m1.trans k1, m2.trans k2, m3.trans k3⟩
  have rg_r7 := i_rng r7
  obtain ⟨x36, h37⟩ : ∃ y, FI8 0 9 = y := ⟨_, rfl⟩
  have h37l := congrArg Int32.toInt h37
  have b38 := gI_0_9 hI11; rw [h37] at b38
  show hw sk base _ _ _ _ _ [.int (r7)] _ _
  refine xw_iret (aX11_list 6 rfl) rfl rfl ?_
  exact ⟨r7, rfl, n24, sl25, SH26, FI8, FL9, FR10, rfl, ex27, hS28, hI11, (gf_tr ex_rf gf_rf f12 rfl rfl rfl), (gf_tr ex_rf gf_rf f13 rfl rfl rfl), (gf_tr ex_rf gf_rf f14 rfl rfl rfl), hF15, hR16, (by omega), (by have := congrArg Int32.toInt (show FI8 0 9 = x36 from h37); omega), (by have := congrArg Int32.toInt (show FI8 0 9 = x36 from h37); omega), (by have := congrArg Int32.toInt (show FI8 0 9 = x36 from h37); omega), (by exact ⟨gp29, gw30, gs31, hT32, hk35, trivial⟩)⟩
set_option maxHeartbeats 4000000 in
set_option maxRecDepth 100000 in
theorem k_store2 {sk : xK} {base d n sl : Nat} {SH : Nat → Nat × Nat} {FI : Nat → Nat → Int32} {FL : Nat → Nat → Int64} {FR : Nat → Nat → Option Nat} (hS : h_S n SH) (hF : h_FR FR) (hI : g_I FI) (hR : g_R n SH FR) (a1 : Int32) : hw sk base (d + 2) none 144 0 [(0, .ref (base + 0)), (1, .int (a1))] [] (n, sl, SH, FI, FL, FR) (h_I (fun r s => ∃ FI' FL', s = (n, sl, SH, FI', FL', FR) ∧ g_I FI' ∧ g_fr n (shd SH) [(0, 9)] [25] [] FI FI' ∧ g_fr n (shd SH) [] [24] [] FL FL' ∧ (((FI' 0 9).toInt = (FI 0 9).toInt ∧ ((a1).toInt < 1 ∨ 512 < (a1).toInt ∨ 8 * (FI 0 9).toInt < (a1).toInt)) ∨ ((FI' 0 9).toInt = 0 ∧ 1 ≤ (a1).toInt ∧ (a1).toInt ≤ 512 ∧ (a1).toInt ≤ 8 * (FI 0 9).toInt)))) := by
  have rg_a1 := i_rng a1
  obtain ⟨x1, h2⟩ : ∃ y, FI 0 9 = y := ⟨_, rfl⟩
  have h2l := congrArg Int32.toInt h2
  have b3 := gI_0_9 hI; rw [h2] at b3
  refine xw_iloadn (aX11_store 0 rfl) rfl ?_
  refine hw_ic (v := (1 : Int32)) (aX11_store 1 rfl) (by decide) ?_
  refine hw_iclt (tgt := 23) (aX11_store 2 rfl) (by decide) rfl (by decide : (1 : Int32).toInt = 1) (fun cd4 => ?_) (fun cd4 => ?_)
  · refine hw_ic (v := ((-1) : Int32)) (aX11_store 12 rfl) (by decide) ?_
    refine xw_iret (aX11_store 13 rfl) rfl rfl ?_
    have e5 : (((-1) : Int32)).toInt = (-1) := (by decide : ((-1) : Int32).toInt = (-1))
    exact ⟨((-1) : Int32), rfl, FI, FL, rfl, hI, gf_rf, gf_rf, (by have : (((-1) : Int32)).toInt = (-1) := (by decide); have := congrArg Int32.toInt (show FI 0 9 = x1 from h2); omega)⟩
  · refine xw_iloadn (aX11_store 3 rfl) rfl ?_
    refine hw_sp (v := (512 : Int32)) (aX11_store 4 rfl) (by decide) ?_
    refine hw_icgt (tgt := 23) (aX11_store 5 rfl) (by decide) rfl (by decide : (512 : Int32).toInt = 512) (fun cd6 => ?_) (fun cd6 => ?_)
    · refine hw_ic (v := ((-1) : Int32)) (aX11_store 12 rfl) (by decide) ?_
      refine xw_iret (aX11_store 13 rfl) rfl rfl ?_
      have e7 : (((-1) : Int32)).toInt = (-1) := (by decide : ((-1) : Int32).toInt = (-1))
      exact ⟨((-1) : Int32), rfl, FI, FL, rfl, hI, gf_rf, gf_rf, (by have : (((-1) : Int32)).toInt = (-1) := (by decide); have := congrArg Int32.toInt (show FI 0 9 = x1 from h2); omega)⟩
    · refine hw_aloadn (aX11_store 6 rfl) rfl ?_
      refine hw_get (v := .int (x1)) (aX11_store 7 rfl) wf_RX11_69 (c0 hS) (s0 hS) (by decide) (congrArg Value.int (show FI 0 9 = x1 from h2)) ?_
      refine hw_bp (v := (8 : Int32)) (aX11_store 8 rfl) (by decide) ?_
      refine xw_imul (aX11_store 9 rfl) ?_
      refine hw_tie (A := ((x1).toInt) * (8)) (i_mul rfl (by decide : (8 : Int32).toInt = 8) (by omega) (by omega)) (fun x8 e9 => ?_)
      refine xw_iloadn (aX11_store 10 rfl) rfl ?_
      refine hw_icge (tgt := 25) (aX11_store 11 rfl) (by decide) e9 rfl (fun cd10 => ?_) (fun cd10 => ?_)
      · refine hw_ic (v := (0 : Int32)) (aX11_store 14 rfl) (by decide) ?_
        refine xw_istoren (L2 := [(2, .int ((0 : Int32))), (0, .ref (base + 0)), (1, .int (a1))]) (aX11_store 15 rfl) (by decide) rfl ?_
        refine hw_ic (v := (0 : Int32)) (aX11_store 16 rfl) (by decide) ?_
        refine xw_istoren (L2 := [(3, .int ((0 : Int32))), (2, .int ((0 : Int32))), (0, .ref (base + 0)), (1, .int (a1))]) (aX11_store 17 rfl) (by decide) rfl ?_
        refine hw_ic (v := (0 : Int32)) (aX11_store 18 rfl) (by decide) ?_
        refine xw_istore (L2 := [(4, .int ((0 : Int32))), (3, .int ((0 : Int32))), (2, .int ((0 : Int32))), (0, .ref (base + 0)), (1, .int (a1))]) (aX11_store 19 rfl) (by decide) rfl ?_
        have lp20 : ∀ (m : Nat) (y4 : Int32) (y3 : Int32) (y2 : Int32) (FIv11 : Nat → Nat → Int32) (FLv12 : Nat → Nat → Int64), (g_fr n (shd SH) [(0, 9)] [25] [] FI FIv11) → (g_fr n (shd SH) [] [24] [] FL FLv12) → (g_I FIv11) → (FIv11 0 9 = x1) → (0 ≤ (y4).toInt ∧ (y4).toInt ≤ 16) → (0 ≤ (y3).toInt ∧ (y3).toInt ≤ 512) → ((y3).toInt ≤ (a1).toInt) → 17 - (y4).toInt < m → hw sk base (d + 2) none 144 32 [(4, .int (y4)), (3, .int (y3)), (2, .int (y2)), (0, .ref (base + 0)), (1, .int (a1))] [] (n, sl, SH, FIv11, FLv12, FR) (h_I (fun r s => ∃ FI' FL', s = (n, sl, SH, FI', FL', FR) ∧ g_I FI' ∧ g_fr n (shd SH) [(0, 9)] [25] [] FI FI' ∧ g_fr n (shd SH) [] [24] [] FL FL' ∧ (((FI' 0 9).toInt = (FI 0 9).toInt ∧ ((a1).toInt < 1 ∨ 512 < (a1).toInt ∨ 8 * (FI 0 9).toInt < (a1).toInt)) ∨ ((FI' 0 9).toInt = 0 ∧ 1 ≤ (a1).toInt ∧ (a1).toInt ≤ 512 ∧ (a1).toInt ≤ 8 * (FI 0 9).toInt)))) := by
          intro m
          induction m with
          | zero => intro y4 y3 y2 FIv11 FLv12 fr13 fr14 hI15 kp16 iv17 iv18 iv19 hm; omega
          | succ m ih =>
            intro y4 y3 y2 FIv11 FLv12 fr13 fr14 hI15 kp16 iv17 iv18 iv19 hm
            have rg_y4 := i_rng y4
            have rg_y3 := i_rng y3
            have rg_y2 := i_rng y2
            have := congrArg Int32.toInt kp16
            refine xw_iload (aX11_store 20 rfl) rfl ?_
            refine hw_aloadn (aX11_store 21 rfl) rfl ?_
            refine hw_get (v := .ref (base + 1)) (aX11_store 22 rfl) wf_RX11_10 (c0 hS) (s0 hS) (by decide) (congrArg (fun r => va_rf (h_rf base r)) (r0_5 hF)) ?_
            refine hw_callV (Bs := []) (rest := [.int (y4)]) (aX11_store 23 rfl) wc_RX11_184 (by decide) rfl wi_yX8_count wv_yX8_count (c1 hS) (s1 hS) rfl rfl rfl (Nat.le_of_ble_eq_true rfl) (Nat.le_of_ble_eq_true rfl) (k_X8_count (d := d + 1) hS hF hI15 hR (1) (c1 hS) (s1 hS) (Or.inl (by decide)) ) (fun v21 sv22 p23 => ?_)
            obtain ⟨x31, h32⟩ : ∃ y, FIv11 1 1 = y := ⟨_, rfl⟩
            have h32l := congrArg Int32.toInt h32
            have b33 := gI_1_1 hI15; rw [h32] at b33
            have := congrArg Int32.toInt (show FIv11 1 1 = x31 from h32)
            obtain ⟨r24, rfl, rfl, t28⟩ := p23
            have rg_r24 := i_rng r24
            show hw sk base _ _ _ _ _ [.int (r24), .int (y4)] _ _
            refine hw_icge (tgt := 150) (aX11_store 24 rfl) (by decide) rfl rfl (fun cd34 => ?_) (fun cd34 => ?_)
            · refine hw_aloadn (aX11_store 77 rfl) rfl ?_
              refine hw_ic (v := (0 : Int32)) (aX11_store 78 rfl) (by decide) ?_
              refine hv_puti (aX11_store 79 rfl) wf_RX11_69 (c0 hS) (s0 hS) (by decide) rfl rfl (fun FI35 u36 => ?_)
              have hI37 : g_I FI35 := gU_0_9 hI15 u36 (by have := ((by decide : (0 : Int32).toInt = 0) : ((0 : Int32)).toInt = 0); omega) (by have := ((by decide : (0 : Int32).toInt = 0) : ((0 : Int32)).toInt = 0); omega)
              refine xw_iloadn (aX11_store 80 rfl) rfl ?_
              refine xw_iret (aX11_store 81 rfl) rfl rfl ?_
              exact ⟨y2, rfl, FI35, FLv12, rfl, hI37, (gf_f fr13 u36 (by decide)), fr14, (by have := congrArg Int32.toInt (show FI35 0 9 = (0 : Int32) from up_eq u36); have := ((by decide : (0 : Int32).toInt = 0) : ((0 : Int32)).toInt = 0); omega)⟩
            · refine hw_aloadn (aX11_store 25 rfl) rfl ?_
              refine hw_get (v := .ref (base + 1)) (aX11_store 26 rfl) wf_RX11_10 (c0 hS) (s0 hS) (by decide) (congrArg (fun r => va_rf (h_rf base r)) (r0_5 hF)) ?_
              refine hw_get (v := .ref (base + 2)) (aX11_store 27 rfl) wf_RX11_188 (c1 hS) (s1 hS) (by decide) (congrArg (fun r => va_rf (h_rf base r)) (r1_0 hF)) ?_
              refine xw_iload (aX11_store 28 rfl) rfl ?_
              obtain ⟨o38, h39⟩ : ∃ y, FR 2 (y4).toNatClampNeg = y := ⟨_, rfl⟩
              have ht40 : ∀ r, o38 = some r → r < n ∧ own r ∧ SH r = (5, (SH r).2) := fun r e => gR_get hR (c2 hS) (Or.inl (by decide)) (s2 hS) (h39.trans e)
              refine hw_aald (k := 3) (v := o38) (aX11_store 29 rfl) (c2 hS) (s2 hS) (by decide) (by decide) (h_in rfl (by omega) (by omega)) (show FR 2 (y4).toNatClampNeg = o38 from h39) ?_
              obtain ⟨r41, rfl⟩ : ∃ r, o38 = some r := by obtain ⟨r, hr⟩ := g_th hS hF hR (c2 hS) (s2 hS) (i := (y4).toNatClampNeg) (i_lt (x := y4) rfl (by omega) (by omega)); exact ⟨r, (show _ = _ from h39).symm.trans hr⟩
              obtain ⟨lt43, ow44, sh45⟩ := ht40 r41 rfl
              show hw sk base _ _ _ _ [(4, .int (y4)), (3, .int (y3)), (2, .int (y2)), (0, .ref (base + 0)), (1, .int (a1))] [.ref (base + r41)] _ _
              refine hw_astore (L2 := [(5, .ref (base + r41)), (4, .int (y4)), (3, .int (y3)), (2, .int (y2)), (0, .ref (base + 0)), (1, .int (a1))]) (aX11_store 30 rfl) (by decide) rfl ?_
              refine hw_aloadn (aX11_store 31 rfl) rfl ?_
              refine hw_get (v := .ref (base + 1)) (aX11_store 32 rfl) wf_RX11_10 (c0 hS) (s0 hS) (by decide) (congrArg (fun r => va_rf (h_rf base r)) (r0_5 hF)) ?_
              refine hw_get (v := .int (x31)) (aX11_store 33 rfl) wf_RX11_218 (c1 hS) (s1 hS) (by decide) (congrArg Value.int (show FIv11 1 1 = x31 from h32)) ?_
              refine hw_ifne (tgt := 70) (aX11_store 34 rfl) (by decide) rfl (fun cd46 => ?_) (fun cd46 => ?_)
              · refine hw_aload (aX11_store 37 rfl) rfl ?_
                obtain ⟨x47, h48⟩ : ∃ y, FIv11 r41 2 = y := ⟨_, rfl⟩
                have h48l := congrArg Int32.toInt h48
                have := i_rng x47
                refine hw_get (v := .int (x47)) (aX11_store 38 rfl) wf_RX11_199 lt43 sh45 (by decide) (congrArg Value.int (show FIv11 r41 2 = x47 from h48)) ?_
                refine xw_istore (L2 := [(6, .int (x47)), (5, .ref (base + r41)), (4, .int (y4)), (3, .int (y3)), (2, .int (y2)), (0, .ref (base + 0)), (1, .int (a1))]) (aX11_store 39 rfl) (by decide) rfl ?_
                refine hw_ic (v := (0 : Int32)) (aX11_store 40 rfl) (by decide) ?_
                refine xw_istore (L2 := [(7, .int ((0 : Int32))), (6, .int (x47)), (5, .ref (base + r41)), (4, .int (y4)), (3, .int (y3)), (2, .int (y2)), (0, .ref (base + 0)), (1, .int (a1))]) (aX11_store 41 rfl) (by decide) rfl ?_
                have lp61 : ∀ (m : Nat) (y7 : Int32) (y3_49 : Int32) (y2_50 : Int32) (FIv51 : Nat → Nat → Int32) (FLv52 : Nat → Nat → Int64), (g_fr n (shd SH) [(0, 9)] [25] [] FI FIv51) → (g_fr n (shd SH) [] [24] [] FL FLv52) → (g_I FIv51) → (FIv51 0 9 = x1) → (FIv51 1 1 = x31) → (FIv51 r41 2 = x47) → (0 ≤ (y3_49).toInt ∧ (y3_49).toInt ≤ 512) → ((y3_49).toInt ≤ (a1).toInt) → (a1).toInt - (y3_49).toInt < m → hw sk base (d + 2) none 144 80 [(7, .int (y7)), (6, .int (x47)), (5, .ref (base + r41)), (4, .int (y4)), (3, .int (y3_49)), (2, .int (y2_50)), (0, .ref (base + 0)), (1, .int (a1))] [] (n, sl, SH, FIv51, FLv52, FR) (h_I (fun r s => ∃ FI' FL', s = (n, sl, SH, FI', FL', FR) ∧ g_I FI' ∧ g_fr n (shd SH) [(0, 9)] [25] [] FI FI' ∧ g_fr n (shd SH) [] [24] [] FL FL' ∧ (((FI' 0 9).toInt = (FI 0 9).toInt ∧ ((a1).toInt < 1 ∨ 512 < (a1).toInt ∨ 8 * (FI 0 9).toInt < (a1).toInt)) ∨ ((FI' 0 9).toInt = 0 ∧ 1 ≤ (a1).toInt ∧ (a1).toInt ≤ 512 ∧ (a1).toInt ≤ 8 * (FI 0 9).toInt)))) := by
                  intro m
                  induction m with
                  | zero => intro y7 y3_49 y2_50 FIv51 FLv52 fr53 fr54 hI55 kp56 kp57 kp58 iv59 iv60 hm; omega
                  | succ m ih80 =>
                    intro y7 y3_49 y2_50 FIv51 FLv52 fr53 fr54 hI55 kp56 kp57 kp58 iv59 iv60 hm
                    have rg_y7 := i_rng y7
                    have rg_y3_49 := i_rng y3_49
                    have rg_y2_50 := i_rng y2_50
                    have := congrArg Int32.toInt kp56
                    have := congrArg Int32.toInt kp57
                    have := congrArg Int32.toInt kp58
                    refine xw_iload (aX11_store 42 rfl) rfl ?_
                    refine xw_iload (aX11_store 43 rfl) rfl ?_
                    refine hw_icge (tgt := 144) (aX11_store 44 rfl) (by decide) rfl rfl (fun cd62 => ?_) (fun cd62 => ?_)
                    · obtain ⟨x63, q65⟩ : ∃ y : Int32, (y4) + Int32.ofInt (1) = y := ⟨_, rfl⟩
                      have e64 : (x63).toInt = (y4).toInt + (1) := by rw [← q65]; exact i_add rfl (by decide) (by omega) (by omega)
                      refine xw_iinc (L2 := [(4, .int (x63)), (7, .int (y7)), (6, .int (x47)), (5, .ref (base + r41)), (3, .int (y3_49)), (2, .int (y2_50)), (0, .ref (base + 0)), (1, .int (a1))]) (aX11_store 75 rfl) rfl (by decide) (by rw [q65]; rfl) ?_
                      refine xw_goto (tgt := 32) (aX11_store 76 rfl) (by decide) ?_
                      exact hw_L (ih (x63) (y3_49) (y2_50) FIv51 FLv52 fr53 fr54 hI55 (show FIv51 0 9 = x1 from kp56) (by have := (e64 : (x63).toInt = (y4).toInt + (1)); omega) (by have := (e64 : (x63).toInt = (y4).toInt + (1)); omega) (by have := (e64 : (x63).toInt = (y4).toInt + (1)); omega) (by have := (e64 : (x63).toInt = (y4).toInt + (1)); omega)) ⟨rfl, rfl, rfl, rfl, rfl, trivial⟩
                    · refine xw_iloadn (aX11_store 45 rfl) rfl ?_
                      refine xw_iloadn (aX11_store 46 rfl) rfl ?_
                      refine hw_icge (tgt := 144) (aX11_store 47 rfl) (by decide) rfl rfl (fun cd66 => ?_) (fun cd66 => ?_)
                      · obtain ⟨x67, q69⟩ : ∃ y : Int32, (y4) + Int32.ofInt (1) = y := ⟨_, rfl⟩
                        have e68 : (x67).toInt = (y4).toInt + (1) := by rw [← q69]; exact i_add rfl (by decide) (by omega) (by omega)
                        refine xw_iinc (L2 := [(4, .int (x67)), (7, .int (y7)), (6, .int (x47)), (5, .ref (base + r41)), (3, .int (y3_49)), (2, .int (y2_50)), (0, .ref (base + 0)), (1, .int (a1))]) (aX11_store 75 rfl) rfl (by decide) (by rw [q69]; rfl) ?_
                        refine xw_goto (tgt := 32) (aX11_store 76 rfl) (by decide) ?_
                        exact hw_L (ih (x67) (y3_49) (y2_50) FIv51 FLv52 fr53 fr54 hI55 (show FIv51 0 9 = x1 from kp56) (by have := (e68 : (x67).toInt = (y4).toInt + (1)); omega) (by have := (e68 : (x67).toInt = (y4).toInt + (1)); omega) (by have := (e68 : (x67).toInt = (y4).toInt + (1)); omega) (by have := (e68 : (x67).toInt = (y4).toInt + (1)); omega)) ⟨rfl, rfl, rfl, rfl, rfl, trivial⟩
                      · refine hw_aloadn (aX11_store 48 rfl) rfl ?_
                        refine hw_get (v := .ref (base + 19)) (aX11_store 49 rfl) wf_RX11_16 (c0 hS) (s0 hS) (by decide) (congrArg (fun r => va_rf (h_rf base r)) (r0_6 hF)) ?_
                        refine xw_iloadn (aX11_store 50 rfl) rfl ?_
                        refine hw_bp (v := (8 : Int32)) (aX11_store 51 rfl) (by decide) ?_
                        refine xw_idiv (aX11_store 52 rfl) (i_ne0 (by decide : (8 : Int32).toInt = 8) (by omega)) ?_
                        refine hw_tie (A := ((y3_49).toInt) / (8)) (i_div rfl (by decide : (8 : Int32).toInt = 8) (by omega) (by omega)) (fun x70 e71 => ?_)
                        obtain ⟨x72, h73⟩ : ∃ y, FIv51 19 (x70).toNatClampNeg = y := ⟨_, rfl⟩
                        have h73l := congrArg Int32.toInt h73
                        have := i_rng x72
                        refine hw_iald (v := x72) (aX11_store 53 rfl) (c19 hS) (s19 hS) (h_in e71 (by omega) (by omega)) (show FIv51 19 (x70).toNatClampNeg = x72 from h73) ?_
                        refine xw_iloadn (aX11_store 54 rfl) rfl ?_
                        refine hw_bp (v := (8 : Int32)) (aX11_store 55 rfl) (by decide) ?_
                        refine xw_irem (aX11_store 56 rfl) (i_ne0 (by decide : (8 : Int32).toInt = 8) (by omega)) ?_
                        refine hw_tie (A := ((y3_49).toInt) % (8)) (i_rem rfl (by decide : (8 : Int32).toInt = 8) (by omega) (by omega)) (fun x74 e75 => ?_)
                        refine xw_iushr (aX11_store 57 rfl) ?_
                        refine hw_ti (fun x76 => ?_)
                        have b77 := i_rng x76
                        refine hw_ic (v := (1 : Int32)) (aX11_store 58 rfl) (by decide) ?_
                        refine xw_iand (aX11_store 59 rfl) ?_
                        refine hw_tib (lo := 0) (hi := 1) (i_and (x := x76) (m := (1 : Int32)) (M := 1) (by decide) (by decide)) (fun x78 b79 => ?_)
                        refine xw_istore (L2 := [(8, .int (x78)), (7, .int (y7)), (6, .int (x47)), (5, .ref (base + r41)), (4, .int (y4)), (3, .int (y3_49)), (2, .int (y2_50)), (0, .ref (base + 0)), (1, .int (a1))]) (aX11_store 60 rfl) (by decide) rfl ?_
                        refine hw_aloadn (aX11_store 61 rfl) rfl ?_
                        refine hw_get (v := .ref (base + 23)) (aX11_store 62 rfl) wf_RX11_35 (c0 hS) (s0 hS) (by decide) (congrArg (fun r => va_rf (h_rf base r)) (r0_0 hF)) ?_
                        refine hw_aload (aX11_store 63 rfl) rfl ?_
                        refine hw_aload (aX11_store 64 rfl) rfl ?_
                        obtain ⟨x80, h81⟩ : ∃ y, FIv51 r41 3 = y := ⟨_, rfl⟩
                        have h81l := congrArg Int32.toInt h81
                        have := i_rng x80
                        refine hw_get (v := .int (x80)) (aX11_store 65 rfl) wf_RX11_202 lt43 sh45 (by decide) (congrArg Value.int (show FIv51 r41 3 = x80 from h81)) ?_
                        refine xw_iload (aX11_store 66 rfl) rfl ?_
                        refine xw_iadd (aX11_store 67 rfl) ?_
                        have := i_rng ((x80) + (y7))
                        refine xw_iload (aX11_store 68 rfl) rfl ?_
                        refine hw_callV (Bs := [.ref (base + r41), .int (((x80) + (y7))), .int (x78)]) (rest := []) (aX11_store 69 rfl) wc_RX11_225 (by decide) rfl wi_yX1_putBit wv_yX1_putBit (c23 hS) (s23 hS) rfl rfl rfl (Nat.le_of_ble_eq_true rfl) (Nat.le_of_ble_eq_true rfl) (k_X1_putBit (d := d) hS hF hI55 hR (r41) lt43 sh45 ow44 (((x80) + (y7))) (x78) ) (fun v82 sv83 p84 => ?_)
                        obtain ⟨r85, rfl, FI86, FL87, rfl, hI88, f89, f90, t93⟩ := p84
                        show hw sk base _ _ _ _ _ [.int (r85)] _ _
                        refine hw_ifeq (tgt := 135) (aX11_store 70 rfl) (by decide) rfl (fun cd96 => ?_) (fun cd96 => ?_)
                        · obtain ⟨x97, q99⟩ : ∃ y : Int32, (y3_49) + Int32.ofInt (1) = y := ⟨_, rfl⟩
                          have e98 : (x97).toInt = (y3_49).toInt + (1) := by rw [← q99]; exact i_add rfl (by decide) (by omega) (by omega)
                          refine xw_iinc (L2 := [(3, .int (x97)), (8, .int (x78)), (7, .int (y7)), (6, .int (x47)), (5, .ref (base + r41)), (4, .int (y4)), (2, .int (y2_50)), (0, .ref (base + 0)), (1, .int (a1))]) (aX11_store 72 rfl) rfl (by decide) (by rw [q99]; rfl) ?_
                          obtain ⟨x100, q102⟩ : ∃ y : Int32, (y7) + Int32.ofInt (1) = y := ⟨_, rfl⟩
                          have e101 : (x100).toInt = (y7).toInt + (1) := by rw [← q102]; exact i_add rfl (by decide) (by omega) (by omega)
                          refine xw_iinc (L2 := [(7, .int (x100)), (3, .int (x97)), (8, .int (x78)), (6, .int (x47)), (5, .ref (base + r41)), (4, .int (y4)), (2, .int (y2_50)), (0, .ref (base + 0)), (1, .int (a1))]) (aX11_store 73 rfl) rfl (by decide) (by rw [q102]; rfl) ?_
                          refine xw_goto (tgt := 80) (aX11_store 74 rfl) (by decide) ?_
                          exact hw_L (ih80 (x100) (x97) (y2_50) FI86 FL87 (gf_tr ex_rf fr53 f89 rfl rfl rfl) (gf_tr ex_rf fr54 f90 rfl rfl rfl) hI88 (show FI86 0 9 = x1 from (gf_at f89 (c0 hS) (shd_f (by decide) (s0 hS)) rfl (kp56))) (show FI86 1 1 = x31 from (gf_at f89 (c1 hS) (shd_f (by decide) (s1 hS)) rfl (kp57))) (show FI86 r41 2 = x47 from (gf_as hS f89 lt43 sh45 (shd_f (fix_t2 hS hR lt43 sh45 (by unfold g_dt; omega) (by decide +kernel)) sh45) (by decide +kernel) (kp58))) (by have := (e101 : (x100).toInt = (y7).toInt + (1)); have := (e98 : (x97).toInt = (y3_49).toInt + (1)); omega) (by have := (e101 : (x100).toInt = (y7).toInt + (1)); have := (e98 : (x97).toInt = (y3_49).toInt + (1)); omega) (by have := (e101 : (x100).toInt = (y7).toInt + (1)); have := (e98 : (x97).toInt = (y3_49).toInt + (1)); omega)) ⟨rfl, rfl, rfl, rfl, rfl, rfl, rfl, rfl, trivial⟩
                        · obtain ⟨x103, q105⟩ : ∃ y : Int32, (y2_50) + Int32.ofInt (1) = y := ⟨_, rfl⟩
                          have e104 := i_rng x103
                          refine xw_iinc (L2 := [(2, .int (x103)), (8, .int (x78)), (7, .int (y7)), (6, .int (x47)), (5, .ref (base + r41)), (4, .int (y4)), (3, .int (y3_49)), (0, .ref (base + 0)), (1, .int (a1))]) (aX11_store 71 rfl) rfl (by decide) (by rw [q105]; rfl) ?_
                          obtain ⟨x106, q108⟩ : ∃ y : Int32, (y3_49) + Int32.ofInt (1) = y := ⟨_, rfl⟩
                          have e107 : (x106).toInt = (y3_49).toInt + (1) := by rw [← q108]; exact i_add rfl (by decide) (by omega) (by omega)
                          refine xw_iinc (L2 := [(3, .int (x106)), (2, .int (x103)), (8, .int (x78)), (7, .int (y7)), (6, .int (x47)), (5, .ref (base + r41)), (4, .int (y4)), (0, .ref (base + 0)), (1, .int (a1))]) (aX11_store 72 rfl) rfl (by decide) (by rw [q108]; rfl) ?_
                          obtain ⟨x109, q111⟩ : ∃ y : Int32, (y7) + Int32.ofInt (1) = y := ⟨_, rfl⟩
                          have e110 : (x109).toInt = (y7).toInt + (1) := by rw [← q111]; exact i_add rfl (by decide) (by omega) (by omega)
                          refine xw_iinc (L2 := [(7, .int (x109)), (3, .int (x106)), (2, .int (x103)), (8, .int (x78)), (6, .int (x47)), (5, .ref (base + r41)), (4, .int (y4)), (0, .ref (base + 0)), (1, .int (a1))]) (aX11_store 73 rfl) rfl (by decide) (by rw [q111]; rfl) ?_
                          refine xw_goto (tgt := 80) (aX11_store 74 rfl) (by decide) ?_
                          exact hw_L (ih80 (x109) (x106) (x103) FI86 FL87 (gf_tr ex_rf fr53 f89 rfl rfl rfl) (gf_tr ex_rf fr54 f90 rfl rfl rfl) hI88 (show FI86 0 9 = x1 from (gf_at f89 (c0 hS) (shd_f (by decide) (s0 hS)) rfl (kp56))) (show FI86 1 1 = x31 from (gf_at f89 (c1 hS) (shd_f (by decide) (s1 hS)) rfl (kp57))) (show FI86 r41 2 = x47 from (gf_as hS f89 lt43 sh45 (shd_f (fix_t2 hS hR lt43 sh45 (by unfold g_dt; omega) (by decide +kernel)) sh45) (by decide +kernel) (kp58))) (by have := (e110 : (x109).toInt = (y7).toInt + (1)); have := (e107 : (x106).toInt = (y3_49).toInt + (1)); omega) (by have := (e110 : (x109).toInt = (y7).toInt + (1)); have := (e107 : (x106).toInt = (y3_49).toInt + (1)); omega) (by have := (e110 : (x109).toInt = (y7).toInt + (1)); have := (e107 : (x106).toInt = (y3_49).toInt + (1)); omega)) ⟨rfl, rfl, rfl, rfl, rfl, rfl, rfl, rfl, trivial⟩
                exact hw_L (lp61 (((a1).toInt - (y3).toInt : Int).toNat + 1) ((0 : Int32)) (y3) (y2) FIv11 FLv12 fr13 fr14 hI15 (show FIv11 0 9 = x1 from kp16) (show FIv11 1 1 = x31 from h32) (show FIv11 r41 2 = x47 from h48) (by have := ((by decide : (0 : Int32).toInt = 0) : ((0 : Int32)).toInt = 0); omega) (by have := ((by decide : (0 : Int32).toInt = 0) : ((0 : Int32)).toInt = 0); omega) (by have := ((by decide : (0 : Int32).toInt = 0) : ((0 : Int32)).toInt = 0); omega)) ⟨rfl, rfl, rfl, rfl, rfl, rfl, rfl, rfl, trivial⟩
              · refine xw_iloadn (aX11_store 35 rfl) rfl ?_
                refine xw_goto (tgt := 75) (aX11_store 36 rfl) (by decide) ?_
                refine xw_istore (L2 := [(6, .int (a1)), (5, .ref (base + r41)), (4, .int (y4)), (3, .int (y3)), (2, .int (y2)), (0, .ref (base + 0)), (1, .int (a1))]) (aX11_store 39 rfl) (by decide) rfl ?_
                refine hw_ic (v := (0 : Int32)) (aX11_store 40 rfl) (by decide) ?_
                refine xw_istore (L2 := [(7, .int ((0 : Int32))), (6, .int (a1)), (5, .ref (base + r41)), (4, .int (y4)), (3, .int (y3)), (2, .int (y2)), (0, .ref (base + 0)), (1, .int (a1))]) (aX11_store 41 rfl) (by decide) rfl ?_
                have lp123 : ∀ (m : Nat) (y7 : Int32) (y3_112 : Int32) (y2_113 : Int32) (FIv114 : Nat → Nat → Int32) (FLv115 : Nat → Nat → Int64), (g_fr n (shd SH) [(0, 9)] [25] [] FI FIv114) → (g_fr n (shd SH) [] [24] [] FL FLv115) → (g_I FIv114) → (FIv114 0 9 = x1) → (FIv114 1 1 = x31) → (0 ≤ (y3_112).toInt ∧ (y3_112).toInt ≤ 512) → ((y3_112).toInt ≤ (a1).toInt) → (a1).toInt - (y3_112).toInt < m → hw sk base (d + 2) none 144 80 [(7, .int (y7)), (6, .int (a1)), (5, .ref (base + r41)), (4, .int (y4)), (3, .int (y3_112)), (2, .int (y2_113)), (0, .ref (base + 0)), (1, .int (a1))] [] (n, sl, SH, FIv114, FLv115, FR) (h_I (fun r s => ∃ FI' FL', s = (n, sl, SH, FI', FL', FR) ∧ g_I FI' ∧ g_fr n (shd SH) [(0, 9)] [25] [] FI FI' ∧ g_fr n (shd SH) [] [24] [] FL FL' ∧ (((FI' 0 9).toInt = (FI 0 9).toInt ∧ ((a1).toInt < 1 ∨ 512 < (a1).toInt ∨ 8 * (FI 0 9).toInt < (a1).toInt)) ∨ ((FI' 0 9).toInt = 0 ∧ 1 ≤ (a1).toInt ∧ (a1).toInt ≤ 512 ∧ (a1).toInt ≤ 8 * (FI 0 9).toInt)))) := by
                  intro m
                  induction m with
                  | zero => intro y7 y3_112 y2_113 FIv114 FLv115 fr116 fr117 hI118 kp119 kp120 iv121 iv122 hm; omega
                  | succ m ih80 =>
                    intro y7 y3_112 y2_113 FIv114 FLv115 fr116 fr117 hI118 kp119 kp120 iv121 iv122 hm
                    have rg_y7 := i_rng y7
                    have rg_y3_112 := i_rng y3_112
                    have rg_y2_113 := i_rng y2_113
                    have := congrArg Int32.toInt kp119
                    have := congrArg Int32.toInt kp120
                    refine xw_iload (aX11_store 42 rfl) rfl ?_
                    refine xw_iload (aX11_store 43 rfl) rfl ?_
                    refine hw_icge (tgt := 144) (aX11_store 44 rfl) (by decide) rfl rfl (fun cd124 => ?_) (fun cd124 => ?_)
                    · obtain ⟨x125, q127⟩ : ∃ y : Int32, (y4) + Int32.ofInt (1) = y := ⟨_, rfl⟩
                      have e126 : (x125).toInt = (y4).toInt + (1) := by rw [← q127]; exact i_add rfl (by decide) (by omega) (by omega)
                      refine xw_iinc (L2 := [(4, .int (x125)), (7, .int (y7)), (6, .int (a1)), (5, .ref (base + r41)), (3, .int (y3_112)), (2, .int (y2_113)), (0, .ref (base + 0)), (1, .int (a1))]) (aX11_store 75 rfl) rfl (by decide) (by rw [q127]; rfl) ?_
                      refine xw_goto (tgt := 32) (aX11_store 76 rfl) (by decide) ?_
                      exact hw_L (ih (x125) (y3_112) (y2_113) FIv114 FLv115 fr116 fr117 hI118 (show FIv114 0 9 = x1 from kp119) (by have := (e126 : (x125).toInt = (y4).toInt + (1)); omega) (by have := (e126 : (x125).toInt = (y4).toInt + (1)); omega) (by have := (e126 : (x125).toInt = (y4).toInt + (1)); omega) (by have := (e126 : (x125).toInt = (y4).toInt + (1)); omega)) ⟨rfl, rfl, rfl, rfl, rfl, trivial⟩
                    · refine xw_iloadn (aX11_store 45 rfl) rfl ?_
                      refine xw_iloadn (aX11_store 46 rfl) rfl ?_
                      refine hw_icge (tgt := 144) (aX11_store 47 rfl) (by decide) rfl rfl (fun cd128 => ?_) (fun cd128 => ?_)
                      · obtain ⟨x129, q131⟩ : ∃ y : Int32, (y4) + Int32.ofInt (1) = y := ⟨_, rfl⟩
                        have e130 : (x129).toInt = (y4).toInt + (1) := by rw [← q131]; exact i_add rfl (by decide) (by omega) (by omega)
                        refine xw_iinc (L2 := [(4, .int (x129)), (7, .int (y7)), (6, .int (a1)), (5, .ref (base + r41)), (3, .int (y3_112)), (2, .int (y2_113)), (0, .ref (base + 0)), (1, .int (a1))]) (aX11_store 75 rfl) rfl (by decide) (by rw [q131]; rfl) ?_
                        refine xw_goto (tgt := 32) (aX11_store 76 rfl) (by decide) ?_
                        exact hw_L (ih (x129) (y3_112) (y2_113) FIv114 FLv115 fr116 fr117 hI118 (show FIv114 0 9 = x1 from kp119) (by have := (e130 : (x129).toInt = (y4).toInt + (1)); omega) (by have := (e130 : (x129).toInt = (y4).toInt + (1)); omega) (by have := (e130 : (x129).toInt = (y4).toInt + (1)); omega) (by have := (e130 : (x129).toInt = (y4).toInt + (1)); omega)) ⟨rfl, rfl, rfl, rfl, rfl, trivial⟩
                      · refine hw_aloadn (aX11_store 48 rfl) rfl ?_
                        refine hw_get (v := .ref (base + 19)) (aX11_store 49 rfl) wf_RX11_16 (c0 hS) (s0 hS) (by decide) (congrArg (fun r => va_rf (h_rf base r)) (r0_6 hF)) ?_
                        refine xw_iloadn (aX11_store 50 rfl) rfl ?_
                        refine hw_bp (v := (8 : Int32)) (aX11_store 51 rfl) (by decide) ?_
                        refine xw_idiv (aX11_store 52 rfl) (i_ne0 (by decide : (8 : Int32).toInt = 8) (by omega)) ?_
                        refine hw_tie (A := ((y3_112).toInt) / (8)) (i_div rfl (by decide : (8 : Int32).toInt = 8) (by omega) (by omega)) (fun x132 e133 => ?_)
                        obtain ⟨x134, h135⟩ : ∃ y, FIv114 19 (x132).toNatClampNeg = y := ⟨_, rfl⟩
                        have h135l := congrArg Int32.toInt h135
                        have := i_rng x134
                        refine hw_iald (v := x134) (aX11_store 53 rfl) (c19 hS) (s19 hS) (h_in e133 (by omega) (by omega)) (show FIv114 19 (x132).toNatClampNeg = x134 from h135) ?_
                        refine xw_iloadn (aX11_store 54 rfl) rfl ?_
                        refine hw_bp (v := (8 : Int32)) (aX11_store 55 rfl) (by decide) ?_
                        refine xw_irem (aX11_store 56 rfl) (i_ne0 (by decide : (8 : Int32).toInt = 8) (by omega)) ?_
                        refine hw_tie (A := ((y3_112).toInt) % (8)) (i_rem rfl (by decide : (8 : Int32).toInt = 8) (by omega) (by omega)) (fun x136 e137 => ?_)
                        refine xw_iushr (aX11_store 57 rfl) ?_
                        refine hw_ti (fun x138 => ?_)
                        have b139 := i_rng x138
                        refine hw_ic (v := (1 : Int32)) (aX11_store 58 rfl) (by decide) ?_
                        refine xw_iand (aX11_store 59 rfl) ?_
                        refine hw_tib (lo := 0) (hi := 1) (i_and (x := x138) (m := (1 : Int32)) (M := 1) (by decide) (by decide)) (fun x140 b141 => ?_)
                        refine xw_istore (L2 := [(8, .int (x140)), (7, .int (y7)), (6, .int (a1)), (5, .ref (base + r41)), (4, .int (y4)), (3, .int (y3_112)), (2, .int (y2_113)), (0, .ref (base + 0)), (1, .int (a1))]) (aX11_store 60 rfl) (by decide) rfl ?_
                        refine hw_aloadn (aX11_store 61 rfl) rfl ?_
                        refine hw_get (v := .ref (base + 23)) (aX11_store 62 rfl) wf_RX11_35 (c0 hS) (s0 hS) (by decide) (congrArg (fun r => va_rf (h_rf base r)) (r0_0 hF)) ?_
                        refine hw_aload (aX11_store 63 rfl) rfl ?_
                        refine hw_aload (aX11_store 64 rfl) rfl ?_
                        obtain ⟨x142, h143⟩ : ∃ y, FIv114 r41 3 = y := ⟨_, rfl⟩
                        have h143l := congrArg Int32.toInt h143
                        have := i_rng x142
                        refine hw_get (v := .int (x142)) (aX11_store 65 rfl) wf_RX11_202 lt43 sh45 (by decide) (congrArg Value.int (show FIv114 r41 3 = x142 from h143)) ?_
                        refine xw_iload (aX11_store 66 rfl) rfl ?_
                        refine xw_iadd (aX11_store 67 rfl) ?_
                        have := i_rng ((x142) + (y7))
                        refine xw_iload (aX11_store 68 rfl) rfl ?_
                        refine hw_callV (Bs := [.ref (base + r41), .int (((x142) + (y7))), .int (x140)]) (rest := []) (aX11_store 69 rfl) wc_RX11_225 (by decide) rfl wi_yX1_putBit wv_yX1_putBit (c23 hS) (s23 hS) rfl rfl rfl (Nat.le_of_ble_eq_true rfl) (Nat.le_of_ble_eq_true rfl) (k_X1_putBit (d := d) hS hF hI118 hR (r41) lt43 sh45 ow44 (((x142) + (y7))) (x140) ) (fun v144 sv145 p146 => ?_)
                        obtain ⟨r147, rfl, FI148, FL149, rfl, hI150, f151, f152, t155⟩ := p146
                        show hw sk base _ _ _ _ _ [.int (r147)] _ _
                        refine hw_ifeq (tgt := 135) (aX11_store 70 rfl) (by decide) rfl (fun cd158 => ?_) (fun cd158 => ?_)
                        · obtain ⟨x159, q161⟩ : ∃ y : Int32, (y3_112) + Int32.ofInt (1) = y := ⟨_, rfl⟩
                          have e160 : (x159).toInt = (y3_112).toInt + (1) := by rw [← q161]; exact i_add rfl (by decide) (by omega) (by omega)
                          refine xw_iinc (L2 := [(3, .int (x159)), (8, .int (x140)), (7, .int (y7)), (6, .int (a1)), (5, .ref (base + r41)), (4, .int (y4)), (2, .int (y2_113)), (0, .ref (base + 0)), (1, .int (a1))]) (aX11_store 72 rfl) rfl (by decide) (by rw [q161]; rfl) ?_
                          obtain ⟨x162, q164⟩ : ∃ y : Int32, (y7) + Int32.ofInt (1) = y := ⟨_, rfl⟩
                          have e163 : (x162).toInt = (y7).toInt + (1) := by rw [← q164]; exact i_add rfl (by decide) (by omega) (by omega)
                          refine xw_iinc (L2 := [(7, .int (x162)), (3, .int (x159)), (8, .int (x140)), (6, .int (a1)), (5, .ref (base + r41)), (4, .int (y4)), (2, .int (y2_113)), (0, .ref (base + 0)), (1, .int (a1))]) (aX11_store 73 rfl) rfl (by decide) (by rw [q164]; rfl) ?_
                          refine xw_goto (tgt := 80) (aX11_store 74 rfl) (by decide) ?_
                          exact hw_L (ih80 (x162) (x159) (y2_113) FI148 FL149 (gf_tr ex_rf fr116 f151 rfl rfl rfl) (gf_tr ex_rf fr117 f152 rfl rfl rfl) hI150 (show FI148 0 9 = x1 from (gf_at f151 (c0 hS) (shd_f (by decide) (s0 hS)) rfl (kp119))) (show FI148 1 1 = x31 from (gf_at f151 (c1 hS) (shd_f (by decide) (s1 hS)) rfl (kp120))) (by have := (e163 : (x162).toInt = (y7).toInt + (1)); have := (e160 : (x159).toInt = (y3_112).toInt + (1)); omega) (by have := (e163 : (x162).toInt = (y7).toInt + (1)); have := (e160 : (x159).toInt = (y3_112).toInt + (1)); omega) (by have := (e163 : (x162).toInt = (y7).toInt + (1)); have := (e160 : (x159).toInt = (y3_112).toInt + (1)); omega)) ⟨rfl, rfl, rfl, rfl, rfl, rfl, rfl, rfl, trivial⟩
                        · obtain ⟨x165, q167⟩ : ∃ y : Int32, (y2_113) + Int32.ofInt (1) = y := ⟨_, rfl⟩
                          have e166 := i_rng x165
                          refine xw_iinc (L2 := [(2, .int (x165)), (8, .int (x140)), (7, .int (y7)), (6, .int (a1)), (5, .ref (base + r41)), (4, .int (y4)), (3, .int (y3_112)), (0, .ref (base + 0)), (1, .int (a1))]) (aX11_store 71 rfl) rfl (by decide) (by rw [q167]; rfl) ?_
                          obtain ⟨x168, q170⟩ : ∃ y : Int32, (y3_112) + Int32.ofInt (1) = y := ⟨_, rfl⟩
                          have e169 : (x168).toInt = (y3_112).toInt + (1) := by rw [← q170]; exact i_add rfl (by decide) (by omega) (by omega)
                          refine xw_iinc (L2 := [(3, .int (x168)), (2, .int (x165)), (8, .int (x140)), (7, .int (y7)), (6, .int (a1)), (5, .ref (base + r41)), (4, .int (y4)), (0, .ref (base + 0)), (1, .int (a1))]) (aX11_store 72 rfl) rfl (by decide) (by rw [q170]; rfl) ?_
                          obtain ⟨x171, q173⟩ : ∃ y : Int32, (y7) + Int32.ofInt (1) = y := ⟨_, rfl⟩
                          have e172 : (x171).toInt = (y7).toInt + (1) := by rw [← q173]; exact i_add rfl (by decide) (by omega) (by omega)
                          refine xw_iinc (L2 := [(7, .int (x171)), (3, .int (x168)), (2, .int (x165)), (8, .int (x140)), (6, .int (a1)), (5, .ref (base + r41)), (4, .int (y4)), (0, .ref (base + 0)), (1, .int (a1))]) (aX11_store 73 rfl) rfl (by decide) (by rw [q173]; rfl) ?_
                          refine xw_goto (tgt := 80) (aX11_store 74 rfl) (by decide) ?_
                          exact hw_L (ih80 (x171) (x168) (x165) FI148 FL149 (gf_tr ex_rf fr116 f151 rfl rfl rfl) (gf_tr ex_rf fr117 f152 rfl rfl rfl) hI150 (show FI148 0 9 = x1 from (gf_at f151 (c0 hS) (shd_f (by decide) (s0 hS)) rfl (kp119))) (show FI148 1 1 = x31 from (gf_at f151 (c1 hS) (shd_f (by decide) (s1 hS)) rfl (kp120))) (by have := (e172 : (x171).toInt = (y7).toInt + (1)); have := (e169 : (x168).toInt = (y3_112).toInt + (1)); omega) (by have := (e172 : (x171).toInt = (y7).toInt + (1)); have := (e169 : (x168).toInt = (y3_112).toInt + (1)); omega) (by have := (e172 : (x171).toInt = (y7).toInt + (1)); have := (e169 : (x168).toInt = (y3_112).toInt + (1)); omega)) ⟨rfl, rfl, rfl, rfl, rfl, rfl, rfl, rfl, trivial⟩
                exact hw_L (lp123 (((a1).toInt - (y3).toInt : Int).toNat + 1) ((0 : Int32)) (y3) (y2) FIv11 FLv12 fr13 fr14 hI15 (show FIv11 0 9 = x1 from kp16) (show FIv11 1 1 = x31 from h32) (by have := ((by decide : (0 : Int32).toInt = 0) : ((0 : Int32)).toInt = 0); omega) (by have := ((by decide : (0 : Int32).toInt = 0) : ((0 : Int32)).toInt = 0); omega) (by have := ((by decide : (0 : Int32).toInt = 0) : ((0 : Int32)).toInt = 0); omega)) ⟨rfl, rfl, rfl, rfl, rfl, rfl, rfl, rfl, trivial⟩
        exact hw_L (lp20 ((17 - 0 : Int).toNat + 1) ((0 : Int32)) ((0 : Int32)) ((0 : Int32)) FI FL gf_rf gf_rf hI (show FI 0 9 = x1 from h2) (by have := ((by decide : (0 : Int32).toInt = 0) : ((0 : Int32)).toInt = 0); have := ((by decide : (0 : Int32).toInt = 0) : ((0 : Int32)).toInt = 0); have := ((by decide : (0 : Int32).toInt = 0) : ((0 : Int32)).toInt = 0); omega) (by have := ((by decide : (0 : Int32).toInt = 0) : ((0 : Int32)).toInt = 0); have := ((by decide : (0 : Int32).toInt = 0) : ((0 : Int32)).toInt = 0); have := ((by decide : (0 : Int32).toInt = 0) : ((0 : Int32)).toInt = 0); omega) (by have := ((by decide : (0 : Int32).toInt = 0) : ((0 : Int32)).toInt = 0); have := ((by decide : (0 : Int32).toInt = 0) : ((0 : Int32)).toInt = 0); have := ((by decide : (0 : Int32).toInt = 0) : ((0 : Int32)).toInt = 0); omega) (by have := ((by decide : (0 : Int32).toInt = 0) : ((0 : Int32)).toInt = 0); have := ((by decide : (0 : Int32).toInt = 0) : ((0 : Int32)).toInt = 0); have := ((by decide : (0 : Int32).toInt = 0) : ((0 : Int32)).toInt = 0); omega)) ⟨rfl, rfl, rfl, rfl, rfl, trivial⟩
      · refine hw_ic (v := ((-1) : Int32)) (aX11_store 12 rfl) (by decide) ?_
        refine xw_iret (aX11_store 13 rfl) rfl rfl ?_
        have e174 : (((-1) : Int32)).toInt = (-1) := (by decide : ((-1) : Int32).toInt = (-1))
        exact ⟨((-1) : Int32), rfl, FI, FL, rfl, hI, gf_rf, gf_rf, (by have : (((-1) : Int32)).toInt = (-1) := (by decide); have := congrArg Int32.toInt (show FI 0 9 = x1 from h2); omega)⟩
set_option maxHeartbeats 4000000 in
set_option maxRecDepth 100000 in
theorem k_modelPuts {sk : xK} {base d n sl : Nat} {SH : Nat → Nat × Nat} {FI : Nat → Nat → Int32} {FL : Nat → Nat → Int64} {FR : Nat → Nat → Option Nat} (hS : h_S n SH) (hF : h_FR FR) (hI : g_I FI) (hR : g_R n SH FR) (a1 : Int32) (g0 : (FI 121 13).toInt + 4 ≤ 1000) : hw sk base d none 153 0 [(0, .ref (base + 121)), (1, .int (a1))] [] (n, sl, SH, FI, FL, FR) (h_V (fun s => ∃ FI', s = (n, sl, SH, FI', FL, FR) ∧ g_I FI' ∧ g_fr n (shd SH) [(121, 13)] [126] [] FI FI' ∧ ((FI' 121 13).toInt = (FI 121 13).toInt + 4))) := by
  have rg_a1 := i_rng a1
  obtain ⟨x1, h2⟩ : ∃ y, FI 121 13 = y := ⟨_, rfl⟩
  have h2l := congrArg Int32.toInt h2
  have b3 := gI_121_13 hI; rw [h2] at b3
  refine hw_bp (v := (24 : Int32)) (aX12_puts 0 rfl) (by decide) ?_
  refine xw_istoren (L2 := [(2, .int ((24 : Int32))), (0, .ref (base + 121)), (1, .int (a1))]) (aX12_puts 1 rfl) (by decide) rfl ?_
  have lp9 : ∀ (m : Nat) (y2 : Int32) (FIv4 : Nat → Nat → Int32), (g_fr n (shd SH) [(121, 13)] [126] [] FI FIv4) → (g_I FIv4) → (-8 ≤ (y2).toInt ∧ (y2).toInt ≤ 24) → (8 * ((FIv4 121 13).toInt - (FI 121 13).toInt) = 24 - (y2).toInt) → (y2).toInt + 8 < m → hw sk base d none 153 3 [(2, .int (y2)), (0, .ref (base + 121)), (1, .int (a1))] [] (n, sl, SH, FIv4, FL, FR) (h_V (fun s => ∃ FI', s = (n, sl, SH, FI', FL, FR) ∧ g_I FI' ∧ g_fr n (shd SH) [(121, 13)] [126] [] FI FI' ∧ ((FI' 121 13).toInt = (FI 121 13).toInt + 4))) := by
    intro m
    induction m with
    | zero => intro y2 FIv4 fr5 hI6 iv7 iv8 hm; omega
    | succ m ih =>
      intro y2 FIv4 fr5 hI6 iv7 iv8 hm
      have rg_y2 := i_rng y2
      obtain ⟨x10, h11⟩ : ∃ y, FIv4 121 13 = y := ⟨_, rfl⟩
      have h11l := congrArg Int32.toInt h11
      have b12 := gI_121_13 hI6; rw [h11] at b12
      refine xw_iloadn (aX12_puts 2 rfl) rfl ?_
      refine hw_iflt (tgt := 39) (aX12_puts 3 rfl) (by decide) rfl (fun cd13 => ?_) (fun cd13 => ?_)
      · refine xw_vret (aX12_puts 22 rfl) rfl ?_
        exact ⟨rfl, FIv4, rfl, hI6, fr5, (by have := congrArg Int32.toInt (show FIv4 121 13 = x10 from h11); omega)⟩
      · refine hw_aloadn (aX12_puts 4 rfl) rfl ?_
        refine hw_get (v := .ref (base + 126)) (aX12_puts 5 rfl) wf_RX12_30 (c121 hS) (s121 hS) (by decide) (congrArg (fun r => va_rf (h_rf base r)) (r121_12 hF)) ?_
        refine hw_aloadn (aX12_puts 6 rfl) rfl ?_
        refine hw_get (v := .int (x10)) (aX12_puts 7 rfl) wf_RX12_190 (c121 hS) (s121 hS) (by decide) (congrArg Value.int (show FIv4 121 13 = x10 from h11)) ?_
        refine xw_iloadn (aX12_puts 8 rfl) rfl ?_
        refine xw_iloadn (aX12_puts 9 rfl) rfl ?_
        refine xw_ishr (aX12_puts 10 rfl) ?_
        refine hw_ti (fun x14 => ?_)
        have b15 := i_rng x14
        refine hw_sp (v := (255 : Int32)) (aX12_puts 11 rfl) (by decide) ?_
        refine xw_iand (aX12_puts 12 rfl) ?_
        refine hw_tib (lo := 0) (hi := 255) (i_and (x := x14) (m := (255 : Int32)) (M := 255) (by decide) (by decide)) (fun x16 b17 => ?_)
        refine hv_iast (k := (x10).toNatClampNeg) (aX12_puts 13 rfl) (c126 hS) (s126 hS) (h_in rfl (by omega) (by omega)) rfl (fun FI18 u19 => ?_)
        have hI20 : g_I FI18 := gU_126 hI6 u19 (by omega) (by omega)
        refine hw_aloadn (aX12_puts 14 rfl) rfl ?_
        refine hw_aloadn (aX12_puts 15 rfl) rfl ?_
        refine hw_get (v := .int (x10)) (aX12_puts 16 rfl) wf_RX12_190 (c121 hS) (s121 hS) (by decide) (congrArg Value.int (show FI18 121 13 = x10 from (up_c u19 (by decide) (h11)))) ?_
        refine hw_ic (v := (1 : Int32)) (aX12_puts 17 rfl) (by decide) ?_
        refine xw_iadd (aX12_puts 18 rfl) ?_
        refine hw_tie (A := ((x10).toInt) + (1)) (i_add rfl (by decide : (1 : Int32).toInt = 1) (by omega) (by omega)) (fun x21 e22 => ?_)
        refine hv_puti (aX12_puts 19 rfl) wf_RX12_190 (c121 hS) (s121 hS) (by decide) rfl rfl (fun FI23 u24 => ?_)
        have hI25 : g_I FI23 := gU_121_13 hI20 u24 (by have := (e22 : (x21).toInt = ((x10).toInt) + (1)); omega) (by have := (e22 : (x21).toInt = ((x10).toInt) + (1)); omega)
        obtain ⟨x26, q28⟩ : ∃ y : Int32, (y2) + Int32.ofInt (-8) = y := ⟨_, rfl⟩
        have e27 : (x26).toInt = (y2).toInt + (-8) := by rw [← q28]; exact i_add rfl (by decide) (by omega) (by omega)
        refine xw_iinc (L2 := [(2, .int (x26)), (0, .ref (base + 121)), (1, .int (a1))]) (aX12_puts 20 rfl) rfl (by decide) (by rw [q28]; rfl) ?_
        refine xw_goto (tgt := 3) (aX12_puts 21 rfl) (by decide) ?_
        exact hw_L (ih (x26) FI23 (gf_f (gf_a fr5 u19 (by decide)) u24 (by decide)) hI25 (by have := (e27 : (x26).toInt = (y2).toInt + (-8)); omega) (by have := (e27 : (x26).toInt = (y2).toInt + (-8)); have := congrArg Int32.toInt (show FI23 121 13 = x21 from up_eq u24); have := (e22 : (x21).toInt = ((x10).toInt) + (1)); omega) (by have := (e27 : (x26).toInt = (y2).toInt + (-8)); omega)) ⟨rfl, rfl, rfl, trivial⟩
  exact hw_L (lp9 ((24 + 8 : Int).toNat + 1) ((24 : Int32)) FI gf_rf hI (by have := ((by decide : (24 : Int32).toInt = 24) : ((24 : Int32)).toInt = 24); omega) (by have := ((by decide : (24 : Int32).toInt = 24) : ((24 : Int32)).toInt = 24); have := congrArg Int32.toInt (show FI 121 13 = x1 from h2); omega) (by have := ((by decide : (24 : Int32).toInt = 24) : ((24 : Int32)).toInt = 24); omega)) ⟨rfl, rfl, rfl, trivial⟩
set_option maxHeartbeats 4000000 in
set_option maxRecDepth 100000 in
theorem k_modelFeed {sk : xK} {base d n sl : Nat} {SH : Nat → Nat × Nat} {FI : Nat → Nat → Int32} {FL : Nat → Nat → Int64} {FR : Nat → Nat → Option Nat} (hS : h_S n SH) (hF : h_FR FR) (hI : g_I FI) (hR : g_R n SH FR) (a1 : Int32) (a2 : Int32) (a3 : Int32) (a4 : Int32) (a5 : Int32) : hw sk base (d + 1) none 154 0 [(0, .ref (base + 121)), (1, .int (a1)), (2, .int (a2)), (3, .int (a3)), (4, .int (a4)), (5, .int (a5))] [] (n, sl, SH, FI, FL, FR) (h_I (fun r s => ∃ FI', s = (n, sl, SH, FI', FL, FR) ∧ g_I FI' ∧ g_fr n (shd SH) [(121, 0), (121, 13)] [126] [] FI FI' ∧ ((r.toInt = -1 ∧ (FI' 121 13).toInt = (FI 121 13).toInt ∧ 980 < (FI 121 13).toInt) ∨ (r.toInt = (FI 121 13).toInt + 20 ∧ (FI' 121 13).toInt = (FI 121 13).toInt + 20 ∧ (FI 121 13).toInt ≤ 980)))) := by
  have rg_a1 := i_rng a1
  have rg_a2 := i_rng a2
  have rg_a3 := i_rng a3
  have rg_a4 := i_rng a4
  have rg_a5 := i_rng a5
  obtain ⟨x1, h2⟩ : ∃ y, FI 121 13 = y := ⟨_, rfl⟩
  have h2l := congrArg Int32.toInt h2
  have b3 := gI_121_13 hI; rw [h2] at b3
  refine hw_aloadn (aX12_feed 0 rfl) rfl ?_
  refine hw_ic (v := (0 : Int32)) (aX12_feed 1 rfl) (by decide) ?_
  refine hv_puti (aX12_feed 2 rfl) wf_RX12_187 (c121 hS) (s121 hS) (by decide) rfl rfl (fun FI4 u5 => ?_)
  have hI6 : g_I FI4 := gU_F hI u5 rfl
  refine hw_aloadn (aX12_feed 3 rfl) rfl ?_
  refine hw_get (v := .int (x1)) (aX12_feed 4 rfl) wf_RX12_190 (c121 hS) (s121 hS) (by decide) (congrArg Value.int (show FI4 121 13 = x1 from (up_k u5 (by decide) (h2)))) ?_
  refine hw_bp (v := (20 : Int32)) (aX12_feed 5 rfl) (by decide) ?_
  refine xw_iadd (aX12_feed 6 rfl) ?_
  refine hw_tie (A := ((x1).toInt) + (20)) (i_add rfl (by decide : (20 : Int32).toInt = 20) (by omega) (by omega)) (fun x7 e8 => ?_)
  refine hw_sp (v := (1000 : Int32)) (aX12_feed 7 rfl) (by decide) ?_
  refine hw_icle (tgt := 20) (aX12_feed 8 rfl) (by decide) e8 (by decide : (1000 : Int32).toInt = 1000) (fun cd9 => ?_) (fun cd9 => ?_)
  · refine hw_aloadn (aX12_feed 11 rfl) rfl ?_
    refine xw_iloadn (aX12_feed 12 rfl) rfl ?_
    refine hw_callV (Bs := [.int (a1)]) (rest := []) (aX12_feed 13 rfl) wc_RX12_193 (by decide) rfl wi_yX12_puts wv_yX12_puts (c121 hS) (s121 hS) rfl rfl rfl (Nat.le_of_ble_eq_true rfl) (Nat.le_of_ble_eq_true rfl) (k_modelPuts (d := d) hS hF hI6 hR (a1) (by have := congrArg Int32.toInt (show FI4 121 13 = x1 from (up_k u5 (by decide) (h2))); omega)) (fun v10 sv11 p12 => ?_)
    have := congrArg Int32.toInt (show FI4 121 13 = x1 from (up_k u5 (by decide) (h2)))
    obtain ⟨rfl, FI14, rfl, hI15, f16, t19⟩ := p12
    obtain ⟨x22, h23⟩ : ∃ y, FI14 121 13 = y := ⟨_, rfl⟩
    have h23l := congrArg Int32.toInt h23
    have b24 := gI_121_13 hI15; rw [h23] at b24
    show hw sk base _ _ _ _ _ [] _ _
    refine hw_aloadn (aX12_feed 14 rfl) rfl ?_
    refine xw_iloadn (aX12_feed 15 rfl) rfl ?_
    refine hw_callV (Bs := [.int (a2)]) (rest := []) (aX12_feed 16 rfl) wc_RX12_193 (by decide) rfl wi_yX12_puts wv_yX12_puts (c121 hS) (s121 hS) rfl rfl rfl (Nat.le_of_ble_eq_true rfl) (Nat.le_of_ble_eq_true rfl) (k_modelPuts (d := d) hS hF hI15 hR (a2) (by have := congrArg Int32.toInt (show FI14 121 13 = x22 from h23); omega)) (fun v25 sv26 p27 => ?_)
    have := congrArg Int32.toInt (show FI14 121 13 = x22 from h23)
    obtain ⟨rfl, FI29, rfl, hI30, f31, t34⟩ := p27
    obtain ⟨x37, h38⟩ : ∃ y, FI29 121 13 = y := ⟨_, rfl⟩
    have h38l := congrArg Int32.toInt h38
    have b39 := gI_121_13 hI30; rw [h38] at b39
    show hw sk base _ _ _ _ _ [] _ _
    refine hw_aloadn (aX12_feed 17 rfl) rfl ?_
    refine xw_iloadn (aX12_feed 18 rfl) rfl ?_
    refine hw_callV (Bs := [.int (a3)]) (rest := []) (aX12_feed 19 rfl) wc_RX12_193 (by decide) rfl wi_yX12_puts wv_yX12_puts (c121 hS) (s121 hS) rfl rfl rfl (Nat.le_of_ble_eq_true rfl) (Nat.le_of_ble_eq_true rfl) (k_modelPuts (d := d) hS hF hI30 hR (a3) (by have := congrArg Int32.toInt (show FI29 121 13 = x37 from h38); omega)) (fun v40 sv41 p42 => ?_)
    have := congrArg Int32.toInt (show FI29 121 13 = x37 from h38)
    obtain ⟨rfl, FI44, rfl, hI45, f46, t49⟩ := p42
    obtain ⟨x52, h53⟩ : ∃ y, FI44 121 13 = y := ⟨_, rfl⟩
    have h53l := congrArg Int32.toInt h53
    have b54 := gI_121_13 hI45; rw [h53] at b54
    show hw sk base _ _ _ _ _ [] _ _
    refine hw_aloadn (aX12_feed 20 rfl) rfl ?_
    refine xw_iload (aX12_feed 21 rfl) rfl ?_
    refine hw_callV (Bs := [.int (a4)]) (rest := []) (aX12_feed 22 rfl) wc_RX12_193 (by decide) rfl wi_yX12_puts wv_yX12_puts (c121 hS) (s121 hS) rfl rfl rfl (Nat.le_of_ble_eq_true rfl) (Nat.le_of_ble_eq_true rfl) (k_modelPuts (d := d) hS hF hI45 hR (a4) (by have := congrArg Int32.toInt (show FI44 121 13 = x52 from h53); omega)) (fun v55 sv56 p57 => ?_)
    have := congrArg Int32.toInt (show FI44 121 13 = x52 from h53)
    obtain ⟨rfl, FI59, rfl, hI60, f61, t64⟩ := p57
    obtain ⟨x67, h68⟩ : ∃ y, FI59 121 13 = y := ⟨_, rfl⟩
    have h68l := congrArg Int32.toInt h68
    have b69 := gI_121_13 hI60; rw [h68] at b69
    show hw sk base _ _ _ _ _ [] _ _
    refine hw_aloadn (aX12_feed 23 rfl) rfl ?_
    refine xw_iload (aX12_feed 24 rfl) rfl ?_
    refine hw_callV (Bs := [.int (a5)]) (rest := []) (aX12_feed 25 rfl) wc_RX12_193 (by decide) rfl wi_yX12_puts wv_yX12_puts (c121 hS) (s121 hS) rfl rfl rfl (Nat.le_of_ble_eq_true rfl) (Nat.le_of_ble_eq_true rfl) (k_modelPuts (d := d) hS hF hI60 hR (a5) (by have := congrArg Int32.toInt (show FI59 121 13 = x67 from h68); omega)) (fun v70 sv71 p72 => ?_)
    have := congrArg Int32.toInt (show FI59 121 13 = x67 from h68)
    obtain ⟨rfl, FI74, rfl, hI75, f76, t79⟩ := p72
    obtain ⟨x82, h83⟩ : ∃ y, FI74 121 13 = y := ⟨_, rfl⟩
    have h83l := congrArg Int32.toInt h83
    have b84 := gI_121_13 hI75; rw [h83] at b84
    show hw sk base _ _ _ _ _ [] _ _
    refine hw_aloadn (aX12_feed 26 rfl) rfl ?_
    refine hw_get (v := .int (x82)) (aX12_feed 27 rfl) wf_RX12_190 (c121 hS) (s121 hS) (by decide) (congrArg Value.int (show FI74 121 13 = x82 from h83)) ?_
    refine xw_iret (aX12_feed 28 rfl) rfl rfl ?_
    exact ⟨x82, rfl, FI74, rfl, hI75, (gf_tr ex_rf (gf_tr ex_rf (gf_tr ex_rf (gf_tr ex_rf (gf_tr ex_rf (gf_f gf_rf u5 (by decide)) f16 rfl rfl rfl) f31 rfl rfl rfl) f46 rfl rfl rfl) f61 rfl rfl rfl) f76 rfl rfl rfl), (by have := congrArg Int32.toInt (show FI74 121 13 = x82 from h83); omega)⟩
  · refine hw_ic (v := ((-1) : Int32)) (aX12_feed 9 rfl) (by decide) ?_
    refine xw_iret (aX12_feed 10 rfl) rfl rfl ?_
    have e85 : (((-1) : Int32)).toInt = (-1) := (by decide : ((-1) : Int32).toInt = (-1))
    exact ⟨((-1) : Int32), rfl, FI4, rfl, hI6, (gf_f gf_rf u5 (by decide)), (by have : (((-1) : Int32)).toInt = (-1) := (by decide); have := congrArg Int32.toInt (show FI4 121 13 = x1 from (up_k u5 (by decide) (h2))); omega)⟩
set_option maxHeartbeats 4000000 in
set_option maxRecDepth 100000 in
theorem k_modelEnd {sk : xK} {base d n sl : Nat} {SH : Nat → Nat × Nat} {FI : Nat → Nat → Int32} {FL : Nat → Nat → Int64} {FR : Nat → Nat → Option Nat} (hS : h_S n SH) (hF : h_FR FR) (hI : g_I FI) (hR : g_R n SH FR) (a1 : Int32) : hw sk base d none 155 0 [(0, .ref (base + 121)), (1, .int (a1))] [] (n, sl, SH, FI, FL, FR) (h_I (fun r s => ∃ FI', s = (n, sl, SH, FI', FL, FR) ∧ g_I FI' ∧ g_fr n (shd SH) [(121, 0), (121, 13)] [] [] FI FI' ∧ ((r.toInt = -1 ∧ (FI' 121 13).toInt = (FI 121 13).toInt ∧ ((a1).toInt < 0 ∨ (FI 121 13).toInt < (a1).toInt)) ∨ (r.toInt = (a1).toInt ∧ (FI' 121 13).toInt = (a1).toInt ∧ 0 ≤ (a1).toInt ∧ (a1).toInt ≤ (FI 121 13).toInt)))) := by
  have rg_a1 := i_rng a1
  obtain ⟨x1, h2⟩ : ∃ y, FI 121 13 = y := ⟨_, rfl⟩
  have h2l := congrArg Int32.toInt h2
  have b3 := gI_121_13 hI; rw [h2] at b3
  refine hw_aloadn (aX12_end 0 rfl) rfl ?_
  refine hw_ic (v := (0 : Int32)) (aX12_end 1 rfl) (by decide) ?_
  refine hv_puti (aX12_end 2 rfl) wf_RX12_187 (c121 hS) (s121 hS) (by decide) rfl rfl (fun FI4 u5 => ?_)
  have hI6 : g_I FI4 := gU_F hI u5 rfl
  refine xw_iloadn (aX12_end 3 rfl) rfl ?_
  refine hw_iflt (tgt := 17) (aX12_end 4 rfl) (by decide) rfl (fun cd7 => ?_) (fun cd7 => ?_)
  · refine hw_ic (v := ((-1) : Int32)) (aX12_end 9 rfl) (by decide) ?_
    refine xw_iret (aX12_end 10 rfl) rfl rfl ?_
    have e8 : (((-1) : Int32)).toInt = (-1) := (by decide : ((-1) : Int32).toInt = (-1))
    exact ⟨((-1) : Int32), rfl, FI4, rfl, hI6, (gf_f gf_rf u5 (by decide)), (by have : (((-1) : Int32)).toInt = (-1) := (by decide); have := congrArg Int32.toInt (show FI4 121 13 = x1 from (up_k u5 (by decide) (h2))); omega)⟩
  · refine xw_iloadn (aX12_end 5 rfl) rfl ?_
    refine hw_aloadn (aX12_end 6 rfl) rfl ?_
    refine hw_get (v := .int (x1)) (aX12_end 7 rfl) wf_RX12_190 (c121 hS) (s121 hS) (by decide) (congrArg Value.int (show FI4 121 13 = x1 from (up_k u5 (by decide) (h2)))) ?_
    refine hw_icle (tgt := 19) (aX12_end 8 rfl) (by decide) rfl rfl (fun cd9 => ?_) (fun cd9 => ?_)
    · refine hw_aloadn (aX12_end 11 rfl) rfl ?_
      refine xw_iloadn (aX12_end 12 rfl) rfl ?_
      refine hv_puti (aX12_end 13 rfl) wf_RX12_190 (c121 hS) (s121 hS) (by decide) rfl rfl (fun FI10 u11 => ?_)
      have hI12 : g_I FI10 := gU_121_13 hI6 u11 (by omega) (by omega)
      refine xw_iloadn (aX12_end 14 rfl) rfl ?_
      refine xw_iret (aX12_end 15 rfl) rfl rfl ?_
      exact ⟨a1, rfl, FI10, rfl, hI12, (gf_f (gf_f gf_rf u5 (by decide)) u11 (by decide)), (by have := congrArg Int32.toInt (show FI10 121 13 = a1 from up_eq u11); omega)⟩
    · refine hw_ic (v := ((-1) : Int32)) (aX12_end 9 rfl) (by decide) ?_
      refine xw_iret (aX12_end 10 rfl) rfl rfl ?_
      have e13 : (((-1) : Int32)).toInt = (-1) := (by decide : ((-1) : Int32).toInt = (-1))
      exact ⟨((-1) : Int32), rfl, FI4, rfl, hI6, (gf_f gf_rf u5 (by decide)), (by have : (((-1) : Int32)).toInt = (-1) := (by decide); have := congrArg Int32.toInt (show FI4 121 13 = x1 from (up_k u5 (by decide) (h2))); omega)⟩
set_option maxHeartbeats 4000000 in
set_option maxRecDepth 100000 in
theorem k_modelKeep {sk : xK} {base d n sl : Nat} {SH : Nat → Nat × Nat} {FI : Nat → Nat → Int32} {FL : Nat → Nat → Int64} {FR : Nat → Nat → Option Nat} (hS : h_S n SH) (hF : h_FR FR) (hI : g_I FI) (hR : g_R n SH FR) (a1 : Int32) (a2 : Int32) (g0 : 0 ≤ (a1).toInt ∧ (a1).toInt ≤ 19) (g1 : 0 ≤ (a2).toInt ∧ (a2).toInt ≤ 11400) (g2 : 0 ≤ (a1).toInt ∧ (a1).toInt ≤ 19) (g3 : 0 ≤ (a2).toInt ∧ (a2).toInt ≤ 11400) : hw sk base d none 156 0 [(0, .ref (base + 121)), (1, .int (a1)), (2, .int (a2))] [] (n, sl, SH, FI, FL, FR) (h_I (fun r s => ∃ FI', s = (n, sl, SH, FI', FL, FR) ∧ g_I FI' ∧ g_fr n (shd SH) [(121, 13)] [124, 125] [] FI FI' ∧ ((r.toInt = -1 ∧ (FI' 121 13).toInt = (FI 121 13).toInt ∧ 600 < (FI 121 13).toInt) ∨ (r.toInt = (FI 121 13).toInt ∧ (FI' 121 13).toInt = 0 ∧ (FI 121 13).toInt ≤ 600)))) := by
  have rg_a1 := i_rng a1
  have rg_a2 := i_rng a2
  obtain ⟨x1, h2⟩ : ∃ y, FI 121 13 = y := ⟨_, rfl⟩
  have h2l := congrArg Int32.toInt h2
  have b3 := gI_121_13 hI; rw [h2] at b3
  refine hw_aloadn (aX12_keep 0 rfl) rfl ?_
  refine hw_get (v := .int (x1)) (aX12_keep 1 rfl) wf_RX12_190 (c121 hS) (s121 hS) (by decide) (congrArg Value.int (show FI 121 13 = x1 from h2)) ?_
  refine hw_sp (v := (600 : Int32)) (aX12_keep 2 rfl) (by decide) ?_
  refine hw_icle (tgt := 12) (aX12_keep 3 rfl) (by decide) rfl (by decide : (600 : Int32).toInt = 600) (fun cd4 => ?_) (fun cd4 => ?_)
  · refine hw_ic (v := (0 : Int32)) (aX12_keep 6 rfl) (by decide) ?_
    refine xw_istoren (L2 := [(3, .int ((0 : Int32))), (0, .ref (base + 121)), (1, .int (a1)), (2, .int (a2))]) (aX12_keep 7 rfl) (by decide) rfl ?_
    have lp12 : ∀ (m : Nat) (y3 : Int32) (FIv5 : Nat → Nat → Int32), (g_fr n (shd SH) [(121, 13)] [124, 125] [] FI FIv5) → (g_I FIv5) → (FIv5 121 13 = x1) → (0 ≤ (y3).toInt ∧ (y3).toInt ≤ 600) → ((y3).toInt ≤ (x1).toInt) → ((x1).toInt = (FI 121 13).toInt) → 1001 - (y3).toInt < m → hw sk base d none 156 14 [(3, .int (y3)), (0, .ref (base + 121)), (1, .int (a1)), (2, .int (a2))] [] (n, sl, SH, FIv5, FL, FR) (h_I (fun r s => ∃ FI', s = (n, sl, SH, FI', FL, FR) ∧ g_I FI' ∧ g_fr n (shd SH) [(121, 13)] [124, 125] [] FI FI' ∧ ((r.toInt = -1 ∧ (FI' 121 13).toInt = (FI 121 13).toInt ∧ 600 < (FI 121 13).toInt) ∨ (r.toInt = (FI 121 13).toInt ∧ (FI' 121 13).toInt = 0 ∧ (FI 121 13).toInt ≤ 600)))) := by
      intro m
      induction m with
      | zero => intro y3 FIv5 fr6 hI7 kp8 iv9 iv10 iv11 hm; omega
      | succ m ih =>
        intro y3 FIv5 fr6 hI7 kp8 iv9 iv10 iv11 hm
        have rg_y3 := i_rng y3
        have := congrArg Int32.toInt kp8
        refine xw_iloadn (aX12_keep 8 rfl) rfl ?_
        refine hw_aloadn (aX12_keep 9 rfl) rfl ?_
        refine hw_get (v := .int (x1)) (aX12_keep 10 rfl) wf_RX12_190 (c121 hS) (s121 hS) (by decide) (congrArg Value.int (show FIv5 121 13 = x1 from kp8)) ?_
        refine hw_icge (tgt := 42) (aX12_keep 11 rfl) (by decide) rfl rfl (fun cd13 => ?_) (fun cd13 => ?_)
        · refine hw_aloadn (aX12_keep 24 rfl) rfl ?_
          refine hw_get (v := .ref (base + 125)) (aX12_keep 25 rfl) wf_RX12_20 (c121 hS) (s121 hS) (by decide) (congrArg (fun r => va_rf (h_rf base r)) (r121_4 hF)) ?_
          refine xw_iloadn (aX12_keep 26 rfl) rfl ?_
          refine hw_aloadn (aX12_keep 27 rfl) rfl ?_
          refine hw_get (v := .int (x1)) (aX12_keep 28 rfl) wf_RX12_190 (c121 hS) (s121 hS) (by decide) (congrArg Value.int (show FIv5 121 13 = x1 from kp8)) ?_
          refine hv_iast (k := (a1).toNatClampNeg) (aX12_keep 29 rfl) (c125 hS) (s125 hS) (h_in rfl (by omega) (by omega)) rfl (fun FI14 u15 => ?_)
          have hI16 : g_I FI14 := gU_125 hI7 u15 (by omega) (by omega)
          refine hw_aloadn (aX12_keep 30 rfl) rfl ?_
          refine hw_ic (v := (0 : Int32)) (aX12_keep 31 rfl) (by decide) ?_
          refine hv_puti (aX12_keep 32 rfl) wf_RX12_190 (c121 hS) (s121 hS) (by decide) rfl rfl (fun FI17 u18 => ?_)
          have hI19 : g_I FI17 := gU_121_13 hI16 u18 (by have := ((by decide : (0 : Int32).toInt = 0) : ((0 : Int32)).toInt = 0); omega) (by have := ((by decide : (0 : Int32).toInt = 0) : ((0 : Int32)).toInt = 0); omega)
          refine hw_aloadn (aX12_keep 33 rfl) rfl ?_
          refine hw_get (v := .ref (base + 125)) (aX12_keep 34 rfl) wf_RX12_20 (c121 hS) (s121 hS) (by decide) (congrArg (fun r => va_rf (h_rf base r)) (r121_4 hF)) ?_
          refine xw_iloadn (aX12_keep 35 rfl) rfl ?_
          refine hw_iald (v := x1) (aX12_keep 36 rfl) (c125 hS) (s125 hS) (h_in rfl (by omega) (by omega)) (show FI17 125 (a1).toNatClampNeg = x1 from (up_c u18 (by decide) (up_eq u15))) ?_
          refine xw_iret (aX12_keep 37 rfl) rfl rfl ?_
          exact ⟨x1, rfl, FI17, rfl, hI19, (gf_f (gf_a fr6 u15 (by decide)) u18 (by decide)), (by have := congrArg Int32.toInt (show FI17 121 13 = (0 : Int32) from up_eq u18); have := ((by decide : (0 : Int32).toInt = 0) : ((0 : Int32)).toInt = 0); omega)⟩
        · refine hw_aloadn (aX12_keep 12 rfl) rfl ?_
          refine hw_get (v := .ref (base + 124)) (aX12_keep 13 rfl) wf_RX12_17 (c121 hS) (s121 hS) (by decide) (congrArg (fun r => va_rf (h_rf base r)) (r121_3 hF)) ?_
          refine xw_iloadn (aX12_keep 14 rfl) rfl ?_
          refine xw_iloadn (aX12_keep 15 rfl) rfl ?_
          refine xw_iadd (aX12_keep 16 rfl) ?_
          refine hw_tie (A := ((a2).toInt) + ((y3).toInt)) (i_add rfl rfl (by omega) (by omega)) (fun x20 e21 => ?_)
          refine hw_aloadn (aX12_keep 17 rfl) rfl ?_
          refine hw_get (v := .ref (base + 126)) (aX12_keep 18 rfl) wf_RX12_30 (c121 hS) (s121 hS) (by decide) (congrArg (fun r => va_rf (h_rf base r)) (r121_12 hF)) ?_
          refine xw_iloadn (aX12_keep 19 rfl) rfl ?_
          obtain ⟨x22, h23⟩ : ∃ y, FIv5 126 (y3).toNatClampNeg = y := ⟨_, rfl⟩
          have h23l := congrArg Int32.toInt h23
          have := i_rng x22
          refine hw_iald (v := x22) (aX12_keep 20 rfl) (c126 hS) (s126 hS) (h_in rfl (by omega) (by omega)) (show FIv5 126 (y3).toNatClampNeg = x22 from h23) ?_
          have b24 := gI_126 hI7 (i_lt (x := y3) rfl (by omega) (by omega)); rw [h23] at b24
          refine hv_iast (k := (x20).toNatClampNeg) (aX12_keep 21 rfl) (c124 hS) (s124 hS) (h_in e21 (by omega) (by omega)) rfl (fun FI25 u26 => ?_)
          have hI27 : g_I FI25 := gU_124 hI7 u26 (by omega) (by omega)
          obtain ⟨x28, q30⟩ : ∃ y : Int32, (y3) + Int32.ofInt (1) = y := ⟨_, rfl⟩
          have e29 : (x28).toInt = (y3).toInt + (1) := by rw [← q30]; exact i_add rfl (by decide) (by omega) (by omega)
          refine xw_iinc (L2 := [(3, .int (x28)), (0, .ref (base + 121)), (1, .int (a1)), (2, .int (a2))]) (aX12_keep 22 rfl) rfl (by decide) (by rw [q30]; rfl) ?_
          refine xw_goto (tgt := 14) (aX12_keep 23 rfl) (by decide) ?_
          exact hw_L (ih (x28) FI25 (gf_a fr6 u26 (by decide)) hI27 (show FI25 121 13 = x1 from (up_c u26 (by decide) (kp8))) (by have := (e29 : (x28).toInt = (y3).toInt + (1)); omega) (by have := (e29 : (x28).toInt = (y3).toInt + (1)); have := congrArg Int32.toInt (show FI25 121 13 = x1 from (up_c u26 (by decide) (kp8))); omega) (by have := (e29 : (x28).toInt = (y3).toInt + (1)); have := congrArg Int32.toInt (show FI25 121 13 = x1 from (up_c u26 (by decide) (kp8))); omega) (by have := (e29 : (x28).toInt = (y3).toInt + (1)); omega)) ⟨rfl, rfl, rfl, rfl, trivial⟩
    exact hw_L (lp12 ((1001 - 0 : Int).toNat + 1) ((0 : Int32)) FI gf_rf hI (show FI 121 13 = x1 from h2) (by have := ((by decide : (0 : Int32).toInt = 0) : ((0 : Int32)).toInt = 0); omega) (by have := ((by decide : (0 : Int32).toInt = 0) : ((0 : Int32)).toInt = 0); have := congrArg Int32.toInt (show FI 121 13 = x1 from h2); omega) (by have := ((by decide : (0 : Int32).toInt = 0) : ((0 : Int32)).toInt = 0); have := congrArg Int32.toInt (show FI 121 13 = x1 from h2); omega) (by have := ((by decide : (0 : Int32).toInt = 0) : ((0 : Int32)).toInt = 0); omega)) ⟨rfl, rfl, rfl, rfl, trivial⟩
  · refine hw_ic (v := ((-1) : Int32)) (aX12_keep 4 rfl) (by decide) ?_
    refine xw_iret (aX12_keep 5 rfl) rfl rfl ?_
    have e31 : (((-1) : Int32)).toInt = (-1) := (by decide : ((-1) : Int32).toInt = (-1))
    exact ⟨((-1) : Int32), rfl, FI, rfl, hI, gf_rf, (by have : (((-1) : Int32)).toInt = (-1) := (by decide); have := congrArg Int32.toInt (show FI 121 13 = x1 from h2); omega)⟩
set_option maxHeartbeats 4000000 in
set_option maxRecDepth 100000 in
theorem k_modelExpression {sk : xK} {base d n sl : Nat} {SH : Nat → Nat × Nat} {FI : Nat → Nat → Int32} {FL : Nat → Nat → Int64} {FR : Nat → Nat → Option Nat} (hS : h_S n SH) (hF : h_FR FR) (hI : g_I FI) (hR : g_R n SH FR) (a1 : Int32) : hw sk base (d + 1) none 157 0 [(0, .ref (base + 121)), (1, .int (a1))] [] (n, sl, SH, FI, FL, FR) (h_I (fun r s => ∃ FI', s = (n, sl, SH, FI', FL, FR) ∧ g_I FI' ∧ g_fr n (shd SH) [(121, 0), (121, 13)] [124, 125] [] FI FI' ∧ ((r.toInt = -1 ∧ (FI' 121 13).toInt = (FI 121 13).toInt ∧ ((a1).toInt < 0 ∨ 16 ≤ (a1).toInt ∨ 600 < (FI 121 13).toInt)) ∨ (r.toInt = (FI 121 13).toInt ∧ (FI' 121 13).toInt = 0 ∧ 0 ≤ (a1).toInt ∧ (a1).toInt < 16 ∧ (FI 121 13).toInt ≤ 600)))) := by
  have rg_a1 := i_rng a1
  obtain ⟨x1, h2⟩ : ∃ y, FI 121 13 = y := ⟨_, rfl⟩
  have h2l := congrArg Int32.toInt h2
  have b3 := gI_121_13 hI; rw [h2] at b3
  refine hw_aloadn (aX12_expression 0 rfl) rfl ?_
  refine hw_ic (v := (0 : Int32)) (aX12_expression 1 rfl) (by decide) ?_
  refine hv_puti (aX12_expression 2 rfl) wf_RX12_187 (c121 hS) (s121 hS) (by decide) rfl rfl (fun FI4 u5 => ?_)
  have hI6 : g_I FI4 := gU_F hI u5 rfl
  refine xw_iloadn (aX12_expression 3 rfl) rfl ?_
  refine hw_iflt (tgt := 15) (aX12_expression 4 rfl) (by decide) rfl (fun cd7 => ?_) (fun cd7 => ?_)
  · refine hw_ic (v := ((-1) : Int32)) (aX12_expression 8 rfl) (by decide) ?_
    refine xw_iret (aX12_expression 9 rfl) rfl rfl ?_
    have e8 : (((-1) : Int32)).toInt = (-1) := (by decide : ((-1) : Int32).toInt = (-1))
    exact ⟨((-1) : Int32), rfl, FI4, rfl, hI6, (gf_f gf_rf u5 (by decide)), (by have : (((-1) : Int32)).toInt = (-1) := (by decide); have := congrArg Int32.toInt (show FI4 121 13 = x1 from (up_k u5 (by decide) (h2))); omega)⟩
  · refine xw_iloadn (aX12_expression 5 rfl) rfl ?_
    refine hw_bp (v := (15 : Int32)) (aX12_expression 6 rfl) (by decide) ?_
    refine hw_icle (tgt := 17) (aX12_expression 7 rfl) (by decide) rfl (by decide : (15 : Int32).toInt = 15) (fun cd9 => ?_) (fun cd9 => ?_)
    · refine hw_aloadn (aX12_expression 10 rfl) rfl ?_
      refine xw_iloadn (aX12_expression 11 rfl) rfl ?_
      refine hw_sp (v := (600 : Int32)) (aX12_expression 12 rfl) (by decide) ?_
      refine xw_iloadn (aX12_expression 13 rfl) rfl ?_
      refine xw_imul (aX12_expression 14 rfl) ?_
      refine hw_tie (A := (600) * ((a1).toInt)) (i_mul (by decide : (600 : Int32).toInt = 600) rfl (by omega) (by omega)) (fun x10 e11 => ?_)
      refine hw_callV (Bs := [.int (a1), .int (x10)]) (rest := []) (aX12_expression 15 rfl) wc_RX12_197 (by decide) rfl wi_yX12_keep wv_yX12_keep (c121 hS) (s121 hS) rfl rfl rfl (Nat.le_of_ble_eq_true rfl) (Nat.le_of_ble_eq_true rfl) (k_modelKeep (d := d) hS hF hI6 hR (a1) (x10) (by omega) (by have := (e11 : (x10).toInt = (600) * ((a1).toInt)); have := (e11 : (x10).toInt = (600) * ((a1).toInt)); omega) (by omega) (by have := (e11 : (x10).toInt = (600) * ((a1).toInt)); have := (e11 : (x10).toInt = (600) * ((a1).toInt)); omega)) (fun v12 sv13 p14 => ?_)
      have := congrArg Int32.toInt (show FI4 121 13 = x1 from (up_k u5 (by decide) (h2)))
      have := congrArg Int32.toInt (show FI4 121 13 = x1 from (up_k u5 (by decide) (h2)))
      have := congrArg Int32.toInt (show FI4 121 13 = x1 from (up_k u5 (by decide) (h2)))
      have := congrArg Int32.toInt (show FI4 121 13 = x1 from (up_k u5 (by decide) (h2)))
      obtain ⟨r15, rfl, FI16, rfl, hI17, f18, t21⟩ := p14
      have rg_r15 := i_rng r15
      obtain ⟨x24, h25⟩ : ∃ y, FI16 121 13 = y := ⟨_, rfl⟩
      have h25l := congrArg Int32.toInt h25
      have b26 := gI_121_13 hI17; rw [h25] at b26
      show hw sk base _ _ _ _ _ [.int (r15)] _ _
      refine xw_iret (aX12_expression 16 rfl) rfl rfl ?_
      exact ⟨r15, rfl, FI16, rfl, hI17, (gf_tr ex_rf (gf_f gf_rf u5 (by decide)) f18 rfl rfl rfl), (by have := congrArg Int32.toInt (show FI16 121 13 = x24 from h25); omega)⟩
    · refine hw_ic (v := ((-1) : Int32)) (aX12_expression 8 rfl) (by decide) ?_
      refine xw_iret (aX12_expression 9 rfl) rfl rfl ?_
      have e27 : (((-1) : Int32)).toInt = (-1) := (by decide : ((-1) : Int32).toInt = (-1))
      exact ⟨((-1) : Int32), rfl, FI4, rfl, hI6, (gf_f gf_rf u5 (by decide)), (by have : (((-1) : Int32)).toInt = (-1) := (by decide); have := congrArg Int32.toInt (show FI4 121 13 = x1 from (up_k u5 (by decide) (h2))); omega)⟩
set_option maxHeartbeats 4000000 in
set_option maxRecDepth 100000 in
theorem k_modelList {sk : xK} {base d n sl : Nat} {SH : Nat → Nat × Nat} {FI : Nat → Nat → Int32} {FL : Nat → Nat → Int64} {FR : Nat → Nat → Option Nat} (hS : h_S n SH) (hF : h_FR FR) (hI : g_I FI) (hR : g_R n SH FR) (a1 : Int32) : hw sk base (d + 1) none 158 0 [(0, .ref (base + 121)), (1, .int (a1))] [] (n, sl, SH, FI, FL, FR) (h_I (fun r s => ∃ FI', s = (n, sl, SH, FI', FL, FR) ∧ g_I FI' ∧ g_fr n (shd SH) [(121, 0), (121, 13)] [124, 125] [] FI FI' ∧ ((r.toInt = -1 ∧ (FI' 121 13).toInt = (FI 121 13).toInt ∧ ((a1).toInt < 0 ∨ 4 ≤ (a1).toInt ∨ 600 < (FI 121 13).toInt)) ∨ (r.toInt = (FI 121 13).toInt ∧ (FI' 121 13).toInt = 0 ∧ 0 ≤ (a1).toInt ∧ (a1).toInt < 4 ∧ (FI 121 13).toInt ≤ 600)))) := by
  have rg_a1 := i_rng a1
  obtain ⟨x1, h2⟩ : ∃ y, FI 121 13 = y := ⟨_, rfl⟩
  have h2l := congrArg Int32.toInt h2
  have b3 := gI_121_13 hI; rw [h2] at b3
  refine hw_aloadn (aX12_list 0 rfl) rfl ?_
  refine hw_ic (v := (0 : Int32)) (aX12_list 1 rfl) (by decide) ?_
  refine hv_puti (aX12_list 2 rfl) wf_RX12_187 (c121 hS) (s121 hS) (by decide) rfl rfl (fun FI4 u5 => ?_)
  have hI6 : g_I FI4 := gU_F hI u5 rfl
  refine xw_iloadn (aX12_list 3 rfl) rfl ?_
  refine hw_iflt (tgt := 14) (aX12_list 4 rfl) (by decide) rfl (fun cd7 => ?_) (fun cd7 => ?_)
  · refine hw_ic (v := ((-1) : Int32)) (aX12_list 8 rfl) (by decide) ?_
    refine xw_iret (aX12_list 9 rfl) rfl rfl ?_
    have e8 : (((-1) : Int32)).toInt = (-1) := (by decide : ((-1) : Int32).toInt = (-1))
    exact ⟨((-1) : Int32), rfl, FI4, rfl, hI6, (gf_f gf_rf u5 (by decide)), (by have : (((-1) : Int32)).toInt = (-1) := (by decide); have := congrArg Int32.toInt (show FI4 121 13 = x1 from (up_k u5 (by decide) (h2))); omega)⟩
  · refine xw_iloadn (aX12_list 5 rfl) rfl ?_
    refine hw_ic (v := (3 : Int32)) (aX12_list 6 rfl) (by decide) ?_
    refine hw_icle (tgt := 16) (aX12_list 7 rfl) (by decide) rfl (by decide : (3 : Int32).toInt = 3) (fun cd9 => ?_) (fun cd9 => ?_)
    · refine hw_aloadn (aX12_list 10 rfl) rfl ?_
      refine hw_bp (v := (16 : Int32)) (aX12_list 11 rfl) (by decide) ?_
      refine xw_iloadn (aX12_list 12 rfl) rfl ?_
      refine xw_iadd (aX12_list 13 rfl) ?_
      refine hw_tie (A := (16) + ((a1).toInt)) (i_add (by decide : (16 : Int32).toInt = 16) rfl (by omega) (by omega)) (fun x10 e11 => ?_)
      refine hw_sp (v := (9600 : Int32)) (aX12_list 14 rfl) (by decide) ?_
      refine hw_sp (v := (600 : Int32)) (aX12_list 15 rfl) (by decide) ?_
      refine xw_iloadn (aX12_list 16 rfl) rfl ?_
      refine xw_imul (aX12_list 17 rfl) ?_
      refine hw_tie (A := (600) * ((a1).toInt)) (i_mul (by decide : (600 : Int32).toInt = 600) rfl (by omega) (by omega)) (fun x12 e13 => ?_)
      refine xw_iadd (aX12_list 18 rfl) ?_
      refine hw_tie (A := (9600) + ((600) * ((a1).toInt))) (i_add (by decide : (9600 : Int32).toInt = 9600) e13 (by omega) (by omega)) (fun x14 e15 => ?_)
      refine hw_callV (Bs := [.int (x10), .int (x14)]) (rest := []) (aX12_list 19 rfl) wc_RX12_197 (by decide) rfl wi_yX12_keep wv_yX12_keep (c121 hS) (s121 hS) rfl rfl rfl (Nat.le_of_ble_eq_true rfl) (Nat.le_of_ble_eq_true rfl) (k_modelKeep (d := d) hS hF hI6 hR (x10) (x14) (by have := (e11 : (x10).toInt = (16) + ((a1).toInt)); have := (e11 : (x10).toInt = (16) + ((a1).toInt)); omega) (by have := (e15 : (x14).toInt = (9600) + ((600) * ((a1).toInt))); have := (e15 : (x14).toInt = (9600) + ((600) * ((a1).toInt))); omega) (by have := (e11 : (x10).toInt = (16) + ((a1).toInt)); have := (e11 : (x10).toInt = (16) + ((a1).toInt)); omega) (by have := (e15 : (x14).toInt = (9600) + ((600) * ((a1).toInt))); have := (e15 : (x14).toInt = (9600) + ((600) * ((a1).toInt))); omega)) (fun v16 sv17 p18 => ?_)
      have := congrArg Int32.toInt (show FI4 121 13 = x1 from (up_k u5 (by decide) (h2)))
      have := congrArg Int32.toInt (show FI4 121 13 = x1 from (up_k u5 (by decide) (h2)))
      have := congrArg Int32.toInt (show FI4 121 13 = x1 from (up_k u5 (by decide) (h2)))
      have := congrArg Int32.toInt (show FI4 121 13 = x1 from (up_k u5 (by decide) (h2)))
      obtain ⟨r19, rfl, FI20, rfl, hI21, f22, t25⟩ := p18
      have rg_r19 := i_rng r19
      obtain ⟨x28, h29⟩ : ∃ y, FI20 121 13 = y := ⟨_, rfl⟩
      have h29l := congrArg Int32.toInt h29
      have b30 := gI_121_13 hI21; rw [h29] at b30
      show hw sk base _ _ _ _ _ [.int (r19)] _ _
      refine xw_iret (aX12_list 20 rfl) rfl rfl ?_
      exact ⟨r19, rfl, FI20, rfl, hI21, (gf_tr ex_rf (gf_f gf_rf u5 (by decide)) f22 rfl rfl rfl), (by have := congrArg Int32.toInt (show FI20 121 13 = x28 from h29); omega)⟩
    · refine hw_ic (v := ((-1) : Int32)) (aX12_list 8 rfl) (by decide) ?_
      refine xw_iret (aX12_list 9 rfl) rfl rfl ?_
      have e31 : (((-1) : Int32)).toInt = (-1) := (by decide : ((-1) : Int32).toInt = (-1))
      exact ⟨((-1) : Int32), rfl, FI4, rfl, hI6, (gf_f gf_rf u5 (by decide)), (by have : (((-1) : Int32)).toInt = (-1) := (by decide); have := congrArg Int32.toInt (show FI4 121 13 = x1 from (up_k u5 (by decide) (h2))); omega)⟩
end
section
/-! WHAT HOLDS BETWEEN TWO CALLS OF THE LAW. -/
def g_M (FI : Nat → Nat → Int32) (FL : Nat → Nat → Int64) : Prop := rl_h 2 (FI 136) (FL 137) (FI 138) ∧ rl_h 32 (FI 130) (FL 131) (FI 134) ∧ rl_b (FI 139) (FI 140) (FI 141) ∧ rl_p (FI 143) (FL 144) ∧ rl_t (FI 149) (FL 150) ∧ rl_t (FI 152) (FL 153) ∧ rl_v (FI 121 74) (FI 152) (FL 153) (FI 156) (FI 157) ∧ rl_m (FI 169) (FL 170)
def g_INV (n : Nat) (SH : Nat → Nat × Nat) (FI : Nat → Nat → Int32) (FL : Nat → Nat → Int64) (FR : Nat → Nat → Option Nat) : Prop := h_S n SH ∧ h_FR FR ∧ g_I FI ∧ g_R n SH FR ∧ g_V SH FI FR ∧ (∃ gp gw gs, g_T n SH FI FR gp gw gs) ∧ g_M FI FL
section GL
variable {n n2 : Nat} {SH SH2 : Nat → Nat × Nat} {FI FI2 : Nat → Nat → Int32} {FL FL2 : Nat → Nat → Int64} {FR FR2 : Nat → Nat → Option Nat}
/-- a frame of the class: no cell of the reference, no node's kind, not how many variables there are -/
def g_cls (L : List (Nat × Nat)) (A T : List Nat) : Bool := L.all (fun p => decide (p.1 < 121)) && (A.all (fun q => decide (q < 121)) && T.all (fun t => decide (t < 2000)))
theorem g_cls_at {α : Type} {F F2 : Nat → Nat → α} {L : List (Nat × Nat)} {A T : List Nat} (f : g_fr n (shd SH) L A T F F2) (m : g_cls L A T = true) (hn : 176 ≤ n) {c k : Nat} (h1 : 121 ≤ c) (h2 : c < 176) : F2 c k = F c k := by
  unfold g_cls at m
  rw [Bool.and_eq_true, Bool.and_eq_true] at m
  obtain ⟨m1, m2, m3⟩ := m
  refine f c k (by omega) (fun h => ?_) (fun h => ?_) (fun h => ?_)
  · have := of_decide_eq_true (List.all_eq_true.mp m1 (c, k) h)
    dsimp only at this
    omega
  · have := of_decide_eq_true (List.all_eq_true.mp m2 c h)
    omega
  · have h3 := of_decide_eq_true (List.all_eq_true.mp m3 _ h)
    unfold shd at h3
    rw [if_neg (by omega), if_pos h1] at h3
    dsimp only at h3
    omega
theorem gM_eq (hI : ∀ c k, 121 ≤ c → c < 176 → FI2 c k = FI c k) (hL : ∀ c k, 121 ≤ c → c < 176 → FL2 c k = FL c k) (h : g_M FI FL) : g_M FI2 FL2 := by
  have e : ∀ c, 121 ≤ c → c < 176 → FI2 c = FI c := fun c h1 h2 => funext fun k => hI c k h1 h2
  have g : ∀ c, 121 ≤ c → c < 176 → FL2 c = FL c := fun c h1 h2 => funext fun k => hL c k h1 h2
  unfold g_M
  rw [e 136 (by decide) (by decide), e 138 (by decide) (by decide), e 130 (by decide) (by decide), e 134 (by decide) (by decide), e 139 (by decide) (by decide), e 140 (by decide) (by decide), e 141 (by decide) (by decide), e 143 (by decide) (by decide), e 149 (by decide) (by decide), e 152 (by decide) (by decide), e 121 (by decide) (by decide), e 156 (by decide) (by decide), e 157 (by decide) (by decide), e 169 (by decide) (by decide), g 137 (by decide) (by decide), g 131 (by decide) (by decide), g 144 (by decide) (by decide), g 150 (by decide) (by decide), g 153 (by decide) (by decide), g 170 (by decide) (by decide)]
  exact h
theorem gf_sh {α : Type} {F F2 : Nat → Nat → α} {L : List (Nat × Nat)} {A : List Nat} (f : g_fr n SH L A [] F F2) : g_fr n (shd SH) L A [] F F2 := fun c k h1 h2 h3 _ => f c k h1 h2 h3 (by simp)
/-- the desk's variables, behind a call that leaves them alone -/
theorem gV_fr {L1 L3 : List (Nat × Nat)} {A1 T1 A3 T3 : List Nat} (hS : h_S n SH) (hR : g_R n SH FR) (ex : g_ex n SH n2 SH2) (h : g_V SH FI FR) (f1 : g_fr n (shd SH) L1 A1 T1 FI FI2) (f3 : g_fr n (shd SH) L3 A3 T3 FR FR2) (m1 : (L1.contains (0, 12) || A1.contains 0 || T1.contains 11) = false) (m3 : (L3.contains (0, 11) || A3.contains 0 || T3.contains 11) = false) (m4 : g_low L3 A3 T3 [1010, 1104] = true) : g_V SH2 FI2 FR2 := by
  have e1 : FI2 0 12 = FI 0 12 := gf_at f1 (c0 hS) (shd_f (by decide) (s0 hS)) m1 rfl
  have e3 : FR2 0 11 = FR 0 11 := gf_at f3 (c0 hS) (shd_f (by decide) (s0 hS)) m3 rfl
  obtain ⟨v, a1, a2⟩ := h
  have hv := gR_o hR (c0 hS) (Or.inl (by decide)) a1
  rw [s0 hS] at hv
  refine ⟨v, by rw [e3]; exact a1, fun i hi => ?_⟩
  rw [e1] at hi
  obtain ⟨g0, r, g1, g2, g3, k, g4⟩ := a2 i hi
  have hr := gR_o hR hv.1 hv.2.1 g1
  have ht : (SH r).1 = 10 := by rw [hr.2.2, hv.2.2]; rfl
  have eq : ∀ k, FR2 r k = FR r k := fun k => g_low_at (t := 1010) f3 m4 hr.1 g2 (by rw [ht]) (by decide)
  exact ⟨g0, r, by rw [g_low_at (t := 1104) f3 m4 hv.1 g0 (by rw [hv.2.2]; rfl) (by decide)]; exact g1, g2, gV_gr hR hr.1 hr.2.1 ex eq g3, k, by rw [eq]; exact g4⟩
theorem inv_cls {L1 L2 L3 : List (Nat × Nat)} {A1 T1 A2 T2 A3 T3 : List Nat} (h : g_INV n SH FI FL FR) (hI : g_I FI2) (hF : h_FR FR2) (hR : g_R n SH FR2) (f1 : g_fr n (shd SH) L1 A1 T1 FI FI2) (f2 : g_fr n (shd SH) L2 A2 T2 FL FL2) (f3 : g_fr n (shd SH) L3 A3 T3 FR FR2) (c1 : g_cls L1 A1 T1 = true) (c2 : g_cls L2 A2 T2 = true) (m1 : (L1.contains (0, 12) || A1.contains 0 || T1.contains 11) = false) (m3 : (L3.contains (0, 11) || A3.contains 0 || T3.contains 11) = false) (m4 : g_low L3 A3 T3 [1010, 1104] = true) (m5 : g_low L1 A1 T1 [1003] = true) (m6 : g_low L3 A3 T3 [1003, 1006] = true) : g_INV n SH FI2 FL2 FR2 := by
  obtain ⟨hS, -, -, hR0, hV, ⟨gp, gw, gs, hT⟩, hM⟩ := h
  exact ⟨hS, hF, hI, hR, gV_fr hS hR0 ex_rf hV f1 f3 m1 m3 m4, ⟨gp, gw, gs, gT_mw hS hT f1 f3 m5 m6⟩, gM_eq (fun c k h1 h2 => g_cls_at f1 c1 hS.1 h1 h2) (fun c k h1 h2 => g_cls_at f2 c2 hS.1 h1 h2) hM⟩
theorem inv_ref {L1 : List (Nat × Nat)} {A1 : List Nat} (h : g_INV n SH FI FL FR) (hI : g_I FI2) (f1 : g_fr n SH L1 A1 [] FI FI2) (m1 : (L1.all (fun p => decide (121 ≤ p.1 ∧ p.1 < 176)) && A1.all (fun q => decide (121 ≤ q ∧ q < 176))) = true) (hM : g_M FI2 FL2) : g_INV n SH FI2 FL2 FR ∧ FI2 0 9 = FI 0 9 := by
  obtain ⟨hS, hF, -, hR, hV, ⟨gp, gw, gs, hT⟩, -⟩ := h
  rw [Bool.and_eq_true] at m1
  have key : ∀ c k, c < n → c < 121 ∨ 176 ≤ c → FI2 c k = FI c k := fun c k hc ho => by
    refine f1 c k hc (fun h => ?_) (fun h => ?_) (by simp)
    · have := of_decide_eq_true (List.all_eq_true.mp m1.1 (c, k) h)
      dsimp only at this
      omega
    · have := of_decide_eq_true (List.all_eq_true.mp m1.2 c h)
      omega
  have h0 : 0 < n := c0 hS
  refine ⟨⟨hS, hF, hI, hR, ?_, ⟨gp, gw, gs, ?_⟩, hM⟩, key 0 9 h0 (by omega)⟩
  · obtain ⟨v, a1, a2⟩ := hV
    refine ⟨v, a1, fun i hi => a2 i ?_⟩
    rw [key 0 12 h0 (by omega)] at hi
    exact hi
  · refine ⟨fun c hc hs => ?_, hT.2⟩
    have hd : 176 ≤ c := g_dynt hS hs (by decide +kernel)
    obtain ⟨h1, h2, h3, h4, h5, h6⟩ := hT.1 c hc hs
    rw [key c 0 hc (Or.inr hd)]
    refine ⟨h1, h2, h3, h4, h5, fun ht hk => h6 ht ?_⟩
    rw [← key _ 0 h5 (Or.inr (g_dynt hS ht (by decide +kernel)))]
    exact hk
/-- what a call may add: cells and slots, the tape's bytes counted -/
def g_RM (n sl : Nat) (FI : Nat → Nat → Int32) (n2 sl2 : Nat) (FI2 : Nat → Nat → Int32) : Prop := (n2 : Int) + 32 * (FI2 0 9).toInt ≤ n + 32 * (FI 0 9).toInt + 720 ∧ (sl2 : Int) + 300 * (FI2 0 9).toInt ≤ sl + 300 * (FI 0 9).toInt + 8000
end GL
end
section
/-! THE CONSTRUCTORS: closed functions; what was written so far, as lists. -/
def hsF : Nat → Nat × Nat := fun q => hs_L.getD q (0, 0)
def lk {α : Type} (W : List (Nat × Nat × α)) (c k : Nat) : Option α := match W with
  | [] => none
  | e :: W => if e.1 = c ∧ e.2.1 = k then some e.2.2 else lk W c k
def fI (W : List (Nat × Nat × Int32)) : Nat → Nat → Int32 := fun c k => (lk W c k).getD 0
def fZ : Nat → Nat → Int64 := fun _ _ => 0
def fB (c k : Nat) : Option Nat := if c = 26 ∧ k < 16 then some (27 + k) else if c = 43 ∧ k < 4 then some (44 + k) else none
def fR (V : List (Nat × Nat × Option Nat)) : Nat → Nat → Option Nat := fun c k => (lk V c k).getD (fB c k)
theorem lk_no {α : Type} {W : List (Nat × Nat × α)} {c k : Nat} (h : W.all (fun e => e.1 != c) = true) : lk W c k = none := by
  induction W with
  | nil => rfl
  | cons e W ih =>
    rw [List.all_cons, Bool.and_eq_true] at h
    have h1 : e.1 ≠ c := by simpa using h.1
    unfold lk
    rw [if_neg (fun q => h1 q.1)]
    exact ih h.2
theorem fI_up {W : List (Nat × Nat × Int32)} {c k : Nat} {x : Int32} : h_up (fI W) c k x = fI ((c, k, x) :: W) := by
  funext a b
  by_cases h1 : a = c
  · subst h1
    by_cases h2 : b = k
    · subst h2; rw [h_up_eq]; simp [fI, lk]
    · rw [h_up_ne h2]
      show fI W a b = (if a = a ∧ k = b then some x else lk W a b).getD 0
      rw [if_neg (fun q => h2 q.2.symm)]; rfl
  · rw [h_up_nc h1]
    show fI W a b = (if c = a ∧ k = b then some x else lk W a b).getD 0
    rw [if_neg (fun q => h1 q.1.symm)]; rfl
theorem fR_up {V : List (Nat × Nat × Option Nat)} {c k : Nat} {x : Option Nat} : h_up (fR V) c k x = fR ((c, k, x) :: V) := by
  funext a b
  by_cases h1 : a = c
  · subst h1
    by_cases h2 : b = k
    · subst h2; rw [h_up_eq]; simp [fR, lk]
    · rw [h_up_ne h2]
      show fR V a b = (if a = a ∧ k = b then some x else lk V a b).getD (fB a b)
      rw [if_neg (fun q => h2 q.2.symm)]; rfl
  · rw [h_up_nc h1]
    show fR V a b = (if c = a ∧ k = b then some x else lk V a b).getD (fB a b)
    rw [if_neg (fun q => h1 q.1.symm)]; rfl
theorem fI_new {W : List (Nat × Nat × Int32)} {n : Nat} (h : W.all (fun e => e.1 != n) = true) : va_up (fI W) n (fun _ => 0) = fI W := by
  funext a
  by_cases e : a = n
  · subst e; funext k; simp [va_up, fI, lk_no h]
  · simp [va_up, e]
theorem fZ_new {n : Nat} : va_up fZ n (fun _ => 0) = fZ := by
  funext a
  by_cases e : a = n
  · subst e; simp [va_up, fZ]; rfl
  · simp [va_up, e]
theorem fR_new {V : List (Nat × Nat × Option Nat)} {n : Nat} (h : V.all (fun e => e.1 != n) = true) (h26 : n ≠ 26) (h43 : n ≠ 43) : va_up (fR V) n (fun _ => none) = fR V := by
  funext a
  by_cases e : a = n
  · subst e; funext k; simp [va_up, fR, lk_no h, fB, h26, h43]
  · simp [va_up, e]
theorem hs_new {n t z : Nat} (h : hsF n = (t, z)) : va_up hsF n (t, z) = hsF := by
  funext a
  by_cases e : a = n
  · subst e; simp [va_up, h]
  · simp [va_up, e]
section CT
variable {base d : Nat} {X : Option (Nat × Nat × (Nat → Int32))} {j : Nat} {y : MethodName} {nL : Nat} {ret : Option FieldType} {pc : Nat} {L : xL} {st : List Value} {Φ : Option Value → hS → Prop} {n sl n2 sl2 : Nat} {W : List (Nat × Nat × Int32)} {V : List (Nat × Nat × Option Nat)}
theorem cw_new {sk : xK} {idx t N : Nat} {C : String} {T : u_T} (q : x_at xMM j pc (.new idx) 3 y nL ret) (ht : vwCl[t]? = some (C, T, N)) (hl : Cond.classLink y.cls idx C ∈ x_Ts) (hi : Cond.initialized C ∈ x_Ts) (hs : hsF n = (t, 0)) (hn : n + 1 = n2) (hsl : sl + N = sl2) (w1 : W.all (fun e => e.1 != n) = true) (w2 : V.all (fun e => e.1 != n) = true) (h26 : n ≠ 26) (h43 : n ≠ 43) (kk : hw sk base d X j (pc + 3) L (.ref (base + n) :: st) (n2, sl2, hsF, fI W, fZ, fR V) Φ) : hw sk base d X j pc L st (n, sl, hsF, fI W, fZ, fR V) Φ := by
  refine hw_new q ht hl hi ?_
  rw [hs_new hs, fI_new w1, fZ_new, fR_new w2 h26 h43, hn, hsl]
  exact kk
theorem cw_newa {sk : xK} {aty : ArrayType} {k z : Nat} {m : Int32} (q : x_at xMM j pc (.newarray aty) 2 y nL ret) (hk : x_kn[k]? = some (Jvm.Op.newarray.typeOf aty)) (hk2 : k < 3) (hl : Cond.arrayClass (Jvm.Op.newarray.typeOf aty) ∈ x_Ts) (hm : ¬ m < 0) (hz : m.toNatClampNeg = z) (hb : z * 8 ≤ 536870912) (hs : hsF n = (100 + k, z)) (hn : n + 1 = n2) (hsl : sl + z = sl2) (w1 : W.all (fun e => e.1 != n) = true) (w2 : V.all (fun e => e.1 != n) = true) (h26 : n ≠ 26) (h43 : n ≠ 43) (kk : hw sk base d X j (pc + 2) L (.ref (base + n) :: st) (n2, sl2, hsF, fI W, fZ, fR V) Φ) : hw sk base d X j pc L (.int m :: st) (n, sl, hsF, fI W, fZ, fR V) Φ := by
  refine hw_newa q hk hk2 hl hm hz hb ?_
  rw [hs_new hs, fI_new w1, fZ_new, fR_new w2 h26 h43, hn, hsl]
  exact kk
theorem cw_newq {sk : xK} {idx k z : Nat} {C : String} {m : Int32} (q : x_at xMM j pc (.anewarray idx) 3 y nL ret) (hk : x_kn[k]? = some (.object C)) (hk3 : 3 ≤ k) (hl : Cond.classLink y.cls idx C ∈ x_Ts) (ha : Cond.arrayOver (.object C) ∈ x_AO) (hm : ¬ m < 0) (hz : m.toNatClampNeg = z) (hb : z * 4 ≤ 536870912) (hs : hsF n = (100 + k, z)) (hn : n + 1 = n2) (hsl : sl + z = sl2) (w1 : W.all (fun e => e.1 != n) = true) (w2 : V.all (fun e => e.1 != n) = true) (h26 : n ≠ 26) (h43 : n ≠ 43) (kk : hw sk base d X j (pc + 3) L (.ref (base + n) :: st) (n2, sl2, hsF, fI W, fZ, fR V) Φ) : hw sk base d X j pc L (.int m :: st) (n, sl, hsF, fI W, fZ, fR V) Φ := by
  refine hw_newq q hk hk3 hl ha hm hz hb ?_
  rw [hs_new hs, fI_new w1, fZ_new, fR_new w2 h26 h43, hn, hsl]
  exact kk
theorem lk_hi {α : Type} {W : List (Nat × Nat × α)} {m c k : Nat} (h : W.all (fun e => decide (e.1 < m)) = true) (hc : m ≤ c) : lk W c k = none := by
  refine lk_no (List.all_eq_true.mpr fun e he => ?_)
  have := of_decide_eq_true (List.all_eq_true.mp h e he)
  have : e.1 ≠ c := by omega
  simpa using this
theorem cw_mna {sk : xK} {idx : Nat} {m w : Int32} {N K : Nat} (q : x_at xMM j pc (.multianewarray idx 2) 4 y nL ret) (h3 : Cond.classLink y.cls idx ("[" ++ (FieldType.array .int).toString) ∈ x_Ts) (h4 : Cond.arrayOver (.array .int) ∈ x_AO) (h5 : Cond.arrayClass .int ∈ x_Ts) (hm : ¬ m < 0) (hw0 : ¬ w < 0) (hN : m.toNatClampNeg = N) (hK : w.toNatClampNeg = K) (b1 : N * 4 ≤ 536870912) (b2 : K * 4 ≤ 536870912) (hs : hsF n = (106, N)) (hr : (List.range N).all (fun i => hsF (n + 1 + i) == (100, K)) = true) (hn : n + 1 + N = n2) (hsl : sl + N + N * K = sl2) (w1 : W.all (fun e => decide (e.1 < n)) = true) (w2 : V.all (fun e => decide (e.1 < n)) = true) (hb : ∀ k, fB n k = if k < N then some (n + 1 + k) else none) (hb2 : (List.range N).all (fun i => (n + 1 + i != 26) && (n + 1 + i != 43)) = true) (kk : hw sk base d X j (pc + 4) L (.ref (base + n) :: st) (n2, sl2, hsF, fI W, fZ, fR V) Φ) : hw sk base d X j pc L (.int w :: .int m :: st) (n, sl, hsF, fI W, fZ, fR V) Φ := by
  refine hw_mna q h3 h4 h5 hm hw0 hN hK b1 b2 ?_
  have e1 : (fun q => if n + 1 ≤ q ∧ q < n + 1 + N then (100, K) else va_up hsF n (106, N) q) = hsF := by
    funext a
    by_cases h : n + 1 ≤ a ∧ a < n + 1 + N
    · rw [if_pos h]
      have h9 := eq_of_beq (List.all_eq_true.mp hr (a - (n + 1)) (List.mem_range.mpr (by omega)))
      rw [show n + 1 + (a - (n + 1)) = a by omega] at h9
      exact h9.symm
    · rw [if_neg h, hs_new hs]
  have e2 : (fun q => if n + 1 ≤ q ∧ q < n + 1 + N then (fun _ => 0) else va_up (fI W) n (fun _ => 0) q) = fI W := by
    funext a k
    by_cases h : n + 1 ≤ a ∧ a < n + 1 + N
    · rw [if_pos h]; simp [fI, lk_hi w1 (show n ≤ a by omega)]
    · rw [if_neg h]
      by_cases h2 : a = n
      · subst h2; simp [va_up, fI, lk_hi w1 (Nat.le_refl a)]
      · simp [va_up, h2]
  have e3 : (fun q => if n + 1 ≤ q ∧ q < n + 1 + N then (fun _ => 0) else va_up fZ n (fun _ => 0) q) = fZ := by
    funext a
    by_cases h : n + 1 ≤ a ∧ a < n + 1 + N
    · rw [if_pos h]; rfl
    · rw [if_neg h, fZ_new]
  have e4 : (fun q => if n + 1 ≤ q ∧ q < n + 1 + N then (fun _ => none) else va_up (fR V) n (fun i => if i < N then some (n + 1 + i) else none) q) = fR V := by
    funext a k
    by_cases h : n + 1 ≤ a ∧ a < n + 1 + N
    · rw [if_pos h]
      have h9 := List.all_eq_true.mp hb2 (a - (n + 1)) (List.mem_range.mpr (by omega))
      rw [show n + 1 + (a - (n + 1)) = a by omega] at h9
      have h8 : a ≠ 26 ∧ a ≠ 43 := by simpa using h9
      simp [fR, lk_hi w2 (show n ≤ a by omega), fB, h8.1, h8.2]
    · rw [if_neg h]
      by_cases h2 : a = n
      · subst h2; simp only [va_up, fR, lk_hi w2 (Nat.le_refl a), if_pos]; exact (hb k).symm
      · simp [va_up, h2]
  rw [e1, e2, e3, e4, hn, hsl]
  exact kk
end CT
end
