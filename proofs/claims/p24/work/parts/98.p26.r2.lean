set_option maxHeartbeats 4000000 in
set_option maxRecDepth 100000 in
theorem n_keep {sk : xK} {base d n sl : Nat} {SH : Nat → Nat × Nat} {FI : Nat → Nat → Int32} {FL : Nat → Nat → Int64} {FR : Nat → Nat → Option Nat} (hS : h_S n SH) (hF : h_FR FR) (hI : g_I FI) (a1 : Int32) (a2 : Int32) (g0 : 0 ≤ (a1).toInt ∧ (a1).toInt ≤ 31) (g1 : 0 ≤ (a2).toInt ∧ (a2).toInt ≤ 18600) : hw sk base d none 156 0 [(0, .ref (base + 121)), (1, .int (a1)), (2, .int (a2))] [] (n, sl, SH, FI, FL, FR) (h_I (fun r s => ∃ FI', s = (n, sl, SH, FI', FL, FR) ∧ g_I FI' ∧ g_fr n SH [(121, 13)] [124, 125] [] FI FI')) := by
  have rg_a1 := i_rng a1
  have rg_a2 := i_rng a2
  refine hw_aloadn (aX12_keep 0 rfl) rfl ?_
  obtain ⟨x1, h2⟩ : ∃ y, FI 121 13 = y := ⟨_, rfl⟩
  have h2l := congrArg Int32.toInt h2
  have b3 := gI_121_13 hI; rw [h2] at b3
  refine hw_get (v := .int (x1)) (aX12_keep 1 rfl) wf_RX12_190 (c121 hS) (s121 hS) (by decide) (congrArg Value.int (show FI 121 13 = x1 from h2)) ?_
  refine hw_sp (v := (600 : Int32)) (aX12_keep 2 rfl) (by decide) ?_
  refine hw_icle (tgt := 12) (aX12_keep 3 rfl) (by decide) rfl (by decide : (600 : Int32).toInt = 600) (fun cd4 => ?_) (fun cd4 => ?_)
  · refine hw_ic (v := (0 : Int32)) (aX12_keep 6 rfl) (by decide) ?_
    refine xw_istoren (L2 := [(3, .int ((0 : Int32))), (0, .ref (base + 121)), (1, .int (a1)), (2, .int (a2))]) (aX12_keep 7 rfl) (by decide) rfl ?_
    have lp11 : ∀ (m : Nat) (y3 : Int32) (FIv5 : Nat → Nat → Int32), (g_fr n SH [(121, 13)] [124, 125] [] FI FIv5) → (g_I FIv5) → (FIv5 121 13 = x1) → (0 ≤ (y3).toInt ∧ (y3).toInt ≤ 600) → ((y3).toInt ≤ (x1).toInt) → (x1).toInt - (y3).toInt < m → hw sk base d none 156 14 [(3, .int (y3)), (0, .ref (base + 121)), (1, .int (a1)), (2, .int (a2))] [] (n, sl, SH, FIv5, FL, FR) (h_I (fun r s => ∃ FI', s = (n, sl, SH, FI', FL, FR) ∧ g_I FI' ∧ g_fr n SH [(121, 13)] [124, 125] [] FI FI')) := by
      intro m
      induction m with
      | zero => intro y3 FIv5 fr6 hI7 kp8 iv9 iv10 hm; omega
      | succ m ih =>
        intro y3 FIv5 fr6 hI7 kp8 iv9 iv10 hm
        have rg_y3 := i_rng y3
        have := congrArg Int32.toInt kp8
        refine xw_iloadn (aX12_keep 8 rfl) rfl ?_
        refine hw_aloadn (aX12_keep 9 rfl) rfl ?_
        refine hw_get (v := .int (x1)) (aX12_keep 10 rfl) wf_RX12_190 (c121 hS) (s121 hS) (by decide) (congrArg Value.int (show FIv5 121 13 = x1 from kp8)) ?_
        refine hw_icge (tgt := 42) (aX12_keep 11 rfl) (by decide) rfl rfl (fun cd12 => ?_) (fun cd12 => ?_)
        · refine hw_aloadn (aX12_keep 24 rfl) rfl ?_
          refine hw_get (v := .ref (base + 125)) (aX12_keep 25 rfl) wf_RX12_20 (c121 hS) (s121 hS) (by decide) (congrArg (fun r => va_rf (h_rf base r)) (r121_4 hF)) ?_
          refine xw_iloadn (aX12_keep 26 rfl) rfl ?_
          refine hw_aloadn (aX12_keep 27 rfl) rfl ?_
          refine hw_get (v := .int (x1)) (aX12_keep 28 rfl) wf_RX12_190 (c121 hS) (s121 hS) (by decide) (congrArg Value.int (show FIv5 121 13 = x1 from kp8)) ?_
          refine hv_iast (k := (a1).toNatClampNeg) (aX12_keep 29 rfl) (c125 hS) (s125 hS) (h_in rfl (by omega) (by omega)) rfl (fun FI13 u14 => ?_)
          have hI15 : g_I FI13 := gU_125 hI7 u14 (by omega) (by omega)
          refine hw_aloadn (aX12_keep 30 rfl) rfl ?_
          refine hw_ic (v := (0 : Int32)) (aX12_keep 31 rfl) (by decide) ?_
          refine hv_puti (aX12_keep 32 rfl) wf_RX12_190 (c121 hS) (s121 hS) (by decide) rfl rfl (fun FI16 u17 => ?_)
          have hI18 : g_I FI16 := gU_121_13 hI15 u17 (by have := ((by decide : (0 : Int32).toInt = 0) : ((0 : Int32)).toInt = 0); omega) (by have := ((by decide : (0 : Int32).toInt = 0) : ((0 : Int32)).toInt = 0); omega)
          refine hw_aloadn (aX12_keep 33 rfl) rfl ?_
          refine hw_get (v := .ref (base + 125)) (aX12_keep 34 rfl) wf_RX12_20 (c121 hS) (s121 hS) (by decide) (congrArg (fun r => va_rf (h_rf base r)) (r121_4 hF)) ?_
          refine xw_iloadn (aX12_keep 35 rfl) rfl ?_
          refine hw_iald (v := x1) (aX12_keep 36 rfl) (c125 hS) (s125 hS) (h_in rfl (by omega) (by omega)) (show FI16 125 (a1).toNatClampNeg = x1 from (up_c u17 (by decide) (up_eq u14))) ?_
          refine xw_iret (aX12_keep 37 rfl) rfl rfl ?_
          exact ⟨x1, rfl, FI16, rfl, hI18, (gf_f (gf_a fr6 u14 (by decide)) u17 (by decide))⟩
        · refine hw_aloadn (aX12_keep 12 rfl) rfl ?_
          refine hw_get (v := .ref (base + 124)) (aX12_keep 13 rfl) wf_RX12_17 (c121 hS) (s121 hS) (by decide) (congrArg (fun r => va_rf (h_rf base r)) (r121_3 hF)) ?_
          refine xw_iloadn (aX12_keep 14 rfl) rfl ?_
          refine xw_iloadn (aX12_keep 15 rfl) rfl ?_
          refine xw_iadd (aX12_keep 16 rfl) ?_
          refine hw_tie (A := ((a2).toInt) + ((y3).toInt)) (i_add rfl rfl (by omega) (by omega)) (fun x19 e20 => ?_)
          refine hw_aloadn (aX12_keep 17 rfl) rfl ?_
          refine hw_get (v := .ref (base + 126)) (aX12_keep 18 rfl) wf_RX12_30 (c121 hS) (s121 hS) (by decide) (congrArg (fun r => va_rf (h_rf base r)) (r121_12 hF)) ?_
          refine xw_iloadn (aX12_keep 19 rfl) rfl ?_
          obtain ⟨x21, h22⟩ : ∃ y, FIv5 126 (y3).toNatClampNeg = y := ⟨_, rfl⟩
          have h22l := congrArg Int32.toInt h22
          have := i_rng x21
          refine hw_iald (v := x21) (aX12_keep 20 rfl) (c126 hS) (s126 hS) (h_in rfl (by omega) (by omega)) (show FIv5 126 (y3).toNatClampNeg = x21 from h22) ?_
          have b23 := gI_126 hI7 (i_lt (x := y3) rfl (by omega) (by omega)); rw [h22] at b23
          refine hv_iast (k := (x19).toNatClampNeg) (aX12_keep 21 rfl) (c124 hS) (s124 hS) (h_in e20 (by omega) (by omega)) rfl (fun FI24 u25 => ?_)
          have hI26 : g_I FI24 := gU_124 hI7 u25 (by omega) (by omega)
          obtain ⟨x27, q29⟩ : ∃ y : Int32, (y3) + Int32.ofInt (1) = y := ⟨_, rfl⟩
          have e28 : (x27).toInt = (y3).toInt + (1) := by rw [← q29]; exact i_add rfl (by decide) (by omega) (by omega)
          refine xw_iinc (L2 := [(3, .int (x27)), (0, .ref (base + 121)), (1, .int (a1)), (2, .int (a2))]) (aX12_keep 22 rfl) rfl (by decide) (by rw [q29]; rfl) ?_
          refine xw_goto (tgt := 14) (aX12_keep 23 rfl) (by decide) ?_
          exact hw_L (ih (x27) FI24 (gf_a fr6 u25 (by decide)) hI26 (show FI24 121 13 = x1 from (up_c u25 (by decide) (kp8))) (by have := (e28 : (x27).toInt = (y3).toInt + (1)); omega) (by have := (e28 : (x27).toInt = (y3).toInt + (1)); have := congrArg Int32.toInt (show FI24 121 13 = x1 from (up_c u25 (by decide) (kp8))); omega) (by have := (e28 : (x27).toInt = (y3).toInt + (1)); have := congrArg Int32.toInt (show FI24 121 13 = x1 from (up_c u25 (by decide) (kp8))); omega)) ⟨rfl, rfl, rfl, rfl, trivial⟩
    exact hw_L (lp11 (((x1).toInt - 0 : Int).toNat + 1) ((0 : Int32)) FI gf_rf hI (show FI 121 13 = x1 from h2) (by have := ((by decide : (0 : Int32).toInt = 0) : ((0 : Int32)).toInt = 0); omega) (by have := ((by decide : (0 : Int32).toInt = 0) : ((0 : Int32)).toInt = 0); have := congrArg Int32.toInt (show FI 121 13 = x1 from h2); omega) (by have := ((by decide : (0 : Int32).toInt = 0) : ((0 : Int32)).toInt = 0); have := congrArg Int32.toInt (show FI 121 13 = x1 from h2); omega)) ⟨rfl, rfl, rfl, rfl, trivial⟩
  · refine hw_ic (v := ((-1) : Int32)) (aX12_keep 4 rfl) (by decide) ?_
    refine xw_iret (aX12_keep 5 rfl) rfl rfl ?_
    have e30 : (((-1) : Int32)).toInt = (-1) := (by decide : ((-1) : Int32).toInt = (-1))
    exact ⟨((-1) : Int32), rfl, FI, rfl, hI, gf_rf⟩
set_option maxHeartbeats 4000000 in
set_option maxRecDepth 100000 in
theorem n_expression {sk : xK} {base d n sl : Nat} {SH : Nat → Nat × Nat} {FI : Nat → Nat → Int32} {FL : Nat → Nat → Int64} {FR : Nat → Nat → Option Nat} (hS : h_S n SH) (hF : h_FR FR) (hI : g_I FI) (a1 : Int32) : hw sk base (d + 1) none 157 0 [(0, .ref (base + 121)), (1, .int (a1))] [] (n, sl, SH, FI, FL, FR) (h_I (fun r s => ∃ FI', s = (n, sl, SH, FI', FL, FR) ∧ g_I FI' ∧ g_fr n SH [(121, 0), (121, 13)] [124, 125] [] FI FI')) := by
  have rg_a1 := i_rng a1
  refine hw_aloadn (aX12_expression 0 rfl) rfl ?_
  refine hw_ic (v := (0 : Int32)) (aX12_expression 1 rfl) (by decide) ?_
  refine hv_puti (aX12_expression 2 rfl) wf_RX12_187 (c121 hS) (s121 hS) (by decide) rfl rfl (fun FI1 u2 => ?_)
  have hI3 : g_I FI1 := gU_F hI u2 rfl
  refine xw_iloadn (aX12_expression 3 rfl) rfl ?_
  refine hw_iflt (tgt := 15) (aX12_expression 4 rfl) (by decide) rfl (fun cd4 => ?_) (fun cd4 => ?_)
  · refine hw_ic (v := ((-1) : Int32)) (aX12_expression 8 rfl) (by decide) ?_
    refine xw_iret (aX12_expression 9 rfl) rfl rfl ?_
    have e5 : (((-1) : Int32)).toInt = (-1) := (by decide : ((-1) : Int32).toInt = (-1))
    exact ⟨((-1) : Int32), rfl, FI1, rfl, hI3, (gf_f gf_rf u2 (by decide))⟩
  · refine xw_iloadn (aX12_expression 5 rfl) rfl ?_
    refine hw_bp (v := (15 : Int32)) (aX12_expression 6 rfl) (by decide) ?_
    refine hw_icle (tgt := 17) (aX12_expression 7 rfl) (by decide) rfl (by decide : (15 : Int32).toInt = 15) (fun cd6 => ?_) (fun cd6 => ?_)
    · refine hw_aloadn (aX12_expression 10 rfl) rfl ?_
      refine xw_iloadn (aX12_expression 11 rfl) rfl ?_
      refine hw_sp (v := (600 : Int32)) (aX12_expression 12 rfl) (by decide) ?_
      refine xw_iloadn (aX12_expression 13 rfl) rfl ?_
      refine xw_imul (aX12_expression 14 rfl) ?_
      refine hw_tie (A := (600) * ((a1).toInt)) (i_mul (by decide : (600 : Int32).toInt = 600) rfl (by omega) (by omega)) (fun x7 e8 => ?_)
      refine hw_callV (Bs := [.int (a1), .int (x7)]) (rest := []) (aX12_expression 15 rfl) wc_RX12_197 (by decide) rfl wi_yX12_keep wv_yX12_keep (c121 hS) (s121 hS) rfl rfl rfl (Nat.le_of_ble_eq_true rfl) (Nat.le_of_ble_eq_true rfl) (n_keep (d := d) hS hF hI3 (a1) (x7) (by omega) (by have := (e8 : (x7).toInt = (600) * ((a1).toInt)); have := (e8 : (x7).toInt = (600) * ((a1).toInt)); omega)) (fun v9 sv10 p11 => ?_)
      obtain ⟨r12, rfl, FI13, rfl, hI14, f15⟩ := p11
      have rg_r12 := i_rng r12
      show hw sk base _ _ _ _ _ [.int (r12)] _ _
      refine xw_iret (aX12_expression 16 rfl) rfl rfl ?_
      exact ⟨r12, rfl, FI13, rfl, hI14, (gf_tr ex_rf (gf_f gf_rf u2 (by decide)) f15 rfl rfl rfl)⟩
    · refine hw_ic (v := ((-1) : Int32)) (aX12_expression 8 rfl) (by decide) ?_
      refine xw_iret (aX12_expression 9 rfl) rfl rfl ?_
      have e16 : (((-1) : Int32)).toInt = (-1) := (by decide : ((-1) : Int32).toInt = (-1))
      exact ⟨((-1) : Int32), rfl, FI1, rfl, hI3, (gf_f gf_rf u2 (by decide))⟩
set_option maxHeartbeats 4000000 in
set_option maxRecDepth 100000 in
theorem n_list {sk : xK} {base d n sl : Nat} {SH : Nat → Nat × Nat} {FI : Nat → Nat → Int32} {FL : Nat → Nat → Int64} {FR : Nat → Nat → Option Nat} (hS : h_S n SH) (hF : h_FR FR) (hI : g_I FI) (a1 : Int32) : hw sk base (d + 1) none 158 0 [(0, .ref (base + 121)), (1, .int (a1))] [] (n, sl, SH, FI, FL, FR) (h_I (fun r s => ∃ FI', s = (n, sl, SH, FI', FL, FR) ∧ g_I FI' ∧ g_fr n SH [(121, 0), (121, 13)] [124, 125] [] FI FI')) := by
  have rg_a1 := i_rng a1
  refine hw_aloadn (aX12_list 0 rfl) rfl ?_
  refine hw_ic (v := (0 : Int32)) (aX12_list 1 rfl) (by decide) ?_
  refine hv_puti (aX12_list 2 rfl) wf_RX12_187 (c121 hS) (s121 hS) (by decide) rfl rfl (fun FI1 u2 => ?_)
  have hI3 : g_I FI1 := gU_F hI u2 rfl
  refine xw_iloadn (aX12_list 3 rfl) rfl ?_
  refine hw_iflt (tgt := 14) (aX12_list 4 rfl) (by decide) rfl (fun cd4 => ?_) (fun cd4 => ?_)
  · refine hw_ic (v := ((-1) : Int32)) (aX12_list 8 rfl) (by decide) ?_
    refine xw_iret (aX12_list 9 rfl) rfl rfl ?_
    have e5 : (((-1) : Int32)).toInt = (-1) := (by decide : ((-1) : Int32).toInt = (-1))
    exact ⟨((-1) : Int32), rfl, FI1, rfl, hI3, (gf_f gf_rf u2 (by decide))⟩
  · refine xw_iloadn (aX12_list 5 rfl) rfl ?_
    refine hw_ic (v := (3 : Int32)) (aX12_list 6 rfl) (by decide) ?_
    refine hw_icle (tgt := 16) (aX12_list 7 rfl) (by decide) rfl (by decide : (3 : Int32).toInt = 3) (fun cd6 => ?_) (fun cd6 => ?_)
    · refine hw_aloadn (aX12_list 10 rfl) rfl ?_
      refine hw_bp (v := (16 : Int32)) (aX12_list 11 rfl) (by decide) ?_
      refine xw_iloadn (aX12_list 12 rfl) rfl ?_
      refine xw_iadd (aX12_list 13 rfl) ?_
      refine hw_tie (A := (16) + ((a1).toInt)) (i_add (by decide : (16 : Int32).toInt = 16) rfl (by omega) (by omega)) (fun x7 e8 => ?_)
      refine hw_sp (v := (9600 : Int32)) (aX12_list 14 rfl) (by decide) ?_
      refine hw_sp (v := (600 : Int32)) (aX12_list 15 rfl) (by decide) ?_
      refine xw_iloadn (aX12_list 16 rfl) rfl ?_
      refine xw_imul (aX12_list 17 rfl) ?_
      refine hw_tie (A := (600) * ((a1).toInt)) (i_mul (by decide : (600 : Int32).toInt = 600) rfl (by omega) (by omega)) (fun x9 e10 => ?_)
      refine xw_iadd (aX12_list 18 rfl) ?_
      refine hw_tie (A := (9600) + ((600) * ((a1).toInt))) (i_add (by decide : (9600 : Int32).toInt = 9600) e10 (by omega) (by omega)) (fun x11 e12 => ?_)
      refine hw_callV (Bs := [.int (x7), .int (x11)]) (rest := []) (aX12_list 19 rfl) wc_RX12_197 (by decide) rfl wi_yX12_keep wv_yX12_keep (c121 hS) (s121 hS) rfl rfl rfl (Nat.le_of_ble_eq_true rfl) (Nat.le_of_ble_eq_true rfl) (n_keep (d := d) hS hF hI3 (x7) (x11) (by have := (e8 : (x7).toInt = (16) + ((a1).toInt)); have := (e8 : (x7).toInt = (16) + ((a1).toInt)); omega) (by have := (e12 : (x11).toInt = (9600) + ((600) * ((a1).toInt))); have := (e12 : (x11).toInt = (9600) + ((600) * ((a1).toInt))); omega)) (fun v13 sv14 p15 => ?_)
      obtain ⟨r16, rfl, FI17, rfl, hI18, f19⟩ := p15
      have rg_r16 := i_rng r16
      show hw sk base _ _ _ _ _ [.int (r16)] _ _
      refine xw_iret (aX12_list 20 rfl) rfl rfl ?_
      exact ⟨r16, rfl, FI17, rfl, hI18, (gf_tr ex_rf (gf_f gf_rf u2 (by decide)) f19 rfl rfl rfl)⟩
    · refine hw_ic (v := ((-1) : Int32)) (aX12_list 8 rfl) (by decide) ?_
      refine xw_iret (aX12_list 9 rfl) rfl rfl ?_
      have e20 : (((-1) : Int32)).toInt = (-1) := (by decide : ((-1) : Int32).toInt = (-1))
      exact ⟨((-1) : Int32), rfl, FI1, rfl, hI3, (gf_f gf_rf u2 (by decide))⟩
set_option maxHeartbeats 4000000 in
set_option maxRecDepth 100000 in
theorem n_tells {sk : xK} {base d n sl : Nat} {SH : Nat → Nat × Nat} {FI : Nat → Nat → Int32} {FL : Nat → Nat → Int64} {FR : Nat → Nat → Option Nat} (hS : h_S n SH) (hF : h_FR FR) (hI : g_I FI) (a1 : Int32) (a2 : Int32) : hw sk base d none 188 0 [(0, .ref (base + 121)), (1, .int (a1)), (2, .int (a2))] [] (n, sl, SH, FI, FL, FR) (h_I (fun r s => ∃ FI', s = (n, sl, SH, FI', FL, FR) ∧ g_I FI' ∧ g_fr n SH [(121, 53), (121, 54), (121, 55), (121, 56), (121, 57)] [] [] FI FI' ∧ (r.toInt = (a1).toInt))) := by
  have rg_a1 := i_rng a1
  have rg_a2 := i_rng a2
  refine hw_aloadn (aX12_tells 0 rfl) rfl ?_
  refine hw_ic (v := (1 : Int32)) (aX12_tells 1 rfl) (by decide) ?_
  refine hv_putz (aX12_tells 2 rfl) wf_RX12_361 (c121 hS) (s121 hS) (by decide) rfl rfl (by decide) (fun FI1 u2 => ?_)
  have hI3 : g_I FI1 := gU_121_53 hI u2 (by have := ((by decide : (1 : Int32).toInt = 1) : ((1 : Int32)).toInt = 1); omega) (by have := ((by decide : (1 : Int32).toInt = 1) : ((1 : Int32)).toInt = 1); omega)
  refine hw_aloadn (aX12_tells 3 rfl) rfl ?_
  refine xw_iloadn (aX12_tells 4 rfl) rfl ?_
  refine hv_puti (aX12_tells 5 rfl) wf_RX12_364 (c121 hS) (s121 hS) (by decide) rfl rfl (fun FI4 u5 => ?_)
  have hI6 : g_I FI4 := gU_F hI3 u5 rfl
  refine hw_aloadn (aX12_tells 6 rfl) rfl ?_
  refine xw_iloadn (aX12_tells 7 rfl) rfl ?_
  refine hw_ifne (tgt := 19) (aX12_tells 8 rfl) (by decide) rfl (fun cd7 => ?_) (fun cd7 => ?_)
  · refine xw_iloadn (aX12_tells 11 rfl) rfl ?_
    refine hv_puti (aX12_tells 12 rfl) wf_RX12_99 (c121 hS) (s121 hS) (by decide) rfl rfl (fun FI8 u9 => ?_)
    have hI10 : g_I FI8 := gU_F hI6 u9 rfl
    refine hw_aloadn (aX12_tells 13 rfl) rfl ?_
    refine hw_aloadn (aX12_tells 14 rfl) rfl ?_
    obtain ⟨x11, h12⟩ : ∃ y, FI8 121 31 = y := ⟨_, rfl⟩
    have h12l := congrArg Int32.toInt h12
    have := i_rng x11
    refine hw_get (v := .int (x11)) (aX12_tells 15 rfl) wf_RX12_299 (c121 hS) (s121 hS) (by decide) (congrArg Value.int (show FI8 121 31 = x11 from h12)) ?_
    refine hv_puti (aX12_tells 16 rfl) wf_RX12_367 (c121 hS) (s121 hS) (by decide) rfl rfl (fun FI13 u14 => ?_)
    have hI15 : g_I FI13 := gU_F hI10 u14 rfl
    refine hw_aloadn (aX12_tells 17 rfl) rfl ?_
    refine hw_aloadn (aX12_tells 18 rfl) rfl ?_
    obtain ⟨x16, h17⟩ : ∃ y, FI13 121 32 = y := ⟨_, rfl⟩
    have h17l := congrArg Int32.toInt h17
    have := i_rng x16
    refine hw_get (v := .int (x16)) (aX12_tells 19 rfl) wf_RX12_258 (c121 hS) (s121 hS) (by decide) (congrArg Value.int (show FI13 121 32 = x16 from h17)) ?_
    refine hv_puti (aX12_tells 20 rfl) wf_RX12_370 (c121 hS) (s121 hS) (by decide) rfl rfl (fun FI18 u19 => ?_)
    have hI20 : g_I FI18 := gU_F hI15 u19 rfl
    refine xw_iloadn (aX12_tells 21 rfl) rfl ?_
    refine xw_iret (aX12_tells 22 rfl) rfl rfl ?_
    exact ⟨a1, rfl, FI18, rfl, hI20, (gf_f (gf_f (gf_f (gf_f (gf_f gf_rf u2 (by decide)) u5 (by decide)) u9 (by decide)) u14 (by decide)) u19 (by decide)), (by omega)⟩
  · refine hw_ic (v := ((-1) : Int32)) (aX12_tells 9 rfl) (by decide) ?_
    refine xw_goto (tgt := 20) (aX12_tells 10 rfl) (by decide) ?_
    refine hv_puti (aX12_tells 12 rfl) wf_RX12_99 (c121 hS) (s121 hS) (by decide) rfl rfl (fun FI21 u22 => ?_)
    have hI23 : g_I FI21 := gU_F hI6 u22 rfl
    refine hw_aloadn (aX12_tells 13 rfl) rfl ?_
    refine hw_aloadn (aX12_tells 14 rfl) rfl ?_
    obtain ⟨x24, h25⟩ : ∃ y, FI21 121 31 = y := ⟨_, rfl⟩
    have h25l := congrArg Int32.toInt h25
    have := i_rng x24
    refine hw_get (v := .int (x24)) (aX12_tells 15 rfl) wf_RX12_299 (c121 hS) (s121 hS) (by decide) (congrArg Value.int (show FI21 121 31 = x24 from h25)) ?_
    refine hv_puti (aX12_tells 16 rfl) wf_RX12_367 (c121 hS) (s121 hS) (by decide) rfl rfl (fun FI26 u27 => ?_)
    have hI28 : g_I FI26 := gU_F hI23 u27 rfl
    refine hw_aloadn (aX12_tells 17 rfl) rfl ?_
    refine hw_aloadn (aX12_tells 18 rfl) rfl ?_
    obtain ⟨x29, h30⟩ : ∃ y, FI26 121 32 = y := ⟨_, rfl⟩
    have h30l := congrArg Int32.toInt h30
    have := i_rng x29
    refine hw_get (v := .int (x29)) (aX12_tells 19 rfl) wf_RX12_258 (c121 hS) (s121 hS) (by decide) (congrArg Value.int (show FI26 121 32 = x29 from h30)) ?_
    refine hv_puti (aX12_tells 20 rfl) wf_RX12_370 (c121 hS) (s121 hS) (by decide) rfl rfl (fun FI31 u32 => ?_)
    have hI33 : g_I FI31 := gU_F hI28 u32 rfl
    refine xw_iloadn (aX12_tells 21 rfl) rfl ?_
    refine xw_iret (aX12_tells 22 rfl) rfl rfl ?_
    exact ⟨a1, rfl, FI31, rfl, hI33, (gf_f (gf_f (gf_f (gf_f (gf_f gf_rf u2 (by decide)) u5 (by decide)) u22 (by decide)) u27 (by decide)) u32 (by decide)), (by omega)⟩
set_option maxHeartbeats 4000000 in
set_option maxRecDepth 100000 in
theorem n_number2 {sk : xK} {base d n sl : Nat} {SH : Nat → Nat × Nat} {FI : Nat → Nat → Int32} {FL : Nat → Nat → Int64} {FR : Nat → Nat → Option Nat} (hS : h_S n SH) (hF : h_FR FR) (hI : g_I FI) (a1 : Int32) (g0 : 0 ≤ (a1).toInt ∧ (a1).toInt ≤ 19198) : hw sk base d none 193 0 [(0, .ref (base + 121)), (1, .int (a1)), (2, .int ((2 : Int32)))] [] (n, sl, SH, FI, FL, FR) (h_J (fun r s => s = (n, sl, SH, FI, FL, FR) ∧ (0 ≤ r.toInt ∧ r.toInt ≤ 65535))) := by
  have rg_a1 := i_rng a1
  refine hw_lc (v := (0 : Int64)) (aX12_number 0 rfl) (by decide) ?_
  refine xw_lstoren (L2 := [(3, .long ((0 : Int64))), (0, .ref (base + 121)), (1, .int (a1)), (2, .int ((2 : Int32)))]) (aX12_number 1 rfl) (by decide) rfl ?_
  refine xw_iloadn (aX12_number 2 rfl) rfl ?_
  refine hw_ic (v := (1 : Int32)) (aX12_number 3 rfl) (by decide) ?_
  refine xw_isub (aX12_number 4 rfl) ?_
  refine hw_tie (A := (2) - (1)) (i_sub (by decide : (2 : Int32).toInt = 2) (by decide : (1 : Int32).toInt = 1) (by omega) (by omega)) (fun x1 e2 => ?_)
  refine xw_istore (L2 := [(5, .int (x1)), (3, .long ((0 : Int64))), (0, .ref (base + 121)), (1, .int (a1)), (2, .int ((2 : Int32)))]) (aX12_number 5 rfl) (by decide) rfl ?_
  have lp7 : ∀ (m : Nat) (y5 : Int32) (y3 : Int64), (0 ≤ (y3).toInt ∧ (y3).toInt ≤ 65535) → (-1 ≤ (y5).toInt ∧ (y5).toInt ≤ 1) → ((y5).toInt = 1 → (y3).toInt = 0) → ((y5).toInt = 0 → (y3).toInt ≤ 255) → (y5).toInt + 1 < m → hw sk base d none 193 7 [(5, .int (y5)), (3, .long (y3)), (0, .ref (base + 121)), (1, .int (a1))] [] (n, sl, SH, FI, FL, FR) (h_J (fun r s => s = (n, sl, SH, FI, FL, FR) ∧ (0 ≤ r.toInt ∧ r.toInt ≤ 65535))) := by
    intro m
    induction m with
    | zero => intro y5 y3 iv3 iv4 iv5 iv6 hm; omega
    | succ m ih =>
      intro y5 y3 iv3 iv4 iv5 iv6 hm
      have rg_y5 := i_rng y5
      have rg_y3 := l_rng y3
      refine xw_iload (aX12_number 6 rfl) rfl ?_
      refine hw_iflt (tgt := 34) (aX12_number 7 rfl) (by decide) rfl (fun cd8 => ?_) (fun cd8 => ?_)
      · refine xw_lloadn (aX12_number 22 rfl) rfl ?_
        refine xw_lret (aX12_number 23 rfl) rfl ?_
        exact ⟨y3, rfl, rfl, (by omega)⟩
      · refine xw_lloadn (aX12_number 8 rfl) rfl ?_
        refine hw_bp (v := (8 : Int32)) (aX12_number 9 rfl) (by decide) ?_
        refine xw_lshl (aX12_number 10 rfl) ?_
        refine hw_tle (A := ((y3).toInt) * 256) (l_shl8 rfl (by omega) (by omega)) (fun x9 e10 => ?_)
        refine hw_aloadn (aX12_number 11 rfl) rfl ?_
        refine hw_get (v := .ref (base + 124)) (aX12_number 12 rfl) wf_RX12_17 (c121 hS) (s121 hS) (by decide) (congrArg (fun r => va_rf (h_rf base r)) (r121_3 hF)) ?_
        refine xw_iloadn (aX12_number 13 rfl) rfl ?_
        refine xw_iload (aX12_number 14 rfl) rfl ?_
        refine xw_iadd (aX12_number 15 rfl) ?_
        refine hw_tie (A := ((a1).toInt) + ((y5).toInt)) (i_add rfl rfl (by omega) (by omega)) (fun x11 e12 => ?_)
        obtain ⟨x13, h14⟩ : ∃ y, FI 124 (x11).toNatClampNeg = y := ⟨_, rfl⟩
        have h14l := congrArg Int32.toInt h14
        have := i_rng x13
        refine hw_iald (v := x13) (aX12_number 16 rfl) (c124 hS) (s124 hS) (h_in e12 (by omega) (by omega)) (show FI 124 (x11).toNatClampNeg = x13 from h14) ?_
        have b15 := gI_124 hI (i_lt (x := x11) e12 (by omega) (by omega)); rw [h14] at b15
        refine xw_i2l (aX12_number 17 rfl) ?_
        refine hw_tle (A := (x13).toInt) (i_2l rfl) (fun x16 e17 => ?_)
        refine xw_lor (aX12_number 18 rfl) ?_
        refine hw_tle (A := ((y3).toInt) * 256 + ((x13).toInt)) (l_or8 e10 e17 (by omega) (by omega) (by omega) (by omega)) (fun x18 e19 => ?_)
        refine xw_lstoren (L2 := [(3, .long (x18)), (5, .int (y5)), (0, .ref (base + 121)), (1, .int (a1))]) (aX12_number 19 rfl) (by decide) rfl ?_
        obtain ⟨x20, q22⟩ : ∃ y : Int32, (y5) + Int32.ofInt (-1) = y := ⟨_, rfl⟩
        have e21 : (x20).toInt = (y5).toInt + (-1) := by rw [← q22]; exact i_add rfl (by decide) (by omega) (by omega)
        refine xw_iinc (L2 := [(5, .int (x20)), (3, .long (x18)), (0, .ref (base + 121)), (1, .int (a1))]) (aX12_number 20 rfl) rfl (by decide) (by rw [q22]; rfl) ?_
        refine xw_goto (tgt := 7) (aX12_number 21 rfl) (by decide) ?_
        exact hw_L (ih (x20) (x18) (by have := (e21 : (x20).toInt = (y5).toInt + (-1)); have := (e19 : (x18).toInt = ((y3).toInt) * 256 + ((x13).toInt)); omega) (by have := (e21 : (x20).toInt = (y5).toInt + (-1)); have := (e19 : (x18).toInt = ((y3).toInt) * 256 + ((x13).toInt)); omega) (by have := (e21 : (x20).toInt = (y5).toInt + (-1)); have := (e19 : (x18).toInt = ((y3).toInt) * 256 + ((x13).toInt)); omega) (by have := (e21 : (x20).toInt = (y5).toInt + (-1)); have := (e19 : (x18).toInt = ((y3).toInt) * 256 + ((x13).toInt)); omega) (by have := (e21 : (x20).toInt = (y5).toInt + (-1)); have := (e19 : (x18).toInt = ((y3).toInt) * 256 + ((x13).toInt)); omega)) ⟨rfl, rfl, rfl, rfl, trivial⟩
  exact hw_L (lp7 (((x1).toInt + 1 : Int).toNat + 1) (x1) ((0 : Int64)) (by have := (e2 : (x1).toInt = (2) - (1)); have := ((by decide : (0 : Int64).toInt = 0) : ((0 : Int64)).toInt = 0); omega) (by have := (e2 : (x1).toInt = (2) - (1)); have := ((by decide : (0 : Int64).toInt = 0) : ((0 : Int64)).toInt = 0); omega) (by have := (e2 : (x1).toInt = (2) - (1)); have := ((by decide : (0 : Int64).toInt = 0) : ((0 : Int64)).toInt = 0); omega) (by have := (e2 : (x1).toInt = (2) - (1)); have := ((by decide : (0 : Int64).toInt = 0) : ((0 : Int64)).toInt = 0); omega) (by have := (e2 : (x1).toInt = (2) - (1)); have := ((by decide : (0 : Int64).toInt = 0) : ((0 : Int64)).toInt = 0); omega)) ⟨rfl, rfl, rfl, rfl, trivial⟩
set_option maxHeartbeats 4000000 in
set_option maxRecDepth 100000 in
theorem n_number8 {sk : xK} {base d n sl : Nat} {SH : Nat → Nat × Nat} {FI : Nat → Nat → Int32} {FL : Nat → Nat → Int64} {FR : Nat → Nat → Option Nat} (hS : h_S n SH) (hF : h_FR FR) (hI : g_I FI) (a1 : Int32) (g0 : 0 ≤ (a1).toInt ∧ (a1).toInt ≤ 19192) : hw sk base d none 193 0 [(0, .ref (base + 121)), (1, .int (a1)), (2, .int ((8 : Int32)))] [] (n, sl, SH, FI, FL, FR) (h_J (fun r s => s = (n, sl, SH, FI, FL, FR))) := by
  have rg_a1 := i_rng a1
  refine hw_lc (v := (0 : Int64)) (aX12_number 0 rfl) (by decide) ?_
  refine xw_lstoren (L2 := [(3, .long ((0 : Int64))), (0, .ref (base + 121)), (1, .int (a1)), (2, .int ((8 : Int32)))]) (aX12_number 1 rfl) (by decide) rfl ?_
  refine xw_iloadn (aX12_number 2 rfl) rfl ?_
  refine hw_ic (v := (1 : Int32)) (aX12_number 3 rfl) (by decide) ?_
  refine xw_isub (aX12_number 4 rfl) ?_
  refine hw_tie (A := (8) - (1)) (i_sub (by decide : (8 : Int32).toInt = 8) (by decide : (1 : Int32).toInt = 1) (by omega) (by omega)) (fun x1 e2 => ?_)
  refine xw_istore (L2 := [(5, .int (x1)), (3, .long ((0 : Int64))), (0, .ref (base + 121)), (1, .int (a1)), (2, .int ((8 : Int32)))]) (aX12_number 5 rfl) (by decide) rfl ?_
  have lp4 : ∀ (m : Nat) (y5 : Int32) (y3 : Int64), (-1 ≤ (y5).toInt ∧ (y5).toInt ≤ 7) → (y5).toInt + 1 < m → hw sk base d none 193 7 [(5, .int (y5)), (3, .long (y3)), (0, .ref (base + 121)), (1, .int (a1))] [] (n, sl, SH, FI, FL, FR) (h_J (fun r s => s = (n, sl, SH, FI, FL, FR))) := by
    intro m
    induction m with
    | zero => intro y5 y3 iv3 hm; omega
    | succ m ih =>
      intro y5 y3 iv3 hm
      have rg_y5 := i_rng y5
      have rg_y3 := l_rng y3
      refine xw_iload (aX12_number 6 rfl) rfl ?_
      refine hw_iflt (tgt := 34) (aX12_number 7 rfl) (by decide) rfl (fun cd5 => ?_) (fun cd5 => ?_)
      · refine xw_lloadn (aX12_number 22 rfl) rfl ?_
        refine xw_lret (aX12_number 23 rfl) rfl ?_
        exact ⟨y3, rfl, rfl⟩
      · refine xw_lloadn (aX12_number 8 rfl) rfl ?_
        refine hw_bp (v := (8 : Int32)) (aX12_number 9 rfl) (by decide) ?_
        refine xw_lshl (aX12_number 10 rfl) ?_
        refine hw_tl (fun x6 => ?_)
        have b7 := l_rng x6
        refine hw_aloadn (aX12_number 11 rfl) rfl ?_
        refine hw_get (v := .ref (base + 124)) (aX12_number 12 rfl) wf_RX12_17 (c121 hS) (s121 hS) (by decide) (congrArg (fun r => va_rf (h_rf base r)) (r121_3 hF)) ?_
        refine xw_iloadn (aX12_number 13 rfl) rfl ?_
        refine xw_iload (aX12_number 14 rfl) rfl ?_
        refine xw_iadd (aX12_number 15 rfl) ?_
        refine hw_tie (A := ((a1).toInt) + ((y5).toInt)) (i_add rfl rfl (by omega) (by omega)) (fun x8 e9 => ?_)
        obtain ⟨x10, h11⟩ : ∃ y, FI 124 (x8).toNatClampNeg = y := ⟨_, rfl⟩
        have h11l := congrArg Int32.toInt h11
        have := i_rng x10
        refine hw_iald (v := x10) (aX12_number 16 rfl) (c124 hS) (s124 hS) (h_in e9 (by omega) (by omega)) (show FI 124 (x8).toNatClampNeg = x10 from h11) ?_
        have b12 := gI_124 hI (i_lt (x := x8) e9 (by omega) (by omega)); rw [h11] at b12
        refine xw_i2l (aX12_number 17 rfl) ?_
        refine hw_tle (A := (x10).toInt) (i_2l rfl) (fun x13 e14 => ?_)
        refine xw_lor (aX12_number 18 rfl) ?_
        refine hw_tl (fun x15 => ?_)
        have b16 := l_rng x15
        refine xw_lstoren (L2 := [(3, .long (x15)), (5, .int (y5)), (0, .ref (base + 121)), (1, .int (a1))]) (aX12_number 19 rfl) (by decide) rfl ?_
        obtain ⟨x17, q19⟩ : ∃ y : Int32, (y5) + Int32.ofInt (-1) = y := ⟨_, rfl⟩
        have e18 : (x17).toInt = (y5).toInt + (-1) := by rw [← q19]; exact i_add rfl (by decide) (by omega) (by omega)
        refine xw_iinc (L2 := [(5, .int (x17)), (3, .long (x15)), (0, .ref (base + 121)), (1, .int (a1))]) (aX12_number 20 rfl) rfl (by decide) (by rw [q19]; rfl) ?_
        refine xw_goto (tgt := 7) (aX12_number 21 rfl) (by decide) ?_
        exact hw_L (ih (x17) (x15) (by have := (e18 : (x17).toInt = (y5).toInt + (-1)); omega) (by have := (e18 : (x17).toInt = (y5).toInt + (-1)); omega)) ⟨rfl, rfl, rfl, rfl, trivial⟩
  exact hw_L (lp4 (((x1).toInt + 1 : Int).toNat + 1) (x1) ((0 : Int64)) (by have := (e2 : (x1).toInt = (8) - (1)); have := ((by decide : (0 : Int64).toInt = 0) : ((0 : Int64)).toInt = 0); omega) (by have := (e2 : (x1).toInt = (8) - (1)); have := ((by decide : (0 : Int64).toInt = 0) : ((0 : Int64)).toInt = 0); omega)) ⟨rfl, rfl, rfl, rfl, trivial⟩
def nX12_part : Nat := 0xb1dfffa70108844f2e60081588211100b42a600815681b5802116000b42a2000a2071508150836032a00a0071c4f06151b5d00b42a4f05151b5a00b42a50210400a70907009a1c0c00a78507150900a0071c1b5700b42a4f1c1b5400b42a
theorem bX12_part : cX12_part.data.toList.map UInt8.toNat = x_un nX12_part 94 := by decide +kernel
def iX12_part : List (Nat × Jvm.ClassFile.Instr × Nat) := [(0, .aload_n 0, 1), (1, .getfield 84, 3), (4, .iload_n 1, 1), (5, .iload_n 2, 1), (6, .iastore, 1), (7, .aload_n 0, 1), (8, .getfield 87, 3), (11, .iload_n 1, 1), (12, .iload_n 2, 1), (13, .iconst 4, 1), (14, .if_icmp .ne 9, 3), (17, .iload 7, 2), (19, .i2l, 1), (20, .goto 12, 3), (23, .iload_n 2, 1), (24, .ifCond .ne 7, 3), (27, .lconst 0, 1), (28, .goto 4, 3), (31, .lload_n 3, 1), (32, .lastore, 1), (33, .aload_n 0, 1), (34, .getfield 90, 3), (37, .iload_n 1, 1), (38, .iload 5, 2), (40, .iastore, 1), (41, .aload_n 0, 1), (42, .getfield 93, 3), (45, .iload_n 1, 1), (46, .iload 6, 2), (48, .iastore, 1), (49, .iload_n 2, 1), (50, .iconst 4, 1), (51, .if_icmp .ne 42, 3), (54, .iconst 0, 1), (55, .istore 8, 2), (57, .iload 8, 2), (59, .iload 7, 2), (61, .if_icmp .ge 32, 3), (64, .aload_n 0, 1), (65, .getfield 96, 3), (68, .sipush 600, 3), (71, .iload_n 1, 1), (72, .imul, 1), (73, .iload 8, 2), (75, .iadd, 1), (76, .aload_n 0, 1), (77, .getfield 17, 3), (80, .lload_n 3, 1), (81, .l2i, 1), (82, .iload 8, 2), (84, .iadd, 1), (85, .iaload, 1), (86, .iastore, 1), (87, .iinc 8 1, 3), (90, .goto (-33), 3), (93, .return_, 1)]
theorem dX12_part : x_il nX12_part 94 iX12_part = true := by decide +kernel
theorem aX12_part (k : Nat) {pc : Nat} {i : Jvm.ClassFile.Instr} {len : Nat} (hk : iX12_part[k]? = some (pc, i, len)) : x_at xMM 186 pc i len yX12_part 9 none := ⟨cX12_part, rfl, x_il_ok bX12_part dX12_part k hk⟩
set_option maxHeartbeats 4000000 in
set_option maxRecDepth 100000 in
theorem n_part {sk : xK} {base d n sl : Nat} {SH : Nat → Nat × Nat} {FI : Nat → Nat → Int32} {FL : Nat → Nat → Int64} {FR : Nat → Nat → Option Nat} (hS : h_S n SH) (hF : h_FR FR) (hI : g_I FI) (a1 : Int32) (a2 : Int32) (a3 : Int64) (a4 : Int32) (a5 : Int32) (a6 : Int32) (g0 : (a2).toInt = 2 → 0 ≤ (a3).toInt ∧ (a3).toInt ≤ 31) (g1 : (a2).toInt = 4 → 0 ≤ (a3).toInt ∧ 0 ≤ (a6).toInt ∧ (a6).toInt ≤ 600 ∧ (a3).toInt + (a6).toInt ≤ 19200) (g2 : 0 ≤ (a1).toInt ∧ (a1).toInt ≤ 15) (g3 : 0 ≤ (a5).toInt ∧ (a5).toInt ≤ 4096) (rel_part : rl_p (FI 143) (FL 144)) : hw sk base d none 186 0 [(0, .ref (base + 121)), (1, .int (a1)), (2, .int (a2)), (3, .long (a3)), (5, .int (a4)), (6, .int (a5)), (7, .int (a6))] [] (n, sl, SH, FI, FL, FR) (h_V (fun s => ∃ FI' FL', s = (n, sl, SH, FI', FL', FR) ∧ g_I FI' ∧ g_fr n SH [] [143, 145, 146, 147] [] FI FI' ∧ g_fr n SH [] [144] [] FL FL' ∧ (rl_p (FI' 143) (FL' 144)))) := by
  have rg_a1 := i_rng a1
  have rg_a2 := i_rng a2
  have rg_a3 := l_rng a3
  have rg_a4 := i_rng a4
  have rg_a5 := i_rng a5
  have rg_a6 := i_rng a6
  refine hw_aloadn (aX12_part 0 rfl) rfl ?_
  refine hw_get (v := .ref (base + 143)) (aX12_part 1 rfl) wf_RX12_84 (c121 hS) (s121 hS) (by decide) (congrArg (fun r => va_rf (h_rf base r)) (r121_48 hF)) ?_
  refine xw_iloadn (aX12_part 2 rfl) rfl ?_
  refine xw_iloadn (aX12_part 3 rfl) rfl ?_
  refine hv_iast (k := (a1).toNatClampNeg) (aX12_part 4 rfl) (c143 hS) (s143 hS) (h_in rfl (by omega) (by omega)) rfl (fun FI1 u2 => ?_)
  have hI3 : g_I FI1 := gU_F hI u2 rfl
  refine hw_aloadn (aX12_part 5 rfl) rfl ?_
  refine hw_get (v := .ref (base + 144)) (aX12_part 6 rfl) wf_RX12_87 (c121 hS) (s121 hS) (by decide) (congrArg (fun r => va_rf (h_rf base r)) (r121_49 hF)) ?_
  refine xw_iloadn (aX12_part 7 rfl) rfl ?_
  refine xw_iloadn (aX12_part 8 rfl) rfl ?_
  refine hw_ic (v := (4 : Int32)) (aX12_part 9 rfl) (by decide) ?_
  refine hw_icne (tgt := 23) (aX12_part 10 rfl) (by decide) rfl (by decide : (4 : Int32).toInt = 4) (fun cd4 => ?_) (fun cd4 => ?_)
  · refine xw_iloadn (aX12_part 14 rfl) rfl ?_
    refine hw_ifne (tgt := 31) (aX12_part 15 rfl) (by decide) rfl (fun cd5 => ?_) (fun cd5 => ?_)
    · refine xw_lloadn (aX12_part 18 rfl) rfl ?_
      refine hv_last (k := (a1).toNatClampNeg) (aX12_part 19 rfl) (c144 hS) (s144 hS) (h_in rfl (by omega) (by omega)) rfl (fun FL6 u7 => ?_)
      have rl8 : rl_p (FI1 143) (FL6 144) := by rw [show FI1 143 = va_up (FI 143) ((a1).toNatClampNeg) (a2) from (up_va u2 (rfl)), show FL6 144 = va_up (FL 144) ((a1).toNatClampNeg) (a3) from (up_va u7 (rfl))]; exact rl_p_up rel_part (by omega) (by omega)
      refine hw_aloadn (aX12_part 20 rfl) rfl ?_
      refine hw_get (v := .ref (base + 145)) (aX12_part 21 rfl) wf_RX12_90 (c121 hS) (s121 hS) (by decide) (congrArg (fun r => va_rf (h_rf base r)) (r121_50 hF)) ?_
      refine xw_iloadn (aX12_part 22 rfl) rfl ?_
      refine xw_iload (aX12_part 23 rfl) rfl ?_
      refine hv_iast (k := (a1).toNatClampNeg) (aX12_part 24 rfl) (c145 hS) (s145 hS) (h_in rfl (by omega) (by omega)) rfl (fun FI9 u10 => ?_)
      have rl11 : rl_p (FI9 143) (FL6 144) := by rw [show FI9 143 = FI1 143 from up_row u10 (by decide) rfl]; exact rl8
      have hI12 : g_I FI9 := gU_F hI3 u10 rfl
      refine hw_aloadn (aX12_part 25 rfl) rfl ?_
      refine hw_get (v := .ref (base + 146)) (aX12_part 26 rfl) wf_RX12_93 (c121 hS) (s121 hS) (by decide) (congrArg (fun r => va_rf (h_rf base r)) (r121_51 hF)) ?_
      refine xw_iloadn (aX12_part 27 rfl) rfl ?_
      refine xw_iload (aX12_part 28 rfl) rfl ?_
      refine hv_iast (k := (a1).toNatClampNeg) (aX12_part 29 rfl) (c146 hS) (s146 hS) (h_in rfl (by omega) (by omega)) rfl (fun FI13 u14 => ?_)
      have rl15 : rl_p (FI13 143) (FL6 144) := by rw [show FI13 143 = FI9 143 from up_row u14 (by decide) rfl]; exact rl11
      have hI16 : g_I FI13 := gU_146 hI12 u14 (by omega) (by omega)
      refine xw_iloadn (aX12_part 30 rfl) rfl ?_
      refine hw_ic (v := (4 : Int32)) (aX12_part 31 rfl) (by decide) ?_
      refine hw_icne (tgt := 93) (aX12_part 32 rfl) (by decide) rfl (by decide : (4 : Int32).toInt = 4) (fun cd17 => ?_) (fun cd17 => ?_)
      · refine xw_vret (aX12_part 55 rfl) rfl ?_
        exact ⟨rfl, FI13, FL6, rfl, hI16, (gf_a (gf_a (gf_a gf_rf u2 (by decide)) u10 (by decide)) u14 (by decide)), (gf_a gf_rf u7 (by decide)), (show rl_p (FI13 143) (FL6 144) from rl15)⟩
      · have e18 : 0 ≤ (a3).toInt ∧ (a3).toInt ≤ 19200 := by omega
        have e19 : 0 ≤ (a6).toInt ∧ (a6).toInt ≤ 600 := by omega
        refine hw_ic (v := (0 : Int32)) (aX12_part 33 rfl) (by decide) ?_
        refine xw_istore (L2 := [(8, .int ((0 : Int32))), (0, .ref (base + 121)), (1, .int (a1)), (2, .int (a2)), (3, .long (a3)), (5, .int (a4)), (6, .int (a5)), (7, .int (a6))]) (aX12_part 34 rfl) (by decide) rfl ?_
        have lp29 : ∀ (m : Nat) (y8 : Int32) (FIv20 : Nat → Nat → Int32), (g_fr n SH [] [143, 145, 146, 147] [] FI FIv20) → (g_I FIv20) → (FIv20 143 (a1).toNatClampNeg = a2) → (FIv20 145 (a1).toNatClampNeg = a4) → (FIv20 146 (a1).toNatClampNeg = a5) → (rl_p (FIv20 143) (FL6 144)) → (0 ≤ (y8).toInt ∧ (y8).toInt ≤ 600) → ((y8).toInt ≤ (a6).toInt) → (a6).toInt - (y8).toInt < m → hw sk base d none 186 57 [(8, .int (y8)), (0, .ref (base + 121)), (1, .int (a1)), (3, .long (a3)), (7, .int (a6))] [] (n, sl, SH, FIv20, FL6, FR) (h_V (fun s => ∃ FI' FL', s = (n, sl, SH, FI', FL', FR) ∧ g_I FI' ∧ g_fr n SH [] [143, 145, 146, 147] [] FI FI' ∧ g_fr n SH [] [144] [] FL FL' ∧ (rl_p (FI' 143) (FL' 144)))) := by
          intro m
          induction m with
          | zero => intro y8 FIv20 fr21 hI22 kp23 kp24 kp25 rl26 iv27 iv28 hm; omega
          | succ m ih =>
            intro y8 FIv20 fr21 hI22 kp23 kp24 kp25 rl26 iv27 iv28 hm
            have rg_y8 := i_rng y8
            have := congrArg Int32.toInt kp23
            have := congrArg Int32.toInt kp24
            have := congrArg Int32.toInt kp25
            refine xw_iload (aX12_part 35 rfl) rfl ?_
            refine xw_iload (aX12_part 36 rfl) rfl ?_
            refine hw_icge (tgt := 93) (aX12_part 37 rfl) (by decide) rfl rfl (fun cd30 => ?_) (fun cd30 => ?_)
            · refine xw_vret (aX12_part 55 rfl) rfl ?_
              exact ⟨rfl, FIv20, FL6, rfl, hI22, fr21, (gf_a gf_rf u7 (by decide)), (show rl_p (FIv20 143) (FL6 144) from rl26)⟩
            · refine hw_aloadn (aX12_part 38 rfl) rfl ?_
              refine hw_get (v := .ref (base + 147)) (aX12_part 39 rfl) wf_RX12_96 (c121 hS) (s121 hS) (by decide) (congrArg (fun r => va_rf (h_rf base r)) (r121_52 hF)) ?_
              refine hw_sp (v := (600 : Int32)) (aX12_part 40 rfl) (by decide) ?_
              refine xw_iloadn (aX12_part 41 rfl) rfl ?_
              refine xw_imul (aX12_part 42 rfl) ?_
              refine hw_tie (A := (600) * ((a1).toInt)) (i_mul (by decide : (600 : Int32).toInt = 600) rfl (by omega) (by omega)) (fun x31 e32 => ?_)
              refine xw_iload (aX12_part 43 rfl) rfl ?_
              refine xw_iadd (aX12_part 44 rfl) ?_
              refine hw_tie (A := ((600) * ((a1).toInt)) + ((y8).toInt)) (i_add e32 rfl (by omega) (by omega)) (fun x33 e34 => ?_)
              refine hw_aloadn (aX12_part 45 rfl) rfl ?_
              refine hw_get (v := .ref (base + 124)) (aX12_part 46 rfl) wf_RX12_17 (c121 hS) (s121 hS) (by decide) (congrArg (fun r => va_rf (h_rf base r)) (r121_3 hF)) ?_
              refine xw_lloadn (aX12_part 47 rfl) rfl ?_
              refine xw_l2i (aX12_part 48 rfl) ?_
              refine hw_tie (A := (a3).toInt) (l_2i rfl (by omega) (by omega)) (fun x35 e36 => ?_)
              refine xw_iload (aX12_part 49 rfl) rfl ?_
              refine xw_iadd (aX12_part 50 rfl) ?_
              refine hw_tie (A := ((a3).toInt) + ((y8).toInt)) (i_add e36 rfl (by omega) (by omega)) (fun x37 e38 => ?_)
              obtain ⟨x39, h40⟩ : ∃ y, FIv20 124 (x37).toNatClampNeg = y := ⟨_, rfl⟩
              have h40l := congrArg Int32.toInt h40
              have := i_rng x39
              refine hw_iald (v := x39) (aX12_part 51 rfl) (c124 hS) (s124 hS) (h_in e38 (by omega) (by omega)) (show FIv20 124 (x37).toNatClampNeg = x39 from h40) ?_
              have b41 := gI_124 hI22 (i_lt (x := x37) e38 (by omega) (by omega)); rw [h40] at b41
              refine hv_iast (k := (x33).toNatClampNeg) (aX12_part 52 rfl) (c147 hS) (s147 hS) (h_in e34 (by omega) (by omega)) rfl (fun FI42 u43 => ?_)
              have rl44 : rl_p (FI42 143) (FL6 144) := by rw [show FI42 143 = FIv20 143 from up_row u43 (by decide) rfl]; exact rl26
              have hI45 : g_I FI42 := gU_F hI22 u43 rfl
              obtain ⟨x46, q48⟩ : ∃ y : Int32, (y8) + Int32.ofInt (1) = y := ⟨_, rfl⟩
              have e47 : (x46).toInt = (y8).toInt + (1) := by rw [← q48]; exact i_add rfl (by decide) (by omega) (by omega)
              refine xw_iinc (L2 := [(8, .int (x46)), (0, .ref (base + 121)), (1, .int (a1)), (3, .long (a3)), (7, .int (a6))]) (aX12_part 53 rfl) rfl (by decide) (by rw [q48]; rfl) ?_
              refine xw_goto (tgt := 57) (aX12_part 54 rfl) (by decide) ?_
              exact hw_L (ih (x46) FI42 (gf_a fr21 u43 (by decide)) hI45 (show FI42 143 (a1).toNatClampNeg = a2 from (up_c u43 (by decide) (kp23))) (show FI42 145 (a1).toNatClampNeg = a4 from (up_c u43 (by decide) (kp24))) (show FI42 146 (a1).toNatClampNeg = a5 from (up_c u43 (by decide) (kp25))) (show rl_p (FI42 143) (FL6 144) from rl44) (by have := (e47 : (x46).toInt = (y8).toInt + (1)); omega) (by have := (e47 : (x46).toInt = (y8).toInt + (1)); omega) (by have := (e47 : (x46).toInt = (y8).toInt + (1)); omega)) ⟨rfl, rfl, rfl, rfl, rfl, trivial⟩
        exact hw_L (lp29 (((a6).toInt - 0 : Int).toNat + 1) ((0 : Int32)) FI13 (gf_a (gf_a (gf_a gf_rf u2 (by decide)) u10 (by decide)) u14 (by decide)) hI16 (show FI13 143 (a1).toNatClampNeg = a2 from (up_c u14 (by decide) ((up_c u10 (by decide) (up_eq u2))))) (show FI13 145 (a1).toNatClampNeg = a4 from (up_c u14 (by decide) (up_eq u10))) (show FI13 146 (a1).toNatClampNeg = a5 from up_eq u14) (show rl_p (FI13 143) (FL6 144) from rl15) (by have := ((by decide : (0 : Int32).toInt = 0) : ((0 : Int32)).toInt = 0); omega) (by have := ((by decide : (0 : Int32).toInt = 0) : ((0 : Int32)).toInt = 0); omega) (by have := ((by decide : (0 : Int32).toInt = 0) : ((0 : Int32)).toInt = 0); omega)) ⟨rfl, rfl, rfl, rfl, rfl, trivial⟩
    · refine hw_lc (v := (0 : Int64)) (aX12_part 16 rfl) (by decide) ?_
      refine xw_goto (tgt := 32) (aX12_part 17 rfl) (by decide) ?_
      refine hv_last (k := (a1).toNatClampNeg) (aX12_part 19 rfl) (c144 hS) (s144 hS) (h_in rfl (by omega) (by omega)) rfl (fun FL49 u50 => ?_)
      have rl51 : rl_p (FI1 143) (FL49 144) := by rw [show FI1 143 = va_up (FI 143) ((a1).toNatClampNeg) (a2) from (up_va u2 (rfl)), show FL49 144 = va_up (FL 144) ((a1).toNatClampNeg) ((0 : Int64)) from (up_va u50 (rfl))]; exact rl_p_up rel_part (by omega) (by omega)
      refine hw_aloadn (aX12_part 20 rfl) rfl ?_
      refine hw_get (v := .ref (base + 145)) (aX12_part 21 rfl) wf_RX12_90 (c121 hS) (s121 hS) (by decide) (congrArg (fun r => va_rf (h_rf base r)) (r121_50 hF)) ?_
      refine xw_iloadn (aX12_part 22 rfl) rfl ?_
      refine xw_iload (aX12_part 23 rfl) rfl ?_
      refine hv_iast (k := (a1).toNatClampNeg) (aX12_part 24 rfl) (c145 hS) (s145 hS) (h_in rfl (by omega) (by omega)) rfl (fun FI52 u53 => ?_)
      have rl54 : rl_p (FI52 143) (FL49 144) := by rw [show FI52 143 = FI1 143 from up_row u53 (by decide) rfl]; exact rl51
      have hI55 : g_I FI52 := gU_F hI3 u53 rfl
      refine hw_aloadn (aX12_part 25 rfl) rfl ?_
      refine hw_get (v := .ref (base + 146)) (aX12_part 26 rfl) wf_RX12_93 (c121 hS) (s121 hS) (by decide) (congrArg (fun r => va_rf (h_rf base r)) (r121_51 hF)) ?_
      refine xw_iloadn (aX12_part 27 rfl) rfl ?_
      refine xw_iload (aX12_part 28 rfl) rfl ?_
      refine hv_iast (k := (a1).toNatClampNeg) (aX12_part 29 rfl) (c146 hS) (s146 hS) (h_in rfl (by omega) (by omega)) rfl (fun FI56 u57 => ?_)
      have rl58 : rl_p (FI56 143) (FL49 144) := by rw [show FI56 143 = FI52 143 from up_row u57 (by decide) rfl]; exact rl54
      have hI59 : g_I FI56 := gU_146 hI55 u57 (by omega) (by omega)
      refine xw_iloadn (aX12_part 30 rfl) rfl ?_
      refine hw_ic (v := (4 : Int32)) (aX12_part 31 rfl) (by decide) ?_
      refine hw_icne (tgt := 93) (aX12_part 32 rfl) (by decide) rfl (by decide : (4 : Int32).toInt = 4) (fun cd60 => ?_) (fun cd60 => ?_)
      · refine xw_vret (aX12_part 55 rfl) rfl ?_
        exact ⟨rfl, FI56, FL49, rfl, hI59, (gf_a (gf_a (gf_a gf_rf u2 (by decide)) u53 (by decide)) u57 (by decide)), (gf_a gf_rf u50 (by decide)), (show rl_p (FI56 143) (FL49 144) from rl58)⟩
      · omega
  · refine xw_iload (aX12_part 11 rfl) rfl ?_
    refine xw_i2l (aX12_part 12 rfl) ?_
    refine hw_tle (A := (a6).toInt) (i_2l rfl) (fun x61 e62 => ?_)
    refine xw_goto (tgt := 32) (aX12_part 13 rfl) (by decide) ?_
    refine hv_last (k := (a1).toNatClampNeg) (aX12_part 19 rfl) (c144 hS) (s144 hS) (h_in rfl (by omega) (by omega)) rfl (fun FL63 u64 => ?_)
    have rl65 : rl_p (FI1 143) (FL63 144) := by rw [show FI1 143 = va_up (FI 143) ((a1).toNatClampNeg) (a2) from (up_va u2 (rfl)), show FL63 144 = va_up (FL 144) ((a1).toNatClampNeg) (x61) from (up_va u64 (rfl))]; exact rl_p_up rel_part (by omega) (by omega)
    refine hw_aloadn (aX12_part 20 rfl) rfl ?_
    refine hw_get (v := .ref (base + 145)) (aX12_part 21 rfl) wf_RX12_90 (c121 hS) (s121 hS) (by decide) (congrArg (fun r => va_rf (h_rf base r)) (r121_50 hF)) ?_
    refine xw_iloadn (aX12_part 22 rfl) rfl ?_
    refine xw_iload (aX12_part 23 rfl) rfl ?_
    refine hv_iast (k := (a1).toNatClampNeg) (aX12_part 24 rfl) (c145 hS) (s145 hS) (h_in rfl (by omega) (by omega)) rfl (fun FI66 u67 => ?_)
    have rl68 : rl_p (FI66 143) (FL63 144) := by rw [show FI66 143 = FI1 143 from up_row u67 (by decide) rfl]; exact rl65
    have hI69 : g_I FI66 := gU_F hI3 u67 rfl
    refine hw_aloadn (aX12_part 25 rfl) rfl ?_
    refine hw_get (v := .ref (base + 146)) (aX12_part 26 rfl) wf_RX12_93 (c121 hS) (s121 hS) (by decide) (congrArg (fun r => va_rf (h_rf base r)) (r121_51 hF)) ?_
    refine xw_iloadn (aX12_part 27 rfl) rfl ?_
    refine xw_iload (aX12_part 28 rfl) rfl ?_
    refine hv_iast (k := (a1).toNatClampNeg) (aX12_part 29 rfl) (c146 hS) (s146 hS) (h_in rfl (by omega) (by omega)) rfl (fun FI70 u71 => ?_)
    have rl72 : rl_p (FI70 143) (FL63 144) := by rw [show FI70 143 = FI66 143 from up_row u71 (by decide) rfl]; exact rl68
    have hI73 : g_I FI70 := gU_146 hI69 u71 (by omega) (by omega)
    refine xw_iloadn (aX12_part 30 rfl) rfl ?_
    refine hw_ic (v := (4 : Int32)) (aX12_part 31 rfl) (by decide) ?_
    refine hw_icne (tgt := 93) (aX12_part 32 rfl) (by decide) rfl (by decide : (4 : Int32).toInt = 4) (fun cd74 => ?_) (fun cd74 => ?_)
    · omega
    · have e75 : 0 ≤ (a3).toInt ∧ (a3).toInt ≤ 19200 := by omega
      have e76 : 0 ≤ (a6).toInt ∧ (a6).toInt ≤ 600 := by omega
      refine hw_ic (v := (0 : Int32)) (aX12_part 33 rfl) (by decide) ?_
      refine xw_istore (L2 := [(8, .int ((0 : Int32))), (0, .ref (base + 121)), (1, .int (a1)), (2, .int (a2)), (3, .long (a3)), (5, .int (a4)), (6, .int (a5)), (7, .int (a6))]) (aX12_part 34 rfl) (by decide) rfl ?_
      have lp86 : ∀ (m : Nat) (y8 : Int32) (FIv77 : Nat → Nat → Int32), (g_fr n SH [] [143, 145, 146, 147] [] FI FIv77) → (g_I FIv77) → (FIv77 143 (a1).toNatClampNeg = a2) → (FIv77 145 (a1).toNatClampNeg = a4) → (FIv77 146 (a1).toNatClampNeg = a5) → (rl_p (FIv77 143) (FL63 144)) → (0 ≤ (y8).toInt ∧ (y8).toInt ≤ 600) → ((y8).toInt ≤ (a6).toInt) → (a6).toInt - (y8).toInt < m → hw sk base d none 186 57 [(8, .int (y8)), (0, .ref (base + 121)), (1, .int (a1)), (3, .long (a3)), (7, .int (a6))] [] (n, sl, SH, FIv77, FL63, FR) (h_V (fun s => ∃ FI' FL', s = (n, sl, SH, FI', FL', FR) ∧ g_I FI' ∧ g_fr n SH [] [143, 145, 146, 147] [] FI FI' ∧ g_fr n SH [] [144] [] FL FL' ∧ (rl_p (FI' 143) (FL' 144)))) := by
        intro m
        induction m with
        | zero => intro y8 FIv77 fr78 hI79 kp80 kp81 kp82 rl83 iv84 iv85 hm; omega
        | succ m ih =>
          intro y8 FIv77 fr78 hI79 kp80 kp81 kp82 rl83 iv84 iv85 hm
          have rg_y8 := i_rng y8
          have := congrArg Int32.toInt kp80
          have := congrArg Int32.toInt kp81
          have := congrArg Int32.toInt kp82
          refine xw_iload (aX12_part 35 rfl) rfl ?_
          refine xw_iload (aX12_part 36 rfl) rfl ?_
          refine hw_icge (tgt := 93) (aX12_part 37 rfl) (by decide) rfl rfl (fun cd87 => ?_) (fun cd87 => ?_)
          · refine xw_vret (aX12_part 55 rfl) rfl ?_
            exact ⟨rfl, FIv77, FL63, rfl, hI79, fr78, (gf_a gf_rf u64 (by decide)), (show rl_p (FIv77 143) (FL63 144) from rl83)⟩
          · refine hw_aloadn (aX12_part 38 rfl) rfl ?_
            refine hw_get (v := .ref (base + 147)) (aX12_part 39 rfl) wf_RX12_96 (c121 hS) (s121 hS) (by decide) (congrArg (fun r => va_rf (h_rf base r)) (r121_52 hF)) ?_
            refine hw_sp (v := (600 : Int32)) (aX12_part 40 rfl) (by decide) ?_
            refine xw_iloadn (aX12_part 41 rfl) rfl ?_
            refine xw_imul (aX12_part 42 rfl) ?_
            refine hw_tie (A := (600) * ((a1).toInt)) (i_mul (by decide : (600 : Int32).toInt = 600) rfl (by omega) (by omega)) (fun x88 e89 => ?_)
            refine xw_iload (aX12_part 43 rfl) rfl ?_
            refine xw_iadd (aX12_part 44 rfl) ?_
            refine hw_tie (A := ((600) * ((a1).toInt)) + ((y8).toInt)) (i_add e89 rfl (by omega) (by omega)) (fun x90 e91 => ?_)
            refine hw_aloadn (aX12_part 45 rfl) rfl ?_
            refine hw_get (v := .ref (base + 124)) (aX12_part 46 rfl) wf_RX12_17 (c121 hS) (s121 hS) (by decide) (congrArg (fun r => va_rf (h_rf base r)) (r121_3 hF)) ?_
            refine xw_lloadn (aX12_part 47 rfl) rfl ?_
            refine xw_l2i (aX12_part 48 rfl) ?_
            refine hw_tie (A := (a3).toInt) (l_2i rfl (by omega) (by omega)) (fun x92 e93 => ?_)
            refine xw_iload (aX12_part 49 rfl) rfl ?_
            refine xw_iadd (aX12_part 50 rfl) ?_
            refine hw_tie (A := ((a3).toInt) + ((y8).toInt)) (i_add e93 rfl (by omega) (by omega)) (fun x94 e95 => ?_)
            obtain ⟨x96, h97⟩ : ∃ y, FIv77 124 (x94).toNatClampNeg = y := ⟨_, rfl⟩
            have h97l := congrArg Int32.toInt h97
            have := i_rng x96
            refine hw_iald (v := x96) (aX12_part 51 rfl) (c124 hS) (s124 hS) (h_in e95 (by omega) (by omega)) (show FIv77 124 (x94).toNatClampNeg = x96 from h97) ?_
            have b98 := gI_124 hI79 (i_lt (x := x94) e95 (by omega) (by omega)); rw [h97] at b98
            refine hv_iast (k := (x90).toNatClampNeg) (aX12_part 52 rfl) (c147 hS) (s147 hS) (h_in e91 (by omega) (by omega)) rfl (fun FI99 u100 => ?_)
            have rl101 : rl_p (FI99 143) (FL63 144) := by rw [show FI99 143 = FIv77 143 from up_row u100 (by decide) rfl]; exact rl83
            have hI102 : g_I FI99 := gU_F hI79 u100 rfl
            obtain ⟨x103, q105⟩ : ∃ y : Int32, (y8) + Int32.ofInt (1) = y := ⟨_, rfl⟩
            have e104 : (x103).toInt = (y8).toInt + (1) := by rw [← q105]; exact i_add rfl (by decide) (by omega) (by omega)
            refine xw_iinc (L2 := [(8, .int (x103)), (0, .ref (base + 121)), (1, .int (a1)), (3, .long (a3)), (7, .int (a6))]) (aX12_part 53 rfl) rfl (by decide) (by rw [q105]; rfl) ?_
            refine xw_goto (tgt := 57) (aX12_part 54 rfl) (by decide) ?_
            exact hw_L (ih (x103) FI99 (gf_a fr78 u100 (by decide)) hI102 (show FI99 143 (a1).toNatClampNeg = a2 from (up_c u100 (by decide) (kp80))) (show FI99 145 (a1).toNatClampNeg = a4 from (up_c u100 (by decide) (kp81))) (show FI99 146 (a1).toNatClampNeg = a5 from (up_c u100 (by decide) (kp82))) (show rl_p (FI99 143) (FL63 144) from rl101) (by have := (e104 : (x103).toInt = (y8).toInt + (1)); omega) (by have := (e104 : (x103).toInt = (y8).toInt + (1)); omega) (by have := (e104 : (x103).toInt = (y8).toInt + (1)); omega)) ⟨rfl, rfl, rfl, rfl, rfl, trivial⟩
      exact hw_L (lp86 (((a6).toInt - 0 : Int).toNat + 1) ((0 : Int32)) FI70 (gf_a (gf_a (gf_a gf_rf u2 (by decide)) u67 (by decide)) u71 (by decide)) hI73 (show FI70 143 (a1).toNatClampNeg = a2 from (up_c u71 (by decide) ((up_c u67 (by decide) (up_eq u2))))) (show FI70 145 (a1).toNatClampNeg = a4 from (up_c u71 (by decide) (up_eq u67))) (show FI70 146 (a1).toNatClampNeg = a5 from up_eq u71) (show rl_p (FI70 143) (FL63 144) from rl72) (by have := ((by decide : (0 : Int32).toInt = 0) : ((0 : Int32)).toInt = 0); omega) (by have := ((by decide : (0 : Int32).toInt = 0) : ((0 : Int32)).toInt = 0); omega) (by have := ((by decide : (0 : Int32).toInt = 0) : ((0 : Int32)).toInt = 0); omega)) ⟨rfl, rfl, rfl, rfl, rfl, trivial⟩
def nX12_empty : Nat := 0xb16501b60303030903032a6201b5032a5100b5042a
theorem bX12_empty : cX12_empty.data.toList.map UInt8.toNat = x_un nX12_empty 21 := by decide +kernel
def iX12_empty : List (Nat × Jvm.ClassFile.Instr × Nat) := [(0, .aload_n 0, 1), (1, .iconst 1, 1), (2, .putfield 81, 3), (5, .aload_n 0, 1), (6, .iconst 0, 1), (7, .putfield 354, 3), (10, .aload_n 0, 1), (11, .iconst 0, 1), (12, .iconst 0, 1), (13, .lconst 0, 1), (14, .iconst 0, 1), (15, .iconst 0, 1), (16, .iconst 0, 1), (17, .invokevirtual 357, 3), (20, .return_, 1)]
theorem dX12_empty : x_il nX12_empty 21 iX12_empty = true := by decide +kernel
theorem aX12_empty (k : Nat) {pc : Nat} {i : Jvm.ClassFile.Instr} {len : Nat} (hk : iX12_empty[k]? = some (pc, i, len)) : x_at xMM 187 pc i len yX12_empty 1 none := ⟨cX12_empty, rfl, x_il_ok bX12_empty dX12_empty k hk⟩
set_option maxHeartbeats 4000000 in
set_option maxRecDepth 100000 in
theorem n_empty {sk : xK} {base d n sl : Nat} {SH : Nat → Nat × Nat} {FI : Nat → Nat → Int32} {FL : Nat → Nat → Int64} {FR : Nat → Nat → Option Nat} (hS : h_S n SH) (hF : h_FR FR) (hI : g_I FI) (rel_part : rl_p (FI 143) (FL 144)) : hw sk base (d + 1) none 187 0 [(0, .ref (base + 121))] [] (n, sl, SH, FI, FL, FR) (h_V (fun s => ∃ FI' FL', s = (n, sl, SH, FI', FL', FR) ∧ g_I FI' ∧ g_fr n SH [(121, 46), (121, 47)] [143, 145, 146, 147] [] FI FI' ∧ g_fr n SH [] [144] [] FL FL' ∧ (rl_p (FI' 143) (FL' 144)))) := by
  refine hw_aloadn (aX12_empty 0 rfl) rfl ?_
  refine hw_ic (v := (1 : Int32)) (aX12_empty 1 rfl) (by decide) ?_
  refine hv_puti (aX12_empty 2 rfl) wf_RX12_81 (c121 hS) (s121 hS) (by decide) rfl rfl (fun FI1 u2 => ?_)
  have rl3 : rl_p (FI1 143) (FL 144) := by rw [show FI1 143 = FI 143 from up_row u2 (by decide) rfl]; exact rel_part
  have hI4 : g_I FI1 := gU_121_46 hI u2 (by have := ((by decide : (1 : Int32).toInt = 1) : ((1 : Int32)).toInt = 1); omega) (by have := ((by decide : (1 : Int32).toInt = 1) : ((1 : Int32)).toInt = 1); omega)
  refine hw_aloadn (aX12_empty 3 rfl) rfl ?_
  refine hw_ic (v := (0 : Int32)) (aX12_empty 4 rfl) (by decide) ?_
  refine hv_putz (aX12_empty 5 rfl) wf_RX12_354 (c121 hS) (s121 hS) (by decide) rfl rfl (by decide) (fun FI5 u6 => ?_)
  have rl7 : rl_p (FI5 143) (FL 144) := by rw [show FI5 143 = FI1 143 from up_row u6 (by decide) rfl]; exact rl3
  have hI8 : g_I FI5 := gU_121_47 hI4 u6 (by have := ((by decide : (0 : Int32).toInt = 0) : ((0 : Int32)).toInt = 0); omega) (by have := ((by decide : (0 : Int32).toInt = 0) : ((0 : Int32)).toInt = 0); omega)
  refine hw_aloadn (aX12_empty 6 rfl) rfl ?_
  refine hw_ic (v := (0 : Int32)) (aX12_empty 7 rfl) (by decide) ?_
  refine hw_ic (v := (0 : Int32)) (aX12_empty 8 rfl) (by decide) ?_
  refine hw_lc (v := (0 : Int64)) (aX12_empty 9 rfl) (by decide) ?_
  refine hw_ic (v := (0 : Int32)) (aX12_empty 10 rfl) (by decide) ?_
  refine hw_ic (v := (0 : Int32)) (aX12_empty 11 rfl) (by decide) ?_
  refine hw_ic (v := (0 : Int32)) (aX12_empty 12 rfl) (by decide) ?_
  refine hw_callV (Bs := [.int ((0 : Int32)), .int ((0 : Int32)), .long ((0 : Int64)), .int ((0 : Int32)), .int ((0 : Int32)), .int ((0 : Int32))]) (rest := []) (aX12_empty 13 rfl) wc_RX12_357 (by decide) rfl wi_yX12_part wv_yX12_part (c121 hS) (s121 hS) rfl rfl rfl (Nat.le_of_ble_eq_true rfl) (Nat.le_of_ble_eq_true rfl) (n_part (d := d) hS hF hI8 ((0 : Int32)) ((0 : Int32)) ((0 : Int64)) ((0 : Int32)) ((0 : Int32)) ((0 : Int32)) (by have := ((by decide : (0 : Int32).toInt = 0) : ((0 : Int32)).toInt = 0); have := ((by decide : (0 : Int64).toInt = 0) : ((0 : Int64)).toInt = 0); have := ((by decide : (0 : Int64).toInt = 0) : ((0 : Int64)).toInt = 0); omega) (by have := ((by decide : (0 : Int32).toInt = 0) : ((0 : Int32)).toInt = 0); have := ((by decide : (0 : Int64).toInt = 0) : ((0 : Int64)).toInt = 0); have := ((by decide : (0 : Int32).toInt = 0) : ((0 : Int32)).toInt = 0); have := ((by decide : (0 : Int32).toInt = 0) : ((0 : Int32)).toInt = 0); have := ((by decide : (0 : Int64).toInt = 0) : ((0 : Int64)).toInt = 0); have := ((by decide : (0 : Int32).toInt = 0) : ((0 : Int32)).toInt = 0); omega) (by have := ((by decide : (0 : Int32).toInt = 0) : ((0 : Int32)).toInt = 0); have := ((by decide : (0 : Int32).toInt = 0) : ((0 : Int32)).toInt = 0); omega) (by have := ((by decide : (0 : Int32).toInt = 0) : ((0 : Int32)).toInt = 0); have := ((by decide : (0 : Int32).toInt = 0) : ((0 : Int32)).toInt = 0); omega) (show rl_p (FI5 143) (FL 144) from rl7)) (fun v9 sv10 p11 => ?_)
  obtain ⟨rfl, FI13, FL14, rfl, hI15, f16, f17, rl18⟩ := p11
  show hw sk base _ _ _ _ _ [] _ _
  refine xw_vret (aX12_empty 14 rfl) rfl ?_
  exact ⟨rfl, FI13, FL14, rfl, hI15, (gf_tr ex_rf (gf_f (gf_f gf_rf u2 (by decide)) u6 (by decide)) f16 rfl rfl rfl), (gf_tr ex_rf gf_rf f17 rfl rfl rfl), (show rl_p (FI13 143) (FL14 144) from rl18)⟩
def nX12_goes : Nat := 0xac030400a7040700a25100b42a9201b42acfffa79501b5032a9201b560049201b42a2a1500a12e9201b42a5a00b42a9501b42a2500a25100b42a9201b42a3000996201b42a
theorem bX12_goes : cX12_goes.data.toList.map UInt8.toNat = x_un nX12_goes 69 := by decide +kernel
def iX12_goes : List (Nat × Jvm.ClassFile.Instr × Nat) := [(0, .aload_n 0, 1), (1, .getfield 354, 3), (4, .ifCond .eq 48, 3), (7, .aload_n 0, 1), (8, .getfield 402, 3), (11, .aload_n 0, 1), (12, .getfield 81, 3), (15, .if_icmp .ge 37, 3), (18, .aload_n 0, 1), (19, .getfield 405, 3), (22, .aload_n 0, 1), (23, .getfield 90, 3), (26, .aload_n 0, 1), (27, .getfield 402, 3), (30, .iaload, 1), (31, .if_icmp .lt 21, 3), (34, .aload_n 0, 1), (35, .aload_n 0, 1), (36, .getfield 402, 3), (39, .iconst 1, 1), (40, .iadd, 1), (41, .putfield 402, 3), (44, .aload_n 0, 1), (45, .iconst 0, 1), (46, .putfield 405, 3), (49, .goto (-49), 3), (52, .aload_n 0, 1), (53, .getfield 402, 3), (56, .aload_n 0, 1), (57, .getfield 81, 3), (60, .if_icmp .ge 7, 3), (63, .iconst 1, 1), (64, .goto 4, 3), (67, .iconst 0, 1), (68, .ireturn, 1)]
theorem dX12_goes : x_il nX12_goes 69 iX12_goes = true := by decide +kernel
theorem aX12_goes (k : Nat) {pc : Nat} {i : Jvm.ClassFile.Instr} {len : Nat} (hk : iX12_goes[k]? = some (pc, i, len)) : x_at xMM 200 pc i len yX12_goes 1 (some .boolean) := ⟨cX12_goes, rfl, x_il_ok bX12_goes dX12_goes k hk⟩
set_option maxHeartbeats 4000000 in
set_option maxRecDepth 100000 in
theorem n_goes {sk : xK} {base d n sl : Nat} {SH : Nat → Nat × Nat} {FI : Nat → Nat → Int32} {FL : Nat → Nat → Int64} {FR : Nat → Nat → Option Nat} (hS : h_S n SH) (hF : h_FR FR) (hI : g_I FI) (g0 : 0 ≤ (FI 121 58).toInt ∧ (FI 121 58).toInt ≤ 16) (g1 : 0 ≤ (FI 121 59).toInt ∧ (FI 121 59).toInt ≤ 600) : hw sk base d none 200 0 [(0, .ref (base + 121))] [] (n, sl, SH, FI, FL, FR) (h_I (fun r s => ∃ FI', s = (n, sl, SH, FI', FL, FR) ∧ g_I FI' ∧ g_fr n SH [(121, 58), (121, 59)] [] [] FI FI' ∧ (r.toInt = 1 → (FI' 121 58).toInt < (FI' 121 46).toInt) ∧ (0 ≤ (FI' 121 58).toInt ∧ (FI' 121 58).toInt ≤ 16) ∧ (0 ≤ (FI' 121 59).toInt ∧ (FI' 121 59).toInt ≤ (FI 121 59).toInt) ∧ (0 ≤ r.toInt ∧ r.toInt ≤ 1))) := by
  obtain ⟨x1, h2⟩ : ∃ y, FI 121 58 = y := ⟨_, rfl⟩
  have h2l := congrArg Int32.toInt h2
  have := i_rng x1
  obtain ⟨x3, h4⟩ : ∃ y, FI 121 59 = y := ⟨_, rfl⟩
  have h4l := congrArg Int32.toInt h4
  have := i_rng x3
  obtain ⟨x5, h6⟩ : ∃ y, FI 121 46 = y := ⟨_, rfl⟩
  have h6l := congrArg Int32.toInt h6
  have b7 := gI_121_46 hI; rw [h6] at b7
  have lp15 : ∀ (m : Nat) (FIv8 : Nat → Nat → Int32), (g_fr n SH [(121, 58), (121, 59)] [] [] FI FIv8) → (g_I FIv8) → (FIv8 121 46 = x5) → (0 ≤ (FIv8 121 58).toInt ∧ (FIv8 121 58).toInt ≤ 16) → (0 ≤ (FIv8 121 59).toInt ∧ (FIv8 121 59).toInt ≤ 600) → ((FIv8 121 59).toInt ≤ (FI 121 59).toInt) → 16 - (FIv8 121 58).toInt < m → hw sk base d none 200 0 [(0, .ref (base + 121))] [] (n, sl, SH, FIv8, FL, FR) (h_I (fun r s => ∃ FI', s = (n, sl, SH, FI', FL, FR) ∧ g_I FI' ∧ g_fr n SH [(121, 58), (121, 59)] [] [] FI FI' ∧ (r.toInt = 1 → (FI' 121 58).toInt < (FI' 121 46).toInt) ∧ (0 ≤ (FI' 121 58).toInt ∧ (FI' 121 58).toInt ≤ 16) ∧ (0 ≤ (FI' 121 59).toInt ∧ (FI' 121 59).toInt ≤ (FI 121 59).toInt) ∧ (0 ≤ r.toInt ∧ r.toInt ≤ 1))) := by
    intro m
    induction m with
    | zero => intro FIv8 fr9 hI10 kp11 iv12 iv13 iv14 hm; omega
    | succ m ih =>
      intro FIv8 fr9 hI10 kp11 iv12 iv13 iv14 hm
      have := congrArg Int32.toInt kp11
      obtain ⟨x16, h17⟩ : ∃ y, FIv8 121 58 = y := ⟨_, rfl⟩
      have h17l := congrArg Int32.toInt h17
      have := i_rng x16
      obtain ⟨x18, h19⟩ : ∃ y, FIv8 121 59 = y := ⟨_, rfl⟩
      have h19l := congrArg Int32.toInt h19
      have := i_rng x18
      refine hw_aloadn (aX12_goes 0 rfl) rfl ?_
      obtain ⟨x20, h21⟩ : ∃ y, FIv8 121 47 = y := ⟨_, rfl⟩
      have h21l := congrArg Int32.toInt h21
      have b22 := gI_121_47 hI10; rw [h21] at b22
      refine hw_get (v := .int (x20)) (aX12_goes 1 rfl) wf_RX12_354 (c121 hS) (s121 hS) (by decide) (congrArg Value.int (show FIv8 121 47 = x20 from h21)) ?_
      refine hw_ifeq (tgt := 52) (aX12_goes 2 rfl) (by decide) rfl (fun cd23 => ?_) (fun cd23 => ?_)
      · refine hw_aloadn (aX12_goes 26 rfl) rfl ?_
        refine hw_get (v := .int (x16)) (aX12_goes 27 rfl) wf_RX12_402 (c121 hS) (s121 hS) (by decide) (congrArg Value.int (show FIv8 121 58 = x16 from h17)) ?_
        refine hw_aloadn (aX12_goes 28 rfl) rfl ?_
        refine hw_get (v := .int (x5)) (aX12_goes 29 rfl) wf_RX12_81 (c121 hS) (s121 hS) (by decide) (congrArg Value.int (show FIv8 121 46 = x5 from kp11)) ?_
        refine hw_icge (tgt := 67) (aX12_goes 30 rfl) (by decide) rfl rfl (fun cd24 => ?_) (fun cd24 => ?_)
        · refine hw_ic (v := (0 : Int32)) (aX12_goes 33 rfl) (by decide) ?_
          refine xw_iret (aX12_goes 34 rfl) rfl (by decide) ?_
          have e25 : ((0 : Int32)).toInt = 0 := (by decide : (0 : Int32).toInt = 0)
          exact ⟨(0 : Int32), rfl, FIv8, rfl, hI10, fr9, (by have : ((0 : Int32)).toInt = 0 := (by decide); have := congrArg Int32.toInt (show FIv8 121 46 = x5 from kp11); have := congrArg Int32.toInt (show FIv8 121 58 = x16 from h17); omega), (by have : ((0 : Int32)).toInt = 0 := (by decide); have := congrArg Int32.toInt (show FIv8 121 58 = x16 from h17); omega), (by have : ((0 : Int32)).toInt = 0 := (by decide); have := congrArg Int32.toInt (show FIv8 121 59 = x18 from h19); omega), (by have : ((0 : Int32)).toInt = 0 := (by decide); omega)⟩
        · refine hw_ic (v := (1 : Int32)) (aX12_goes 31 rfl) (by decide) ?_
          refine xw_goto (tgt := 68) (aX12_goes 32 rfl) (by decide) ?_
          refine xw_iret (aX12_goes 34 rfl) rfl (by decide) ?_
          have e26 : ((1 : Int32)).toInt = 1 := (by decide : (1 : Int32).toInt = 1)
          exact ⟨(1 : Int32), rfl, FIv8, rfl, hI10, fr9, (by have : ((1 : Int32)).toInt = 1 := (by decide); have := congrArg Int32.toInt (show FIv8 121 46 = x5 from kp11); have := congrArg Int32.toInt (show FIv8 121 58 = x16 from h17); omega), (by have : ((1 : Int32)).toInt = 1 := (by decide); have := congrArg Int32.toInt (show FIv8 121 58 = x16 from h17); omega), (by have : ((1 : Int32)).toInt = 1 := (by decide); have := congrArg Int32.toInt (show FIv8 121 59 = x18 from h19); omega), (by have : ((1 : Int32)).toInt = 1 := (by decide); omega)⟩
      · refine hw_aloadn (aX12_goes 3 rfl) rfl ?_
        refine hw_get (v := .int (x16)) (aX12_goes 4 rfl) wf_RX12_402 (c121 hS) (s121 hS) (by decide) (congrArg Value.int (show FIv8 121 58 = x16 from h17)) ?_
        refine hw_aloadn (aX12_goes 5 rfl) rfl ?_
        refine hw_get (v := .int (x5)) (aX12_goes 6 rfl) wf_RX12_81 (c121 hS) (s121 hS) (by decide) (congrArg Value.int (show FIv8 121 46 = x5 from kp11)) ?_
        refine hw_icge (tgt := 52) (aX12_goes 7 rfl) (by decide) rfl rfl (fun cd27 => ?_) (fun cd27 => ?_)
        · refine hw_aloadn (aX12_goes 26 rfl) rfl ?_
          refine hw_get (v := .int (x16)) (aX12_goes 27 rfl) wf_RX12_402 (c121 hS) (s121 hS) (by decide) (congrArg Value.int (show FIv8 121 58 = x16 from h17)) ?_
          refine hw_aloadn (aX12_goes 28 rfl) rfl ?_
          refine hw_get (v := .int (x5)) (aX12_goes 29 rfl) wf_RX12_81 (c121 hS) (s121 hS) (by decide) (congrArg Value.int (show FIv8 121 46 = x5 from kp11)) ?_
          refine hw_icge (tgt := 67) (aX12_goes 30 rfl) (by decide) rfl rfl (fun cd28 => ?_) (fun cd28 => ?_)
          · refine hw_ic (v := (0 : Int32)) (aX12_goes 33 rfl) (by decide) ?_
            refine xw_iret (aX12_goes 34 rfl) rfl (by decide) ?_
            have e29 : ((0 : Int32)).toInt = 0 := (by decide : (0 : Int32).toInt = 0)
            exact ⟨(0 : Int32), rfl, FIv8, rfl, hI10, fr9, (by have : ((0 : Int32)).toInt = 0 := (by decide); have := congrArg Int32.toInt (show FIv8 121 46 = x5 from kp11); have := congrArg Int32.toInt (show FIv8 121 58 = x16 from h17); omega), (by have : ((0 : Int32)).toInt = 0 := (by decide); have := congrArg Int32.toInt (show FIv8 121 58 = x16 from h17); omega), (by have : ((0 : Int32)).toInt = 0 := (by decide); have := congrArg Int32.toInt (show FIv8 121 59 = x18 from h19); omega), (by have : ((0 : Int32)).toInt = 0 := (by decide); omega)⟩
          · refine hw_ic (v := (1 : Int32)) (aX12_goes 31 rfl) (by decide) ?_
            refine xw_goto (tgt := 68) (aX12_goes 32 rfl) (by decide) ?_
            refine xw_iret (aX12_goes 34 rfl) rfl (by decide) ?_
            have e30 : ((1 : Int32)).toInt = 1 := (by decide : (1 : Int32).toInt = 1)
            exact ⟨(1 : Int32), rfl, FIv8, rfl, hI10, fr9, (by have : ((1 : Int32)).toInt = 1 := (by decide); have := congrArg Int32.toInt (show FIv8 121 46 = x5 from kp11); have := congrArg Int32.toInt (show FIv8 121 58 = x16 from h17); omega), (by have : ((1 : Int32)).toInt = 1 := (by decide); have := congrArg Int32.toInt (show FIv8 121 58 = x16 from h17); omega), (by have : ((1 : Int32)).toInt = 1 := (by decide); have := congrArg Int32.toInt (show FIv8 121 59 = x18 from h19); omega), (by have : ((1 : Int32)).toInt = 1 := (by decide); omega)⟩
        · refine hw_aloadn (aX12_goes 8 rfl) rfl ?_
          refine hw_get (v := .int (x18)) (aX12_goes 9 rfl) wf_RX12_405 (c121 hS) (s121 hS) (by decide) (congrArg Value.int (show FIv8 121 59 = x18 from h19)) ?_
          refine hw_aloadn (aX12_goes 10 rfl) rfl ?_
          refine hw_get (v := .ref (base + 145)) (aX12_goes 11 rfl) wf_RX12_90 (c121 hS) (s121 hS) (by decide) (congrArg (fun r => va_rf (h_rf base r)) (r121_50 hF)) ?_
          refine hw_aloadn (aX12_goes 12 rfl) rfl ?_
          refine hw_get (v := .int (x16)) (aX12_goes 13 rfl) wf_RX12_402 (c121 hS) (s121 hS) (by decide) (congrArg Value.int (show FIv8 121 58 = x16 from h17)) ?_
          obtain ⟨x31, h32⟩ : ∃ y, FIv8 145 (x16).toNatClampNeg = y := ⟨_, rfl⟩
          have h32l := congrArg Int32.toInt h32
          have := i_rng x31
          refine hw_iald (v := x31) (aX12_goes 14 rfl) (c145 hS) (s145 hS) (h_in rfl (by omega) (by omega)) (show FIv8 145 (x16).toNatClampNeg = x31 from h32) ?_
          refine hw_iclt (tgt := 52) (aX12_goes 15 rfl) (by decide) rfl rfl (fun cd33 => ?_) (fun cd33 => ?_)
          · refine hw_aloadn (aX12_goes 26 rfl) rfl ?_
            refine hw_get (v := .int (x16)) (aX12_goes 27 rfl) wf_RX12_402 (c121 hS) (s121 hS) (by decide) (congrArg Value.int (show FIv8 121 58 = x16 from h17)) ?_
            refine hw_aloadn (aX12_goes 28 rfl) rfl ?_
            refine hw_get (v := .int (x5)) (aX12_goes 29 rfl) wf_RX12_81 (c121 hS) (s121 hS) (by decide) (congrArg Value.int (show FIv8 121 46 = x5 from kp11)) ?_
            refine hw_icge (tgt := 67) (aX12_goes 30 rfl) (by decide) rfl rfl (fun cd34 => ?_) (fun cd34 => ?_)
            · refine hw_ic (v := (0 : Int32)) (aX12_goes 33 rfl) (by decide) ?_
              refine xw_iret (aX12_goes 34 rfl) rfl (by decide) ?_
              have e35 : ((0 : Int32)).toInt = 0 := (by decide : (0 : Int32).toInt = 0)
              exact ⟨(0 : Int32), rfl, FIv8, rfl, hI10, fr9, (by have : ((0 : Int32)).toInt = 0 := (by decide); have := congrArg Int32.toInt (show FIv8 121 46 = x5 from kp11); have := congrArg Int32.toInt (show FIv8 121 58 = x16 from h17); omega), (by have : ((0 : Int32)).toInt = 0 := (by decide); have := congrArg Int32.toInt (show FIv8 121 58 = x16 from h17); omega), (by have : ((0 : Int32)).toInt = 0 := (by decide); have := congrArg Int32.toInt (show FIv8 121 59 = x18 from h19); omega), (by have : ((0 : Int32)).toInt = 0 := (by decide); omega)⟩
            · refine hw_ic (v := (1 : Int32)) (aX12_goes 31 rfl) (by decide) ?_
              refine xw_goto (tgt := 68) (aX12_goes 32 rfl) (by decide) ?_
              refine xw_iret (aX12_goes 34 rfl) rfl (by decide) ?_
              have e36 : ((1 : Int32)).toInt = 1 := (by decide : (1 : Int32).toInt = 1)
              exact ⟨(1 : Int32), rfl, FIv8, rfl, hI10, fr9, (by have : ((1 : Int32)).toInt = 1 := (by decide); have := congrArg Int32.toInt (show FIv8 121 46 = x5 from kp11); have := congrArg Int32.toInt (show FIv8 121 58 = x16 from h17); omega), (by have : ((1 : Int32)).toInt = 1 := (by decide); have := congrArg Int32.toInt (show FIv8 121 58 = x16 from h17); omega), (by have : ((1 : Int32)).toInt = 1 := (by decide); have := congrArg Int32.toInt (show FIv8 121 59 = x18 from h19); omega), (by have : ((1 : Int32)).toInt = 1 := (by decide); omega)⟩
          · refine hw_aloadn (aX12_goes 16 rfl) rfl ?_
            refine hw_aloadn (aX12_goes 17 rfl) rfl ?_
            refine hw_get (v := .int (x16)) (aX12_goes 18 rfl) wf_RX12_402 (c121 hS) (s121 hS) (by decide) (congrArg Value.int (show FIv8 121 58 = x16 from h17)) ?_
            refine hw_ic (v := (1 : Int32)) (aX12_goes 19 rfl) (by decide) ?_
            refine xw_iadd (aX12_goes 20 rfl) ?_
            refine hw_tie (A := ((x16).toInt) + (1)) (i_add rfl (by decide : (1 : Int32).toInt = 1) (by omega) (by omega)) (fun x37 e38 => ?_)
            refine hv_puti (aX12_goes 21 rfl) wf_RX12_402 (c121 hS) (s121 hS) (by decide) rfl rfl (fun FI39 u40 => ?_)
            have hI41 : g_I FI39 := gU_F hI10 u40 rfl
            refine hw_aloadn (aX12_goes 22 rfl) rfl ?_
            refine hw_ic (v := (0 : Int32)) (aX12_goes 23 rfl) (by decide) ?_
            refine hv_puti (aX12_goes 24 rfl) wf_RX12_405 (c121 hS) (s121 hS) (by decide) rfl rfl (fun FI42 u43 => ?_)
            have hI44 : g_I FI42 := gU_F hI41 u43 rfl
            refine xw_goto (tgt := 0) (aX12_goes 25 rfl) (by decide) ?_
            exact hw_L (ih FI42 (gf_f (gf_f fr9 u40 (by decide)) u43 (by decide)) hI44 (show FI42 121 46 = x5 from (up_k u43 (by decide) ((up_k u40 (by decide) (kp11))))) (by have := congrArg Int32.toInt (show FI42 121 58 = x37 from (up_k u43 (by decide) (up_eq u40))); have := (e38 : (x37).toInt = ((x16).toInt) + (1)); omega) (by have := congrArg Int32.toInt (show FI42 121 59 = (0 : Int32) from up_eq u43); have := ((by decide : (0 : Int32).toInt = 0) : ((0 : Int32)).toInt = 0); omega) (by have := congrArg Int32.toInt (show FI42 121 59 = (0 : Int32) from up_eq u43); have := ((by decide : (0 : Int32).toInt = 0) : ((0 : Int32)).toInt = 0); omega) (by have := congrArg Int32.toInt (show FI42 121 58 = x37 from (up_k u43 (by decide) (up_eq u40))); have := (e38 : (x37).toInt = ((x16).toInt) + (1)); omega)) ⟨rfl, trivial⟩
  exact hw_L (lp15 ((16 - (x1).toInt : Int).toNat + 1) FI gf_rf hI (show FI 121 46 = x5 from h6) (by have := congrArg Int32.toInt (show FI 121 58 = x1 from h2); omega) (by have := congrArg Int32.toInt (show FI 121 59 = x3 from h4); omega) (by have := congrArg Int32.toInt (show FI 121 59 = x3 from h4); omega) (by have := congrArg Int32.toInt (show FI 121 58 = x1 from h2); omega)) ⟨rfl, trivial⟩
def nX12_bit : Nat := 0xac02ac7e047a88713b0114202e60886d3b011420681b5802116000b42a1e009c942f1b5700b42a6d3b0114202d00a0070415ac887f0a7b8820051605372f1b5700b42a0900a72f882f1b5700b42a0700b42a1200a0050415ac0205009e94fa0014203300a006041509009f050415ac7e047a88713b0114202e8805160d00b42aac0205009e9498011405160c009b940905160537616d3b0114202f1b5700b42a3500a004041504362e1b5400b42a
theorem bX12_bit : cX12_bit.data.toList.map UInt8.toNat = x_un nX12_bit 174 := by decide +kernel
def iX12_bit : List (Nat × Jvm.ClassFile.Instr × Nat) := [(0, .aload_n 0, 1), (1, .getfield 84, 3), (4, .iload_n 1, 1), (5, .iaload, 1), (6, .istore 4, 2), (8, .iload 4, 2), (10, .iconst 1, 1), (11, .if_icmp .ne 53, 3), (14, .aload_n 0, 1), (15, .getfield 87, 3), (18, .iload_n 1, 1), (19, .laload, 1), (20, .lload_n 2, 1), (21, .ldc2_w 315, 3), (24, .ldiv, 1), (25, .ladd, 1), (26, .lstore 5, 2), (28, .lload 5, 2), (30, .lconst 0, 1), (31, .lcmp, 1), (32, .ifCond .lt 12, 3), (35, .lload 5, 2), (37, .ldc2_w 408, 3), (40, .lcmp, 1), (41, .ifCond .le 5, 3), (44, .iconst (-1), 1), (45, .ireturn, 1), (46, .aload_n 0, 1), (47, .getfield 13, 3), (50, .lload 5, 2), (52, .l2i, 1), (53, .iaload, 1), (54, .lload_n 2, 1), (55, .ldc2_w 315, 3), (58, .lrem, 1), (59, .l2i, 1), (60, .ishr, 1), (61, .iconst 1, 1), (62, .iand, 1), (63, .ireturn, 1), (64, .iload 4, 2), (66, .iconst 2, 1), (67, .if_icmp .eq 9, 3), (70, .iload 4, 2), (72, .iconst 3, 1), (73, .if_icmp .ne 51, 3), (76, .lload_n 2, 1), (77, .ldc2_w 250, 3), (80, .lcmp, 1), (81, .ifCond .le 5, 3), (84, .iconst (-1), 1), (85, .ireturn, 1), (86, .iload 4, 2), (88, .iconst 2, 1), (89, .if_icmp .ne 18, 3), (92, .aload_n 0, 1), (93, .getfield 7, 3), (96, .aload_n 0, 1), (97, .getfield 87, 3), (100, .iload_n 1, 1), (101, .laload, 1), (102, .l2i, 1), (103, .laload, 1), (104, .goto 9, 3), (107, .aload_n 0, 1), (108, .getfield 87, 3), (111, .iload_n 1, 1), (112, .laload, 1), (113, .lstore 5, 2), (115, .lload 5, 2), (117, .lload_n 2, 1), (118, .l2i, 1), (119, .lshr, 1), (120, .lconst 1, 1), (121, .land, 1), (122, .l2i, 1), (123, .ireturn, 1), (124, .iload 4, 2), (126, .iconst 4, 1), (127, .if_icmp .ne 45, 3), (130, .lload_n 2, 1), (131, .ldc2_w 315, 3), (134, .ldiv, 1), (135, .aload_n 0, 1), (136, .getfield 87, 3), (139, .iload_n 1, 1), (140, .laload, 1), (141, .lcmp, 1), (142, .ifCond .ge 30, 3), (145, .aload_n 0, 1), (146, .getfield 96, 3), (149, .sipush 600, 3), (152, .iload_n 1, 1), (153, .imul, 1), (154, .lload_n 2, 1), (155, .ldc2_w 315, 3), (158, .ldiv, 1), (159, .l2i, 1), (160, .iadd, 1), (161, .iaload, 1), (162, .lload_n 2, 1), (163, .ldc2_w 315, 3), (166, .lrem, 1), (167, .l2i, 1), (168, .ishr, 1), (169, .iconst 1, 1), (170, .iand, 1), (171, .ireturn, 1), (172, .iconst (-1), 1), (173, .ireturn, 1)]
theorem dX12_bit : x_il nX12_bit 174 iX12_bit = true := by decide +kernel
theorem aX12_bit (k : Nat) {pc : Nat} {i : Jvm.ClassFile.Instr} {len : Nat} (hk : iX12_bit[k]? = some (pc, i, len)) : x_at xMM 201 pc i len yX12_bit 7 (some .int) := ⟨cX12_bit, rfl, x_il_ok bX12_bit dX12_bit k hk⟩
set_option maxHeartbeats 4000000 in
set_option maxRecDepth 100000 in
theorem n_bit {sk : xK} {base d n sl : Nat} {SH : Nat → Nat × Nat} {FI : Nat → Nat → Int32} {FL : Nat → Nat → Int64} {FR : Nat → Nat → Option Nat} (hS : h_S n SH) (hF : h_FR FR) (hI : g_I FI) (a1 : Int32) (a2 : Int64) (g0 : 0 ≤ (a1).toInt ∧ (a1).toInt ≤ 15) (g1 : 0 ≤ (a2).toInt ∧ (a2).toInt ≤ 10000) (rel_part : rl_p (FI 143) (FL 144)) : hw sk base d none 201 0 [(0, .ref (base + 121)), (1, .int (a1)), (2, .long (a2))] [] (n, sl, SH, FI, FL, FR) (h_I (fun r s => s = (n, sl, SH, FI, FL, FR))) := by
  have rg_a1 := i_rng a1
  have rg_a2 := l_rng a2
  refine hw_aloadn (aX12_bit 0 rfl) rfl ?_
  refine hw_get (v := .ref (base + 143)) (aX12_bit 1 rfl) wf_RX12_84 (c121 hS) (s121 hS) (by decide) (congrArg (fun r => va_rf (h_rf base r)) (r121_48 hF)) ?_
  refine xw_iloadn (aX12_bit 2 rfl) rfl ?_
  obtain ⟨x1, h2⟩ : ∃ y, FI 143 (a1).toNatClampNeg = y := ⟨_, rfl⟩
  have h2l := congrArg Int32.toInt h2
  have := i_rng x1
  refine hw_iald (v := x1) (aX12_bit 3 rfl) (c143 hS) (s143 hS) (h_in rfl (by omega) (by omega)) (show FI 143 (a1).toNatClampNeg = x1 from h2) ?_
  refine xw_istore (L2 := [(4, .int (x1)), (0, .ref (base + 121)), (1, .int (a1)), (2, .long (a2))]) (aX12_bit 4 rfl) (by decide) rfl ?_
  refine xw_iload (aX12_bit 5 rfl) rfl ?_
  refine hw_ic (v := (1 : Int32)) (aX12_bit 6 rfl) (by decide) ?_
  refine hw_icne (tgt := 64) (aX12_bit 7 rfl) (by decide) rfl (by decide : (1 : Int32).toInt = 1) (fun cd3 => ?_) (fun cd3 => ?_)
  · refine xw_iload (aX12_bit 40 rfl) rfl ?_
    refine hw_ic (v := (2 : Int32)) (aX12_bit 41 rfl) (by decide) ?_
    refine hw_iceq (tgt := 76) (aX12_bit 42 rfl) (by decide) rfl (by decide : (2 : Int32).toInt = 2) (fun cd4 => ?_) (fun cd4 => ?_)
    · refine xw_lloadn (aX12_bit 46 rfl) rfl ?_
      refine xw_ldc2 (aX12_bit 47 rfl) wk_RX12_250 ?_
      refine hw_lcle (tgt := 86) (aX12_bit 48 rfl) (aX12_bit 49 rfl) (by decide) rfl (by decide : (63 : Int64).toInt = 63) (fun cd5 => ?_) (fun cd5 => ?_)
      · refine xw_iload (aX12_bit 52 rfl) rfl ?_
        refine hw_ic (v := (2 : Int32)) (aX12_bit 53 rfl) (by decide) ?_
        refine hw_icne (tgt := 107) (aX12_bit 54 rfl) (by decide) rfl (by decide : (2 : Int32).toInt = 2) (fun cd6 => ?_) (fun cd6 => ?_)
        · omega
        · refine hw_aloadn (aX12_bit 55 rfl) rfl ?_
          refine hw_get (v := .ref (base + 122)) (aX12_bit 56 rfl) wf_RX12_7 (c121 hS) (s121 hS) (by decide) (congrArg (fun r => va_rf (h_rf base r)) (r121_1 hF)) ?_
          refine hw_aloadn (aX12_bit 57 rfl) rfl ?_
          refine hw_get (v := .ref (base + 144)) (aX12_bit 58 rfl) wf_RX12_87 (c121 hS) (s121 hS) (by decide) (congrArg (fun r => va_rf (h_rf base r)) (r121_49 hF)) ?_
          refine xw_iloadn (aX12_bit 59 rfl) rfl ?_
          obtain ⟨x7, h8⟩ : ∃ y, FL 144 (a1).toNatClampNeg = y := ⟨_, rfl⟩
          have h8l := congrArg Int64.toInt h8
          have := l_rng x7
          refine hw_lald (v := x7) (aX12_bit 60 rfl) (c144 hS) (s144 hS) (h_in rfl (by omega) (by omega)) (show FL 144 (a1).toNatClampNeg = x7 from h8) ?_
          have hq := rel_part (a1).toNatClampNeg (i_lt (rfl : (a1).toInt = _) (by omega) (by omega))
          have e9 : 0 ≤ (x7).toInt ∧ (x7).toInt ≤ 31 := by omega
          refine xw_l2i (aX12_bit 61 rfl) ?_
          refine hw_tie (A := (x7).toInt) (l_2i rfl (by omega) (by omega)) (fun x10 e11 => ?_)
          obtain ⟨x12, h13⟩ : ∃ y, FL 122 (x10).toNatClampNeg = y := ⟨_, rfl⟩
          have h13l := congrArg Int64.toInt h13
          have := l_rng x12
          refine hw_lald (v := x12) (aX12_bit 62 rfl) (c122 hS) (s122 hS) (h_in e11 (by omega) (by omega)) (show FL 122 (x10).toNatClampNeg = x12 from h13) ?_
          refine xw_goto (tgt := 113) (aX12_bit 63 rfl) (by decide) ?_
          refine xw_lstore (L2 := [(5, .long (x12)), (4, .int (x1)), (0, .ref (base + 121)), (1, .int (a1)), (2, .long (a2))]) (aX12_bit 68 rfl) (by decide) rfl ?_
          refine xw_lload (aX12_bit 69 rfl) rfl ?_
          refine xw_lloadn (aX12_bit 70 rfl) rfl ?_
          refine xw_l2i (aX12_bit 71 rfl) ?_
          refine hw_tie (A := (a2).toInt) (l_2i rfl (by omega) (by omega)) (fun x14 e15 => ?_)
          refine xw_lshr (aX12_bit 72 rfl) ?_
          refine hw_tl (fun x16 => ?_)
          have b17 := l_rng x16
          refine hw_lc (v := (1 : Int64)) (aX12_bit 73 rfl) (by decide) ?_
          refine xw_land (aX12_bit 74 rfl) ?_
          refine hw_tlb (lo := 0) (hi := 1) (l_and (x := x16) (m := (1 : Int64)) (M := 1) (by decide) (by decide)) (fun x18 b19 => ?_)
          refine xw_l2i (aX12_bit 75 rfl) ?_
          refine hw_tie (A := (x18).toInt) (l_2i rfl (by omega) (by omega)) (fun x20 e21 => ?_)
          refine xw_iret (aX12_bit 76 rfl) rfl rfl ?_
          have e22 : (x20).toInt = (x18).toInt := e21
          exact ⟨x20, rfl, rfl⟩
      · refine hw_ic (v := ((-1) : Int32)) (aX12_bit 50 rfl) (by decide) ?_
        refine xw_iret (aX12_bit 51 rfl) rfl rfl ?_
        have e23 : (((-1) : Int32)).toInt = (-1) := (by decide : ((-1) : Int32).toInt = (-1))
        exact ⟨((-1) : Int32), rfl, rfl⟩
    · refine xw_iload (aX12_bit 43 rfl) rfl ?_
      refine hw_ic (v := (3 : Int32)) (aX12_bit 44 rfl) (by decide) ?_
      refine hw_icne (tgt := 124) (aX12_bit 45 rfl) (by decide) rfl (by decide : (3 : Int32).toInt = 3) (fun cd24 => ?_) (fun cd24 => ?_)
      · refine xw_iload (aX12_bit 77 rfl) rfl ?_
        refine hw_ic (v := (4 : Int32)) (aX12_bit 78 rfl) (by decide) ?_
        refine hw_icne (tgt := 172) (aX12_bit 79 rfl) (by decide) rfl (by decide : (4 : Int32).toInt = 4) (fun cd25 => ?_) (fun cd25 => ?_)
        · refine hw_ic (v := ((-1) : Int32)) (aX12_bit 108 rfl) (by decide) ?_
          refine xw_iret (aX12_bit 109 rfl) rfl rfl ?_
          have e26 : (((-1) : Int32)).toInt = (-1) := (by decide : ((-1) : Int32).toInt = (-1))
          exact ⟨((-1) : Int32), rfl, rfl⟩
        · refine xw_lloadn (aX12_bit 80 rfl) rfl ?_
          refine xw_ldc2 (aX12_bit 81 rfl) wk_RX12_315 ?_
          refine xw_ldiv (aX12_bit 82 rfl) (l_ne0 (by decide : (8 : Int64).toInt = 8) (by omega)) ?_
          refine hw_tle (A := ((a2).toInt) / (8)) (l_div rfl (by decide : (8 : Int64).toInt = 8) (by omega) (by omega)) (fun x27 e28 => ?_)
          refine hw_aloadn (aX12_bit 83 rfl) rfl ?_
          refine hw_get (v := .ref (base + 144)) (aX12_bit 84 rfl) wf_RX12_87 (c121 hS) (s121 hS) (by decide) (congrArg (fun r => va_rf (h_rf base r)) (r121_49 hF)) ?_
          refine xw_iloadn (aX12_bit 85 rfl) rfl ?_
          obtain ⟨x29, h30⟩ : ∃ y, FL 144 (a1).toNatClampNeg = y := ⟨_, rfl⟩
          have h30l := congrArg Int64.toInt h30
          have := l_rng x29
          refine hw_lald (v := x29) (aX12_bit 86 rfl) (c144 hS) (s144 hS) (h_in rfl (by omega) (by omega)) (show FL 144 (a1).toNatClampNeg = x29 from h30) ?_
          refine hw_lcge (tgt := 172) (aX12_bit 87 rfl) (aX12_bit 88 rfl) (by decide) e28 rfl (fun cd31 => ?_) (fun cd31 => ?_)
          · refine hw_ic (v := ((-1) : Int32)) (aX12_bit 108 rfl) (by decide) ?_
            refine xw_iret (aX12_bit 109 rfl) rfl rfl ?_
            have e32 : (((-1) : Int32)).toInt = (-1) := (by decide : ((-1) : Int32).toInt = (-1))
            exact ⟨((-1) : Int32), rfl, rfl⟩
          · have hq := rel_part (a1).toNatClampNeg (i_lt (rfl : (a1).toInt = _) (by omega) (by omega))
            refine hw_aloadn (aX12_bit 89 rfl) rfl ?_
            refine hw_get (v := .ref (base + 147)) (aX12_bit 90 rfl) wf_RX12_96 (c121 hS) (s121 hS) (by decide) (congrArg (fun r => va_rf (h_rf base r)) (r121_52 hF)) ?_
            refine hw_sp (v := (600 : Int32)) (aX12_bit 91 rfl) (by decide) ?_
            refine xw_iloadn (aX12_bit 92 rfl) rfl ?_
            refine xw_imul (aX12_bit 93 rfl) ?_
            refine hw_tie (A := (600) * ((a1).toInt)) (i_mul (by decide : (600 : Int32).toInt = 600) rfl (by omega) (by omega)) (fun x33 e34 => ?_)
            refine xw_lloadn (aX12_bit 94 rfl) rfl ?_
            refine xw_ldc2 (aX12_bit 95 rfl) wk_RX12_315 ?_
            refine xw_ldiv (aX12_bit 96 rfl) (l_ne0 (by decide : (8 : Int64).toInt = 8) (by omega)) ?_
            refine hw_tle (A := ((a2).toInt) / (8)) (l_div rfl (by decide : (8 : Int64).toInt = 8) (by omega) (by omega)) (fun x35 e36 => ?_)
            refine xw_l2i (aX12_bit 97 rfl) ?_
            refine hw_tie (A := ((a2).toInt) / (8)) (l_2i e36 (by omega) (by omega)) (fun x37 e38 => ?_)
            refine xw_iadd (aX12_bit 98 rfl) ?_
            refine hw_tie (A := ((600) * ((a1).toInt)) + (((a2).toInt) / (8))) (i_add e34 e38 (by omega) (by omega)) (fun x39 e40 => ?_)
            obtain ⟨x41, h42⟩ : ∃ y, FI 147 (x39).toNatClampNeg = y := ⟨_, rfl⟩
            have h42l := congrArg Int32.toInt h42
            have := i_rng x41
            refine hw_iald (v := x41) (aX12_bit 99 rfl) (c147 hS) (s147 hS) (h_in e40 (by omega) (by omega)) (show FI 147 (x39).toNatClampNeg = x41 from h42) ?_
            refine xw_lloadn (aX12_bit 100 rfl) rfl ?_
            refine xw_ldc2 (aX12_bit 101 rfl) wk_RX12_315 ?_
            refine xw_lrem (aX12_bit 102 rfl) (l_ne0 (by decide : (8 : Int64).toInt = 8) (by omega)) ?_
            refine hw_tle (A := ((a2).toInt) % (8)) (l_rem rfl (by decide : (8 : Int64).toInt = 8) (by omega) (by omega)) (fun x43 e44 => ?_)
            refine xw_l2i (aX12_bit 103 rfl) ?_
            refine hw_tie (A := ((a2).toInt) % (8)) (l_2i e44 (by omega) (by omega)) (fun x45 e46 => ?_)
            refine xw_ishr (aX12_bit 104 rfl) ?_
            refine hw_ti (fun x47 => ?_)
            have b48 := i_rng x47
            refine hw_ic (v := (1 : Int32)) (aX12_bit 105 rfl) (by decide) ?_
            refine xw_iand (aX12_bit 106 rfl) ?_
            refine hw_tib (lo := 0) (hi := 1) (i_and (x := x47) (m := (1 : Int32)) (M := 1) (by decide) (by decide)) (fun x49 b50 => ?_)
            refine xw_iret (aX12_bit 107 rfl) rfl rfl ?_
            exact ⟨x49, rfl, rfl⟩
      · refine xw_lloadn (aX12_bit 46 rfl) rfl ?_
        refine xw_ldc2 (aX12_bit 47 rfl) wk_RX12_250 ?_
        refine hw_lcle (tgt := 86) (aX12_bit 48 rfl) (aX12_bit 49 rfl) (by decide) rfl (by decide : (63 : Int64).toInt = 63) (fun cd51 => ?_) (fun cd51 => ?_)
        · refine xw_iload (aX12_bit 52 rfl) rfl ?_
          refine hw_ic (v := (2 : Int32)) (aX12_bit 53 rfl) (by decide) ?_
          refine hw_icne (tgt := 107) (aX12_bit 54 rfl) (by decide) rfl (by decide : (2 : Int32).toInt = 2) (fun cd52 => ?_) (fun cd52 => ?_)
          · refine hw_aloadn (aX12_bit 64 rfl) rfl ?_
            refine hw_get (v := .ref (base + 144)) (aX12_bit 65 rfl) wf_RX12_87 (c121 hS) (s121 hS) (by decide) (congrArg (fun r => va_rf (h_rf base r)) (r121_49 hF)) ?_
            refine xw_iloadn (aX12_bit 66 rfl) rfl ?_
            obtain ⟨x53, h54⟩ : ∃ y, FL 144 (a1).toNatClampNeg = y := ⟨_, rfl⟩
            have h54l := congrArg Int64.toInt h54
            have := l_rng x53
            refine hw_lald (v := x53) (aX12_bit 67 rfl) (c144 hS) (s144 hS) (h_in rfl (by omega) (by omega)) (show FL 144 (a1).toNatClampNeg = x53 from h54) ?_
            refine xw_lstore (L2 := [(5, .long (x53)), (4, .int (x1)), (0, .ref (base + 121)), (1, .int (a1)), (2, .long (a2))]) (aX12_bit 68 rfl) (by decide) rfl ?_
            refine xw_lload (aX12_bit 69 rfl) rfl ?_
            refine xw_lloadn (aX12_bit 70 rfl) rfl ?_
            refine xw_l2i (aX12_bit 71 rfl) ?_
            refine hw_tie (A := (a2).toInt) (l_2i rfl (by omega) (by omega)) (fun x55 e56 => ?_)
            refine xw_lshr (aX12_bit 72 rfl) ?_
            refine hw_tl (fun x57 => ?_)
            have b58 := l_rng x57
            refine hw_lc (v := (1 : Int64)) (aX12_bit 73 rfl) (by decide) ?_
            refine xw_land (aX12_bit 74 rfl) ?_
            refine hw_tlb (lo := 0) (hi := 1) (l_and (x := x57) (m := (1 : Int64)) (M := 1) (by decide) (by decide)) (fun x59 b60 => ?_)
            refine xw_l2i (aX12_bit 75 rfl) ?_
            refine hw_tie (A := (x59).toInt) (l_2i rfl (by omega) (by omega)) (fun x61 e62 => ?_)
            refine xw_iret (aX12_bit 76 rfl) rfl rfl ?_
            have e63 : (x61).toInt = (x59).toInt := e62
            exact ⟨x61, rfl, rfl⟩
          · omega
        · refine hw_ic (v := ((-1) : Int32)) (aX12_bit 50 rfl) (by decide) ?_
          refine xw_iret (aX12_bit 51 rfl) rfl rfl ?_
          have e64 : (((-1) : Int32)).toInt = (-1) := (by decide : ((-1) : Int32).toInt = (-1))
          exact ⟨((-1) : Int32), rfl, rfl⟩
  · refine hw_aloadn (aX12_bit 8 rfl) rfl ?_
    refine hw_get (v := .ref (base + 144)) (aX12_bit 9 rfl) wf_RX12_87 (c121 hS) (s121 hS) (by decide) (congrArg (fun r => va_rf (h_rf base r)) (r121_49 hF)) ?_
    refine xw_iloadn (aX12_bit 10 rfl) rfl ?_
    obtain ⟨x65, h66⟩ : ∃ y, FL 144 (a1).toNatClampNeg = y := ⟨_, rfl⟩
    have h66l := congrArg Int64.toInt h66
    have := l_rng x65
    refine hw_lald (v := x65) (aX12_bit 11 rfl) (c144 hS) (s144 hS) (h_in rfl (by omega) (by omega)) (show FL 144 (a1).toNatClampNeg = x65 from h66) ?_
    refine xw_lloadn (aX12_bit 12 rfl) rfl ?_
    refine xw_ldc2 (aX12_bit 13 rfl) wk_RX12_315 ?_
    refine xw_ldiv (aX12_bit 14 rfl) (l_ne0 (by decide : (8 : Int64).toInt = 8) (by omega)) ?_
    refine hw_tle (A := ((a2).toInt) / (8)) (l_div rfl (by decide : (8 : Int64).toInt = 8) (by omega) (by omega)) (fun x67 e68 => ?_)
    refine xw_ladd (aX12_bit 15 rfl) ?_
    refine hw_tl (fun x69 => ?_)
    have b70 := l_rng x69
    refine xw_lstore (L2 := [(5, .long (x69)), (4, .int (x1)), (0, .ref (base + 121)), (1, .int (a1)), (2, .long (a2))]) (aX12_bit 16 rfl) (by decide) rfl ?_
    refine xw_lload (aX12_bit 17 rfl) rfl ?_
    refine hw_lc (v := (0 : Int64)) (aX12_bit 18 rfl) (by decide) ?_
    refine hw_lclt (tgt := 44) (aX12_bit 19 rfl) (aX12_bit 20 rfl) (by decide) rfl (by decide : (0 : Int64).toInt = 0) (fun cd71 => ?_) (fun cd71 => ?_)
    · refine hw_ic (v := ((-1) : Int32)) (aX12_bit 25 rfl) (by decide) ?_
      refine xw_iret (aX12_bit 26 rfl) rfl rfl ?_
      have e72 : (((-1) : Int32)).toInt = (-1) := (by decide : ((-1) : Int32).toInt = (-1))
      exact ⟨((-1) : Int32), rfl, rfl⟩
    · refine xw_lload (aX12_bit 21 rfl) rfl ?_
      refine xw_ldc2 (aX12_bit 22 rfl) wk_RX12_408 ?_
      refine hw_lcle (tgt := 46) (aX12_bit 23 rfl) (aX12_bit 24 rfl) (by decide) rfl (by decide : (4095 : Int64).toInt = 4095) (fun cd73 => ?_) (fun cd73 => ?_)
      · refine hw_aloadn (aX12_bit 27 rfl) rfl ?_
        refine hw_get (v := .ref (base + 123)) (aX12_bit 28 rfl) wf_RX12_13 (c121 hS) (s121 hS) (by decide) (congrArg (fun r => va_rf (h_rf base r)) (r121_2 hF)) ?_
        refine xw_lload (aX12_bit 29 rfl) rfl ?_
        refine xw_l2i (aX12_bit 30 rfl) ?_
        refine hw_tie (A := (x69).toInt) (l_2i rfl (by omega) (by omega)) (fun x74 e75 => ?_)
        obtain ⟨x76, h77⟩ : ∃ y, FI 123 (x74).toNatClampNeg = y := ⟨_, rfl⟩
        have h77l := congrArg Int32.toInt h77
        have := i_rng x76
        refine hw_iald (v := x76) (aX12_bit 31 rfl) (c123 hS) (s123 hS) (h_in e75 (by omega) (by omega)) (show FI 123 (x74).toNatClampNeg = x76 from h77) ?_
        refine xw_lloadn (aX12_bit 32 rfl) rfl ?_
        refine xw_ldc2 (aX12_bit 33 rfl) wk_RX12_315 ?_
        refine xw_lrem (aX12_bit 34 rfl) (l_ne0 (by decide : (8 : Int64).toInt = 8) (by omega)) ?_
        refine hw_tle (A := ((a2).toInt) % (8)) (l_rem rfl (by decide : (8 : Int64).toInt = 8) (by omega) (by omega)) (fun x78 e79 => ?_)
        refine xw_l2i (aX12_bit 35 rfl) ?_
        refine hw_tie (A := ((a2).toInt) % (8)) (l_2i e79 (by omega) (by omega)) (fun x80 e81 => ?_)
        refine xw_ishr (aX12_bit 36 rfl) ?_
        refine hw_ti (fun x82 => ?_)
        have b83 := i_rng x82
        refine hw_ic (v := (1 : Int32)) (aX12_bit 37 rfl) (by decide) ?_
        refine xw_iand (aX12_bit 38 rfl) ?_
        refine hw_tib (lo := 0) (hi := 1) (i_and (x := x82) (m := (1 : Int32)) (M := 1) (by decide) (by decide)) (fun x84 b85 => ?_)
        refine xw_iret (aX12_bit 39 rfl) rfl rfl ?_
        exact ⟨x84, rfl, rfl⟩
      · refine hw_ic (v := ((-1) : Int32)) (aX12_bit 25 rfl) (by decide) ?_
        refine xw_iret (aX12_bit 26 rfl) rfl rfl ?_
        have e86 : (((-1) : Int32)).toInt = (-1) := (by decide : ((-1) : Int32).toInt = (-1))
        exact ⟨((-1) : Int32), rfl, rfl⟩
def nX12_puts_ : Nat := 0xac0450817988208504157f83e200147988200a2f06150700b42a06150700b42a0636882f1b5700b42aac0305009e94fa0014200b00a0050515ac044f8078081504157e8202780815042e8806160d00b42a8806160d00b42a083688713b011420ac0305009e9498011406160c009b940906160637616d3b0114202f1b5700b42a4a00a004051505362e1b5400b42a
theorem bX12_puts_ : cX12_puts_.data.toList.map UInt8.toNat = x_un nX12_puts_ 142 := by decide +kernel
def iX12_puts_ : List (Nat × Jvm.ClassFile.Instr × Nat) := [(0, .aload_n 0, 1), (1, .getfield 84, 3), (4, .iload_n 1, 1), (5, .iaload, 1), (6, .istore 5, 2), (8, .iload 5, 2), (10, .iconst 1, 1), (11, .if_icmp .ne 74, 3), (14, .aload_n 0, 1), (15, .getfield 87, 3), (18, .iload_n 1, 1), (19, .laload, 1), (20, .lload_n 2, 1), (21, .ldc2_w 315, 3), (24, .ldiv, 1), (25, .ladd, 1), (26, .lstore 6, 2), (28, .lload 6, 2), (30, .lconst 0, 1), (31, .lcmp, 1), (32, .ifCond .lt 12, 3), (35, .lload 6, 2), (37, .ldc2_w 408, 3), (40, .lcmp, 1), (41, .ifCond .le 5, 3), (44, .iconst 0, 1), (45, .ireturn, 1), (46, .lload_n 2, 1), (47, .ldc2_w 315, 3), (50, .lrem, 1), (51, .l2i, 1), (52, .istore 8, 2), (54, .aload_n 0, 1), (55, .getfield 13, 3), (58, .lload 6, 2), (60, .l2i, 1), (61, .aload_n 0, 1), (62, .getfield 13, 3), (65, .lload 6, 2), (67, .l2i, 1), (68, .iaload, 1), (69, .iconst 1, 1), (70, .iload 8, 2), (72, .ishl, 1), (73, .iconst (-1), 1), (74, .ixor, 1), (75, .iand, 1), (76, .iload 4, 2), (78, .iload 8, 2), (80, .ishl, 1), (81, .ior, 1), (82, .iastore, 1), (83, .iconst 1, 1), (84, .ireturn, 1), (85, .iload 5, 2), (87, .iconst 2, 1), (88, .if_icmp .ne 11, 3), (91, .lload_n 2, 1), (92, .ldc2_w 250, 3), (95, .lcmp, 1), (96, .ifCond .le 5, 3), (99, .iconst 0, 1), (100, .ireturn, 1), (101, .aload_n 0, 1), (102, .getfield 87, 3), (105, .iload_n 1, 1), (106, .laload, 1), (107, .l2i, 1), (108, .istore 6, 2), (110, .aload_n 0, 1), (111, .getfield 7, 3), (114, .iload 6, 2), (116, .aload_n 0, 1), (117, .getfield 7, 3), (120, .iload 6, 2), (122, .laload, 1), (123, .lconst 1, 1), (124, .lload_n 2, 1), (125, .l2i, 1), (126, .lshl, 1), (127, .ldc2_w 226, 3), (130, .lxor, 1), (131, .land, 1), (132, .iload 4, 2), (134, .i2l, 1), (135, .lload_n 2, 1), (136, .l2i, 1), (137, .lshl, 1), (138, .lor, 1), (139, .lastore, 1), (140, .iconst 1, 1), (141, .ireturn, 1)]
theorem dX12_puts_ : x_il nX12_puts_ 142 iX12_puts_ = true := by decide +kernel
theorem aX12_puts_ (k : Nat) {pc : Nat} {i : Jvm.ClassFile.Instr} {len : Nat} (hk : iX12_puts_[k]? = some (pc, i, len)) : x_at xMM 202 pc i len yX12_puts_ 9 (some .boolean) := ⟨cX12_puts_, rfl, x_il_ok bX12_puts_ dX12_puts_ k hk⟩
set_option maxHeartbeats 4000000 in
set_option maxRecDepth 100000 in
theorem n_puts_ {sk : xK} {base d n sl : Nat} {SH : Nat → Nat × Nat} {FI : Nat → Nat → Int32} {FL : Nat → Nat → Int64} {FR : Nat → Nat → Option Nat} (hS : h_S n SH) (hF : h_FR FR) (hI : g_I FI) (a1 : Int32) (a2 : Int64) (a3 : Int32) (g0 : 0 ≤ (a1).toInt ∧ (a1).toInt ≤ 15) (g1 : 0 ≤ (a2).toInt ∧ (a2).toInt ≤ 10000) (rel_part : rl_p (FI 143) (FL 144)) : hw sk base d none 202 0 [(0, .ref (base + 121)), (1, .int (a1)), (2, .long (a2)), (4, .int (a3))] [] (n, sl, SH, FI, FL, FR) (h_I (fun r s => ∃ FI' FL', s = (n, sl, SH, FI', FL', FR) ∧ g_I FI' ∧ g_fr n SH [] [123] [] FI FI' ∧ g_fr n SH [] [122] [] FL FL' ∧ (0 ≤ r.toInt ∧ r.toInt ≤ 1))) := by
  have rg_a1 := i_rng a1
  have rg_a2 := l_rng a2
  have rg_a3 := i_rng a3
  refine hw_aloadn (aX12_puts_ 0 rfl) rfl ?_
  refine hw_get (v := .ref (base + 143)) (aX12_puts_ 1 rfl) wf_RX12_84 (c121 hS) (s121 hS) (by decide) (congrArg (fun r => va_rf (h_rf base r)) (r121_48 hF)) ?_
  refine xw_iloadn (aX12_puts_ 2 rfl) rfl ?_
  obtain ⟨x1, h2⟩ : ∃ y, FI 143 (a1).toNatClampNeg = y := ⟨_, rfl⟩
  have h2l := congrArg Int32.toInt h2
  have := i_rng x1
  refine hw_iald (v := x1) (aX12_puts_ 3 rfl) (c143 hS) (s143 hS) (h_in rfl (by omega) (by omega)) (show FI 143 (a1).toNatClampNeg = x1 from h2) ?_
  refine xw_istore (L2 := [(5, .int (x1)), (0, .ref (base + 121)), (1, .int (a1)), (2, .long (a2)), (4, .int (a3))]) (aX12_puts_ 4 rfl) (by decide) rfl ?_
  refine xw_iload (aX12_puts_ 5 rfl) rfl ?_
  refine hw_ic (v := (1 : Int32)) (aX12_puts_ 6 rfl) (by decide) ?_
  refine hw_icne (tgt := 85) (aX12_puts_ 7 rfl) (by decide) rfl (by decide : (1 : Int32).toInt = 1) (fun cd3 => ?_) (fun cd3 => ?_)
  · refine xw_iload (aX12_puts_ 54 rfl) rfl ?_
    refine hw_ic (v := (2 : Int32)) (aX12_puts_ 55 rfl) (by decide) ?_
    refine hw_icne (tgt := 99) (aX12_puts_ 56 rfl) (by decide) rfl (by decide : (2 : Int32).toInt = 2) (fun cd4 => ?_) (fun cd4 => ?_)
    · refine hw_ic (v := (0 : Int32)) (aX12_puts_ 61 rfl) (by decide) ?_
      refine xw_iret (aX12_puts_ 62 rfl) rfl (by decide) ?_
      have e5 : ((0 : Int32)).toInt = 0 := (by decide : (0 : Int32).toInt = 0)
      exact ⟨(0 : Int32), rfl, FI, FL, rfl, hI, gf_rf, gf_rf, (by have : ((0 : Int32)).toInt = 0 := (by decide); omega)⟩
    · refine xw_lloadn (aX12_puts_ 57 rfl) rfl ?_
      refine xw_ldc2 (aX12_puts_ 58 rfl) wk_RX12_250 ?_
      refine hw_lcle (tgt := 101) (aX12_puts_ 59 rfl) (aX12_puts_ 60 rfl) (by decide) rfl (by decide : (63 : Int64).toInt = 63) (fun cd6 => ?_) (fun cd6 => ?_)
      · refine hw_aloadn (aX12_puts_ 63 rfl) rfl ?_
        refine hw_get (v := .ref (base + 144)) (aX12_puts_ 64 rfl) wf_RX12_87 (c121 hS) (s121 hS) (by decide) (congrArg (fun r => va_rf (h_rf base r)) (r121_49 hF)) ?_
        refine xw_iloadn (aX12_puts_ 65 rfl) rfl ?_
        obtain ⟨x7, h8⟩ : ∃ y, FL 144 (a1).toNatClampNeg = y := ⟨_, rfl⟩
        have h8l := congrArg Int64.toInt h8
        have := l_rng x7
        refine hw_lald (v := x7) (aX12_puts_ 66 rfl) (c144 hS) (s144 hS) (h_in rfl (by omega) (by omega)) (show FL 144 (a1).toNatClampNeg = x7 from h8) ?_
        have hq := rel_part (a1).toNatClampNeg (i_lt (rfl : (a1).toInt = _) (by omega) (by omega))
        have e9 : 0 ≤ (x7).toInt ∧ (x7).toInt ≤ 31 := by omega
        refine xw_l2i (aX12_puts_ 67 rfl) ?_
        refine hw_tie (A := (x7).toInt) (l_2i rfl (by omega) (by omega)) (fun x10 e11 => ?_)
        refine xw_istore (L2 := [(6, .int (x10)), (5, .int (x1)), (0, .ref (base + 121)), (1, .int (a1)), (2, .long (a2)), (4, .int (a3))]) (aX12_puts_ 68 rfl) (by decide) rfl ?_
        refine hw_aloadn (aX12_puts_ 69 rfl) rfl ?_
        refine hw_get (v := .ref (base + 122)) (aX12_puts_ 70 rfl) wf_RX12_7 (c121 hS) (s121 hS) (by decide) (congrArg (fun r => va_rf (h_rf base r)) (r121_1 hF)) ?_
        refine xw_iload (aX12_puts_ 71 rfl) rfl ?_
        refine hw_aloadn (aX12_puts_ 72 rfl) rfl ?_
        refine hw_get (v := .ref (base + 122)) (aX12_puts_ 73 rfl) wf_RX12_7 (c121 hS) (s121 hS) (by decide) (congrArg (fun r => va_rf (h_rf base r)) (r121_1 hF)) ?_
        refine xw_iload (aX12_puts_ 74 rfl) rfl ?_
        obtain ⟨x12, h13⟩ : ∃ y, FL 122 (x10).toNatClampNeg = y := ⟨_, rfl⟩
        have h13l := congrArg Int64.toInt h13
        have := l_rng x12
        refine hw_lald (v := x12) (aX12_puts_ 75 rfl) (c122 hS) (s122 hS) (h_in e11 (by omega) (by omega)) (show FL 122 (x10).toNatClampNeg = x12 from h13) ?_
        refine hw_lc (v := (1 : Int64)) (aX12_puts_ 76 rfl) (by decide) ?_
        refine xw_lloadn (aX12_puts_ 77 rfl) rfl ?_
        refine xw_l2i (aX12_puts_ 78 rfl) ?_
        refine hw_tie (A := (a2).toInt) (l_2i rfl (by omega) (by omega)) (fun x14 e15 => ?_)
        refine xw_lshl (aX12_puts_ 79 rfl) ?_
        refine hw_tl (fun x16 => ?_)
        have b17 := l_rng x16
        refine xw_ldc2 (aX12_puts_ 80 rfl) wk_RX12_226 ?_
        refine xw_lxor (aX12_puts_ 81 rfl) ?_
        refine hw_tl (fun x18 => ?_)
        have b19 := l_rng x18
        refine xw_land (aX12_puts_ 82 rfl) ?_
        refine hw_tl (fun x20 => ?_)
        have b21 := l_rng x20
        refine xw_iload (aX12_puts_ 83 rfl) rfl ?_
        refine xw_i2l (aX12_puts_ 84 rfl) ?_
        refine hw_tle (A := (a3).toInt) (i_2l rfl) (fun x22 e23 => ?_)
        refine xw_lloadn (aX12_puts_ 85 rfl) rfl ?_
        refine xw_l2i (aX12_puts_ 86 rfl) ?_
        refine hw_tie (A := (a2).toInt) (l_2i rfl (by omega) (by omega)) (fun x24 e25 => ?_)
        refine xw_lshl (aX12_puts_ 87 rfl) ?_
        refine hw_tl (fun x26 => ?_)
        have b27 := l_rng x26
        refine xw_lor (aX12_puts_ 88 rfl) ?_
        refine hw_tl (fun x28 => ?_)
        have b29 := l_rng x28
        refine hv_last (k := (x10).toNatClampNeg) (aX12_puts_ 89 rfl) (c122 hS) (s122 hS) (h_in e11 (by omega) (by omega)) rfl (fun FL30 u31 => ?_)
        have rl32 : rl_p (FI 143) (FL30 144) := by rw [show FL30 144 = FL 144 from up_row u31 (by decide) rfl]; exact rel_part
        refine hw_ic (v := (1 : Int32)) (aX12_puts_ 90 rfl) (by decide) ?_
        refine xw_iret (aX12_puts_ 91 rfl) rfl (by decide) ?_
        have e33 : ((1 : Int32)).toInt = 1 := (by decide : (1 : Int32).toInt = 1)
        exact ⟨(1 : Int32), rfl, FI, FL30, rfl, hI, gf_rf, (gf_a gf_rf u31 (by decide)), (by have : ((1 : Int32)).toInt = 1 := (by decide); omega)⟩
      · refine hw_ic (v := (0 : Int32)) (aX12_puts_ 61 rfl) (by decide) ?_
        refine xw_iret (aX12_puts_ 62 rfl) rfl (by decide) ?_
        have e34 : ((0 : Int32)).toInt = 0 := (by decide : (0 : Int32).toInt = 0)
        exact ⟨(0 : Int32), rfl, FI, FL, rfl, hI, gf_rf, gf_rf, (by have : ((0 : Int32)).toInt = 0 := (by decide); omega)⟩
  · refine hw_aloadn (aX12_puts_ 8 rfl) rfl ?_
    refine hw_get (v := .ref (base + 144)) (aX12_puts_ 9 rfl) wf_RX12_87 (c121 hS) (s121 hS) (by decide) (congrArg (fun r => va_rf (h_rf base r)) (r121_49 hF)) ?_
    refine xw_iloadn (aX12_puts_ 10 rfl) rfl ?_
    obtain ⟨x35, h36⟩ : ∃ y, FL 144 (a1).toNatClampNeg = y := ⟨_, rfl⟩
    have h36l := congrArg Int64.toInt h36
    have := l_rng x35
    refine hw_lald (v := x35) (aX12_puts_ 11 rfl) (c144 hS) (s144 hS) (h_in rfl (by omega) (by omega)) (show FL 144 (a1).toNatClampNeg = x35 from h36) ?_
    refine xw_lloadn (aX12_puts_ 12 rfl) rfl ?_
    refine xw_ldc2 (aX12_puts_ 13 rfl) wk_RX12_315 ?_
    refine xw_ldiv (aX12_puts_ 14 rfl) (l_ne0 (by decide : (8 : Int64).toInt = 8) (by omega)) ?_
    refine hw_tle (A := ((a2).toInt) / (8)) (l_div rfl (by decide : (8 : Int64).toInt = 8) (by omega) (by omega)) (fun x37 e38 => ?_)
    refine xw_ladd (aX12_puts_ 15 rfl) ?_
    refine hw_tl (fun x39 => ?_)
    have b40 := l_rng x39
    refine xw_lstore (L2 := [(6, .long (x39)), (5, .int (x1)), (0, .ref (base + 121)), (1, .int (a1)), (2, .long (a2)), (4, .int (a3))]) (aX12_puts_ 16 rfl) (by decide) rfl ?_
    refine xw_lload (aX12_puts_ 17 rfl) rfl ?_
    refine hw_lc (v := (0 : Int64)) (aX12_puts_ 18 rfl) (by decide) ?_
    refine hw_lclt (tgt := 44) (aX12_puts_ 19 rfl) (aX12_puts_ 20 rfl) (by decide) rfl (by decide : (0 : Int64).toInt = 0) (fun cd41 => ?_) (fun cd41 => ?_)
    · refine hw_ic (v := (0 : Int32)) (aX12_puts_ 25 rfl) (by decide) ?_
      refine xw_iret (aX12_puts_ 26 rfl) rfl (by decide) ?_
      have e42 : ((0 : Int32)).toInt = 0 := (by decide : (0 : Int32).toInt = 0)
      exact ⟨(0 : Int32), rfl, FI, FL, rfl, hI, gf_rf, gf_rf, (by have : ((0 : Int32)).toInt = 0 := (by decide); omega)⟩
    · refine xw_lload (aX12_puts_ 21 rfl) rfl ?_
      refine xw_ldc2 (aX12_puts_ 22 rfl) wk_RX12_408 ?_
      refine hw_lcle (tgt := 46) (aX12_puts_ 23 rfl) (aX12_puts_ 24 rfl) (by decide) rfl (by decide : (4095 : Int64).toInt = 4095) (fun cd43 => ?_) (fun cd43 => ?_)
      · refine xw_lloadn (aX12_puts_ 27 rfl) rfl ?_
        refine xw_ldc2 (aX12_puts_ 28 rfl) wk_RX12_315 ?_
        refine xw_lrem (aX12_puts_ 29 rfl) (l_ne0 (by decide : (8 : Int64).toInt = 8) (by omega)) ?_
        refine hw_tle (A := ((a2).toInt) % (8)) (l_rem rfl (by decide : (8 : Int64).toInt = 8) (by omega) (by omega)) (fun x44 e45 => ?_)
        refine xw_l2i (aX12_puts_ 30 rfl) ?_
        refine hw_tie (A := ((a2).toInt) % (8)) (l_2i e45 (by omega) (by omega)) (fun x46 e47 => ?_)
        refine xw_istore (L2 := [(8, .int (x46)), (6, .long (x39)), (5, .int (x1)), (0, .ref (base + 121)), (1, .int (a1)), (2, .long (a2)), (4, .int (a3))]) (aX12_puts_ 31 rfl) (by decide) rfl ?_
        refine hw_aloadn (aX12_puts_ 32 rfl) rfl ?_
        refine hw_get (v := .ref (base + 123)) (aX12_puts_ 33 rfl) wf_RX12_13 (c121 hS) (s121 hS) (by decide) (congrArg (fun r => va_rf (h_rf base r)) (r121_2 hF)) ?_
        refine xw_lload (aX12_puts_ 34 rfl) rfl ?_
        refine xw_l2i (aX12_puts_ 35 rfl) ?_
        refine hw_tie (A := (x39).toInt) (l_2i rfl (by omega) (by omega)) (fun x48 e49 => ?_)
        refine hw_aloadn (aX12_puts_ 36 rfl) rfl ?_
        refine hw_get (v := .ref (base + 123)) (aX12_puts_ 37 rfl) wf_RX12_13 (c121 hS) (s121 hS) (by decide) (congrArg (fun r => va_rf (h_rf base r)) (r121_2 hF)) ?_
        refine xw_lload (aX12_puts_ 38 rfl) rfl ?_
        refine xw_l2i (aX12_puts_ 39 rfl) ?_
        refine hw_tie (A := (x39).toInt) (l_2i rfl (by omega) (by omega)) (fun x50 e51 => ?_)
        obtain ⟨x52, h53⟩ : ∃ y, FI 123 (x50).toNatClampNeg = y := ⟨_, rfl⟩
        have h53l := congrArg Int32.toInt h53
        have := i_rng x52
        refine hw_iald (v := x52) (aX12_puts_ 40 rfl) (c123 hS) (s123 hS) (h_in e51 (by omega) (by omega)) (show FI 123 (x50).toNatClampNeg = x52 from h53) ?_
        refine hw_ic (v := (1 : Int32)) (aX12_puts_ 41 rfl) (by decide) ?_
        refine xw_iload (aX12_puts_ 42 rfl) rfl ?_
        refine xw_ishl (aX12_puts_ 43 rfl) ?_
        refine hw_ti (fun x54 => ?_)
        have b55 := i_rng x54
        refine hw_ic (v := ((-1) : Int32)) (aX12_puts_ 44 rfl) (by decide) ?_
        refine xw_ixor (aX12_puts_ 45 rfl) ?_
        refine hw_ti (fun x56 => ?_)
        have b57 := i_rng x56
        refine xw_iand (aX12_puts_ 46 rfl) ?_
        refine hw_ti (fun x58 => ?_)
        have b59 := i_rng x58
        refine xw_iload (aX12_puts_ 47 rfl) rfl ?_
        refine xw_iload (aX12_puts_ 48 rfl) rfl ?_
        refine xw_ishl (aX12_puts_ 49 rfl) ?_
        refine hw_ti (fun x60 => ?_)
        have b61 := i_rng x60
        refine xw_ior (aX12_puts_ 50 rfl) ?_
        refine hw_ti (fun x62 => ?_)
        have b63 := i_rng x62
        refine hv_iast (k := (x48).toNatClampNeg) (aX12_puts_ 51 rfl) (c123 hS) (s123 hS) (h_in e49 (by omega) (by omega)) rfl (fun FI64 u65 => ?_)
        have rl66 : rl_p (FI64 143) (FL 144) := by rw [show FI64 143 = FI 143 from up_row u65 (by decide) rfl]; exact rel_part
        have hI67 : g_I FI64 := gU_F hI u65 rfl
        refine hw_ic (v := (1 : Int32)) (aX12_puts_ 52 rfl) (by decide) ?_
        refine xw_iret (aX12_puts_ 53 rfl) rfl (by decide) ?_
        have e68 : ((1 : Int32)).toInt = 1 := (by decide : (1 : Int32).toInt = 1)
        exact ⟨(1 : Int32), rfl, FI64, FL, rfl, hI67, (gf_a gf_rf u65 (by decide)), gf_rf, (by have : ((1 : Int32)).toInt = 1 := (by decide); omega)⟩
      · refine hw_ic (v := (0 : Int32)) (aX12_puts_ 25 rfl) (by decide) ?_
        refine xw_iret (aX12_puts_ 26 rfl) rfl (by decide) ?_
        have e69 : ((0 : Int32)).toInt = 0 := (by decide : (0 : Int32).toInt = 0)
        exact ⟨(0 : Int32), rfl, FI, FL, rfl, hI, gf_rf, gf_rf, (by have : ((0 : Int32)).toInt = 0 := (by decide); omega)⟩
def nX12_fetch : Nat := 0xac1ca9ffa70103849501b560049501b42a2a4f80787008101d04152e6c08101d6600b42a6c08101d6600b42a3d60041c21009f0204150436a001b661859501b42a852e9201b42a5d00b42a9201b42a2a5100999d01b62a5800a21b1d3e033d039501b5032a9201b5032aeeffa70102844f031c6600b42a1000a29a01b42a1c3d039a01b56c08106007101b2aac020500a40002111b0a00a1041bbb00b5032a
theorem bX12_fetch : cX12_fetch.data.toList.map UInt8.toNat = x_un nX12_fetch 159 := by decide +kernel
def iX12_fetch : List (Nat × Jvm.ClassFile.Instr × Nat) := [(0, .aload_n 0, 1), (1, .iconst 0, 1), (2, .putfield 187, 3), (5, .iload_n 1, 1), (6, .iconst 1, 1), (7, .if_icmp .lt 10, 3), (10, .iload_n 1, 1), (11, .sipush 512, 3), (14, .if_icmp .le 5, 3), (17, .iconst (-1), 1), (18, .ireturn, 1), (19, .aload_n 0, 1), (20, .iload_n 1, 1), (21, .bipush 7, 2), (23, .iadd, 1), (24, .bipush 8, 2), (26, .idiv, 1), (27, .putfield 410, 3), (30, .iconst 0, 1), (31, .istore_n 2, 1), (32, .iload_n 2, 1), (33, .aload_n 0, 1), (34, .getfield 410, 3), (37, .if_icmp .ge 16, 3), (40, .aload_n 0, 1), (41, .getfield 102, 3), (44, .iload_n 2, 1), (45, .iconst 0, 1), (46, .iastore, 1), (47, .iinc 2 1, 3), (50, .goto (-18), 3), (53, .aload_n 0, 1), (54, .iconst 0, 1), (55, .putfield 402, 3), (58, .aload_n 0, 1), (59, .iconst 0, 1), (60, .putfield 405, 3), (63, .iconst 0, 1), (64, .istore_n 2, 1), (65, .iconst 0, 1), (66, .istore_n 3, 1), (67, .iload_n 3, 1), (68, .iload_n 1, 1), (69, .if_icmp .ge 88, 3), (72, .aload_n 0, 1), (73, .invokevirtual 413, 3), (76, .ifCond .eq 81, 3), (79, .aload_n 0, 1), (80, .aload_n 0, 1), (81, .getfield 402, 3), (84, .aload_n 0, 1), (85, .getfield 93, 3), (88, .aload_n 0, 1), (89, .getfield 402, 3), (92, .iaload, 1), (93, .i2l, 1), (94, .aload_n 0, 1), (95, .getfield 405, 3), (98, .i2l, 1), (99, .ladd, 1), (100, .invokevirtual 416, 3), (103, .istore 4, 2), (105, .iload 4, 2), (107, .iconst (-1), 1), (108, .if_icmp .eq 33, 3), (111, .iload_n 2, 1), (112, .iconst 1, 1), (113, .iadd, 1), (114, .istore_n 2, 1), (115, .aload_n 0, 1), (116, .getfield 102, 3), (119, .iload_n 3, 1), (120, .bipush 8, 2), (122, .idiv, 1), (123, .aload_n 0, 1), (124, .getfield 102, 3), (127, .iload_n 3, 1), (128, .bipush 8, 2), (130, .idiv, 1), (131, .iaload, 1), (132, .iload 4, 2), (134, .iload_n 3, 1), (135, .bipush 8, 2), (137, .irem, 1), (138, .ishl, 1), (139, .ior, 1), (140, .iastore, 1), (141, .aload_n 0, 1), (142, .aload_n 0, 1), (143, .getfield 405, 3), (146, .iconst 1, 1), (147, .iadd, 1), (148, .putfield 405, 3), (151, .iinc 3 1, 3), (154, .goto (-87), 3), (157, .iload_n 2, 1), (158, .ireturn, 1)]
theorem dX12_fetch : x_il nX12_fetch 159 iX12_fetch = true := by decide +kernel
theorem aX12_fetch (k : Nat) {pc : Nat} {i : Jvm.ClassFile.Instr} {len : Nat} (hk : iX12_fetch[k]? = some (pc, i, len)) : x_at xMM 203 pc i len yX12_fetch 5 (some .int) := ⟨cX12_fetch, rfl, x_il_ok bX12_fetch dX12_fetch k hk⟩
set_option maxHeartbeats 4000000 in
set_option maxRecDepth 100000 in
theorem n_fetch {sk : xK} {base d n sl : Nat} {SH : Nat → Nat × Nat} {FI : Nat → Nat → Int32} {FL : Nat → Nat → Int64} {FR : Nat → Nat → Option Nat} (hS : h_S n SH) (hF : h_FR FR) (hI : g_I FI) (a1 : Int32) (rel_part : rl_p (FI 143) (FL 144)) : hw sk base (d + 1) none 203 0 [(0, .ref (base + 121)), (1, .int (a1))] [] (n, sl, SH, FI, FL, FR) (h_I (fun r s => ∃ FI', s = (n, sl, SH, FI', FL, FR) ∧ g_I FI' ∧ g_fr n SH [(121, 0), (121, 58), (121, 59), (121, 61)] [148] [] FI FI')) := by
  have rg_a1 := i_rng a1
  refine hw_aloadn (aX12_fetch 0 rfl) rfl ?_
  refine hw_ic (v := (0 : Int32)) (aX12_fetch 1 rfl) (by decide) ?_
  refine hv_puti (aX12_fetch 2 rfl) wf_RX12_187 (c121 hS) (s121 hS) (by decide) rfl rfl (fun FI1 u2 => ?_)
  have rl3 : rl_p (FI1 143) (FL 144) := by rw [show FI1 143 = FI 143 from up_row u2 (by decide) rfl]; exact rel_part
  have hI4 : g_I FI1 := gU_F hI u2 rfl
  refine xw_iloadn (aX12_fetch 3 rfl) rfl ?_
  refine hw_ic (v := (1 : Int32)) (aX12_fetch 4 rfl) (by decide) ?_
  refine hw_iclt (tgt := 17) (aX12_fetch 5 rfl) (by decide) rfl (by decide : (1 : Int32).toInt = 1) (fun cd5 => ?_) (fun cd5 => ?_)
  · refine hw_ic (v := ((-1) : Int32)) (aX12_fetch 9 rfl) (by decide) ?_
    refine xw_iret (aX12_fetch 10 rfl) rfl rfl ?_
    have e6 : (((-1) : Int32)).toInt = (-1) := (by decide : ((-1) : Int32).toInt = (-1))
    exact ⟨((-1) : Int32), rfl, FI1, rfl, hI4, (gf_f gf_rf u2 (by decide))⟩
  · refine xw_iloadn (aX12_fetch 6 rfl) rfl ?_
    refine hw_sp (v := (512 : Int32)) (aX12_fetch 7 rfl) (by decide) ?_
    refine hw_icle (tgt := 19) (aX12_fetch 8 rfl) (by decide) rfl (by decide : (512 : Int32).toInt = 512) (fun cd7 => ?_) (fun cd7 => ?_)
    · refine hw_aloadn (aX12_fetch 11 rfl) rfl ?_
      refine xw_iloadn (aX12_fetch 12 rfl) rfl ?_
      refine hw_bp (v := (7 : Int32)) (aX12_fetch 13 rfl) (by decide) ?_
      refine xw_iadd (aX12_fetch 14 rfl) ?_
      refine hw_tie (A := ((a1).toInt) + (7)) (i_add rfl (by decide : (7 : Int32).toInt = 7) (by omega) (by omega)) (fun x8 e9 => ?_)
      refine hw_bp (v := (8 : Int32)) (aX12_fetch 15 rfl) (by decide) ?_
      refine xw_idiv (aX12_fetch 16 rfl) (i_ne0 (by decide : (8 : Int32).toInt = 8) (by omega)) ?_
      refine hw_tie (A := (((a1).toInt) + (7)) / (8)) (i_div e9 (by decide : (8 : Int32).toInt = 8) (by omega) (by omega)) (fun x10 e11 => ?_)
      refine hv_puti (aX12_fetch 17 rfl) wf_RX12_410 (c121 hS) (s121 hS) (by decide) rfl rfl (fun FI12 u13 => ?_)
      have rl14 : rl_p (FI12 143) (FL 144) := by rw [show FI12 143 = FI1 143 from up_row u13 (by decide) rfl]; exact rl3
      have hI15 : g_I FI12 := gU_121_61 hI4 u13 (by have := (e11 : (x10).toInt = (((a1).toInt) + (7)) / (8)); omega) (by have := (e11 : (x10).toInt = (((a1).toInt) + (7)) / (8)); omega)
      refine hw_ic (v := (0 : Int32)) (aX12_fetch 18 rfl) (by decide) ?_
      refine xw_istoren (L2 := [(2, .int ((0 : Int32))), (0, .ref (base + 121)), (1, .int (a1))]) (aX12_fetch 19 rfl) (by decide) rfl ?_
      have lp24 : ∀ (m : Nat) (y2 : Int32) (FIv16 : Nat → Nat → Int32), (g_fr n SH [(121, 0), (121, 58), (121, 59), (121, 61)] [148] [] FI FIv16) → (g_I FIv16) → (FIv16 121 0 = (0 : Int32)) → (FIv16 121 61 = x10) → (rl_p (FIv16 143) (FL 144)) → (0 ≤ (y2).toInt ∧ (y2).toInt ≤ 64) → ((y2).toInt ≤ (x10).toInt) → (x10).toInt - (y2).toInt < m → hw sk base (d + 1) none 203 32 [(2, .int (y2)), (0, .ref (base + 121)), (1, .int (a1))] [] (n, sl, SH, FIv16, FL, FR) (h_I (fun r s => ∃ FI', s = (n, sl, SH, FI', FL, FR) ∧ g_I FI' ∧ g_fr n SH [(121, 0), (121, 58), (121, 59), (121, 61)] [148] [] FI FI')) := by
        intro m
        induction m with
        | zero => intro y2 FIv16 fr17 hI18 kp19 kp20 rl21 iv22 iv23 hm; omega
        | succ m ih =>
          intro y2 FIv16 fr17 hI18 kp19 kp20 rl21 iv22 iv23 hm
          have rg_y2 := i_rng y2
          have := congrArg Int32.toInt kp19
          have := congrArg Int32.toInt kp20
          refine xw_iloadn (aX12_fetch 20 rfl) rfl ?_
          refine hw_aloadn (aX12_fetch 21 rfl) rfl ?_
          refine hw_get (v := .int (x10)) (aX12_fetch 22 rfl) wf_RX12_410 (c121 hS) (s121 hS) (by decide) (congrArg Value.int (show FIv16 121 61 = x10 from kp20)) ?_
          refine hw_icge (tgt := 53) (aX12_fetch 23 rfl) (by decide) rfl e11 (fun cd25 => ?_) (fun cd25 => ?_)
          · refine hw_aloadn (aX12_fetch 31 rfl) rfl ?_
            refine hw_ic (v := (0 : Int32)) (aX12_fetch 32 rfl) (by decide) ?_
            refine hv_puti (aX12_fetch 33 rfl) wf_RX12_402 (c121 hS) (s121 hS) (by decide) rfl rfl (fun FI26 u27 => ?_)
            have rl28 : rl_p (FI26 143) (FL 144) := by rw [show FI26 143 = FIv16 143 from up_row u27 (by decide) rfl]; exact rl21
            have hI29 : g_I FI26 := gU_F hI18 u27 rfl
            refine hw_aloadn (aX12_fetch 34 rfl) rfl ?_
            refine hw_ic (v := (0 : Int32)) (aX12_fetch 35 rfl) (by decide) ?_
            refine hv_puti (aX12_fetch 36 rfl) wf_RX12_405 (c121 hS) (s121 hS) (by decide) rfl rfl (fun FI30 u31 => ?_)
            have rl32 : rl_p (FI30 143) (FL 144) := by rw [show FI30 143 = FI26 143 from up_row u31 (by decide) rfl]; exact rl28
            have hI33 : g_I FI30 := gU_F hI29 u31 rfl
            refine hw_ic (v := (0 : Int32)) (aX12_fetch 37 rfl) (by decide) ?_
            refine xw_istoren (L2 := [(2, .int ((0 : Int32))), (0, .ref (base + 121)), (1, .int (a1))]) (aX12_fetch 38 rfl) (by decide) rfl ?_
            refine hw_ic (v := (0 : Int32)) (aX12_fetch 39 rfl) (by decide) ?_
            refine xw_istoren (L2 := [(3, .int ((0 : Int32))), (2, .int ((0 : Int32))), (0, .ref (base + 121)), (1, .int (a1))]) (aX12_fetch 40 rfl) (by decide) rfl ?_
            have lp46 : ∀ (m : Nat) (y3 : Int32) (y2_34 : Int32) (FIv35 : Nat → Nat → Int32), (g_fr n SH [(121, 0), (121, 58), (121, 59), (121, 61)] [148] [] FI FIv35) → (g_I FIv35) → (FIv35 121 0 = (0 : Int32)) → (FIv35 121 61 = x10) → (rl_p (FIv35 143) (FL 144)) → (0 ≤ (y3).toInt ∧ (y3).toInt ≤ 512) → (0 ≤ (FIv35 121 58).toInt ∧ (FIv35 121 58).toInt ≤ 16) → (0 ≤ (FIv35 121 59).toInt ∧ (FIv35 121 59).toInt ≤ 512) → ((y3).toInt ≤ (a1).toInt) → ((FIv35 121 59).toInt ≤ (y3).toInt) → (a1).toInt - (y3).toInt < m → hw sk base (d + 1) none 203 67 [(3, .int (y3)), (2, .int (y2_34)), (0, .ref (base + 121)), (1, .int (a1))] [] (n, sl, SH, FIv35, FL, FR) (h_I (fun r s => ∃ FI', s = (n, sl, SH, FI', FL, FR) ∧ g_I FI' ∧ g_fr n SH [(121, 0), (121, 58), (121, 59), (121, 61)] [148] [] FI FI')) := by
              intro m
              induction m with
              | zero => intro y3 y2_34 FIv35 fr36 hI37 kp38 kp39 rl40 iv41 iv42 iv43 iv44 iv45 hm; omega
              | succ m ih67 =>
                intro y3 y2_34 FIv35 fr36 hI37 kp38 kp39 rl40 iv41 iv42 iv43 iv44 iv45 hm
                have rg_y3 := i_rng y3
                have rg_y2_34 := i_rng y2_34
                have := congrArg Int32.toInt kp38
                have := congrArg Int32.toInt kp39
                obtain ⟨x47, h48⟩ : ∃ y, FIv35 121 58 = y := ⟨_, rfl⟩
                have h48l := congrArg Int32.toInt h48
                have := i_rng x47
                obtain ⟨x49, h50⟩ : ∃ y, FIv35 121 59 = y := ⟨_, rfl⟩
                have h50l := congrArg Int32.toInt h50
                have := i_rng x49
                refine xw_iloadn (aX12_fetch 41 rfl) rfl ?_
                refine xw_iloadn (aX12_fetch 42 rfl) rfl ?_
                refine hw_icge (tgt := 157) (aX12_fetch 43 rfl) (by decide) rfl rfl (fun cd51 => ?_) (fun cd51 => ?_)
                · refine xw_iloadn (aX12_fetch 95 rfl) rfl ?_
                  refine xw_iret (aX12_fetch 96 rfl) rfl rfl ?_
                  exact ⟨y2_34, rfl, FIv35, rfl, hI37, fr36⟩
                · refine hw_aloadn (aX12_fetch 44 rfl) rfl ?_
                  refine hw_callV (Bs := []) (rest := []) (aX12_fetch 45 rfl) wc_RX12_413 (by decide) rfl wi_yX12_goes wv_yX12_goes (c121 hS) (s121 hS) rfl rfl rfl (Nat.le_of_ble_eq_true rfl) (Nat.le_of_ble_eq_true rfl) (n_goes (d := d) hS hF hI37 (by have := congrArg Int32.toInt (show FIv35 121 58 = x47 from h48); have := congrArg Int32.toInt (show FIv35 121 58 = x47 from h48); omega) (by have := congrArg Int32.toInt (show FIv35 121 59 = x49 from h50); have := congrArg Int32.toInt (show FIv35 121 59 = x49 from h50); omega)) (fun v52 sv53 p54 => ?_)
                  have := congrArg Int32.toInt (show FIv35 121 59 = x49 from h50)
                  obtain ⟨r55, rfl, FI56, rfl, hI57, f58, t59, t60, t61, t62⟩ := p54
                  have rl63 : rl_p (FI56 143) (FL 144) := by rw [show FI56 143 = FIv35 143 from gf_row f58 (c143 hS) (s143 hS) rfl rfl]; exact rl40
                  obtain ⟨x64, h65⟩ : ∃ y, FI56 121 58 = y := ⟨_, rfl⟩
                  have h65l := congrArg Int32.toInt h65
                  have := i_rng x64
                  obtain ⟨x66, h67⟩ : ∃ y, FI56 121 46 = y := ⟨_, rfl⟩
                  have h67l := congrArg Int32.toInt h67
                  have b68 := gI_121_46 hI57; rw [h67] at b68
                  obtain ⟨x69, h70⟩ : ∃ y, FI56 121 59 = y := ⟨_, rfl⟩
                  have h70l := congrArg Int32.toInt h70
                  have := i_rng x69
                  show hw sk base _ _ _ _ _ [.int (r55)] _ _
                  refine hw_ifeq (tgt := 157) (aX12_fetch 46 rfl) (by decide) rfl (fun cd71 => ?_) (fun cd71 => ?_)
                  · clear t59
                    refine xw_iloadn (aX12_fetch 95 rfl) rfl ?_
                    refine xw_iret (aX12_fetch 96 rfl) rfl rfl ?_
                    exact ⟨y2_34, rfl, FI56, rfl, hI57, (gf_tr ex_rf fr36 f58 rfl rfl rfl)⟩
                  · replace t59 := t59 (by omega)
                    refine hw_aloadn (aX12_fetch 47 rfl) rfl ?_
                    refine hw_aloadn (aX12_fetch 48 rfl) rfl ?_
                    refine hw_get (v := .int (x64)) (aX12_fetch 49 rfl) wf_RX12_402 (c121 hS) (s121 hS) (by decide) (congrArg Value.int (show FI56 121 58 = x64 from h65)) ?_
                    refine hw_aloadn (aX12_fetch 50 rfl) rfl ?_
                    refine hw_get (v := .ref (base + 146)) (aX12_fetch 51 rfl) wf_RX12_93 (c121 hS) (s121 hS) (by decide) (congrArg (fun r => va_rf (h_rf base r)) (r121_51 hF)) ?_
                    refine hw_aloadn (aX12_fetch 52 rfl) rfl ?_
                    refine hw_get (v := .int (x64)) (aX12_fetch 53 rfl) wf_RX12_402 (c121 hS) (s121 hS) (by decide) (congrArg Value.int (show FI56 121 58 = x64 from h65)) ?_
                    obtain ⟨x72, h73⟩ : ∃ y, FI56 146 (x64).toNatClampNeg = y := ⟨_, rfl⟩
                    have h73l := congrArg Int32.toInt h73
                    have := i_rng x72
                    refine hw_iald (v := x72) (aX12_fetch 54 rfl) (c146 hS) (s146 hS) (h_in rfl (by omega) (by omega)) (show FI56 146 (x64).toNatClampNeg = x72 from h73) ?_
                    have b74 := gI_146 hI57 (i_lt (x := x64) rfl (by omega) (by omega)); rw [h73] at b74
                    refine xw_i2l (aX12_fetch 55 rfl) ?_
                    refine hw_tle (A := (x72).toInt) (i_2l rfl) (fun x75 e76 => ?_)
                    refine hw_aloadn (aX12_fetch 56 rfl) rfl ?_
                    refine hw_get (v := .int (x69)) (aX12_fetch 57 rfl) wf_RX12_405 (c121 hS) (s121 hS) (by decide) (congrArg Value.int (show FI56 121 59 = x69 from h70)) ?_
                    refine xw_i2l (aX12_fetch 58 rfl) ?_
                    refine hw_tle (A := (x69).toInt) (i_2l rfl) (fun x77 e78 => ?_)
                    refine xw_ladd (aX12_fetch 59 rfl) ?_
                    refine hw_tle (A := ((x72).toInt) + ((x69).toInt)) (l_add e76 e78 (by omega) (by omega)) (fun x79 e80 => ?_)
                    refine hw_callV (Bs := [.int (x64), .long (x79)]) (rest := []) (aX12_fetch 60 rfl) wc_RX12_416 (by decide) rfl wi_yX12_bit wv_yX12_bit (c121 hS) (s121 hS) rfl rfl rfl (Nat.le_of_ble_eq_true rfl) (Nat.le_of_ble_eq_true rfl) (n_bit (d := d) hS hF hI57 (x64) (x79) (by omega) (by have := (e80 : (x79).toInt = ((x72).toInt) + ((x69).toInt)); have := (e80 : (x79).toInt = ((x72).toInt) + ((x69).toInt)); omega) (show rl_p (FI56 143) (FL 144) from rl63)) (fun v81 sv82 p83 => ?_)
                    obtain ⟨r84, rfl, rfl⟩ := p83
                    have rg_r84 := i_rng r84
                    show hw sk base _ _ _ _ _ [.int (r84)] _ _
                    refine xw_istore (L2 := [(4, .int (r84)), (3, .int (y3)), (2, .int (y2_34)), (0, .ref (base + 121)), (1, .int (a1))]) (aX12_fetch 61 rfl) (by decide) rfl ?_
                    refine xw_iload (aX12_fetch 62 rfl) rfl ?_
                    refine hw_ic (v := ((-1) : Int32)) (aX12_fetch 63 rfl) (by decide) ?_
                    refine hw_iceq (tgt := 141) (aX12_fetch 64 rfl) (by decide) rfl (by decide : ((-1) : Int32).toInt = (-1)) (fun cd86 => ?_) (fun cd86 => ?_)
                    · refine hw_aloadn (aX12_fetch 87 rfl) rfl ?_
                      refine hw_aloadn (aX12_fetch 88 rfl) rfl ?_
                      refine hw_get (v := .int (x69)) (aX12_fetch 89 rfl) wf_RX12_405 (c121 hS) (s121 hS) (by decide) (congrArg Value.int (show FI56 121 59 = x69 from h70)) ?_
                      refine hw_ic (v := (1 : Int32)) (aX12_fetch 90 rfl) (by decide) ?_
                      refine xw_iadd (aX12_fetch 91 rfl) ?_
                      refine hw_tie (A := ((x69).toInt) + (1)) (i_add rfl (by decide : (1 : Int32).toInt = 1) (by omega) (by omega)) (fun x87 e88 => ?_)
                      refine hv_puti (aX12_fetch 92 rfl) wf_RX12_405 (c121 hS) (s121 hS) (by decide) rfl rfl (fun FI89 u90 => ?_)
                      have rl91 : rl_p (FI89 143) (FL 144) := by rw [show FI89 143 = FI56 143 from up_row u90 (by decide) rfl]; exact rl63
                      have hI92 : g_I FI89 := gU_F hI57 u90 rfl
                      obtain ⟨x93, q95⟩ : ∃ y : Int32, (y3) + Int32.ofInt (1) = y := ⟨_, rfl⟩
                      have e94 : (x93).toInt = (y3).toInt + (1) := by rw [← q95]; exact i_add rfl (by decide) (by omega) (by omega)
                      refine xw_iinc (L2 := [(3, .int (x93)), (4, .int (r84)), (2, .int (y2_34)), (0, .ref (base + 121)), (1, .int (a1))]) (aX12_fetch 93 rfl) rfl (by decide) (by rw [q95]; rfl) ?_
                      refine xw_goto (tgt := 67) (aX12_fetch 94 rfl) (by decide) ?_
                      exact hw_L (ih67 (x93) (y2_34) FI89 (gf_f (gf_tr ex_rf fr36 f58 rfl rfl rfl) u90 (by decide)) hI92 (show FI89 121 0 = (0 : Int32) from (up_k u90 (by decide) ((gf_at f58 (c121 hS) (s121 hS) rfl (kp38))))) (show FI89 121 61 = x10 from (up_k u90 (by decide) ((gf_at f58 (c121 hS) (s121 hS) rfl (kp39))))) (show rl_p (FI89 143) (FL 144) from rl91) (by have := (e94 : (x93).toInt = (y3).toInt + (1)); omega) (by have := (e94 : (x93).toInt = (y3).toInt + (1)); have := congrArg Int32.toInt (show FI89 121 58 = x64 from (up_k u90 (by decide) (h65))); omega) (by have := (e94 : (x93).toInt = (y3).toInt + (1)); have := congrArg Int32.toInt (show FI89 121 59 = x87 from up_eq u90); have := (e88 : (x87).toInt = ((x69).toInt) + (1)); omega) (by have := (e94 : (x93).toInt = (y3).toInt + (1)); omega) (by have := (e94 : (x93).toInt = (y3).toInt + (1)); have := congrArg Int32.toInt (show FI89 121 59 = x87 from up_eq u90); have := (e88 : (x87).toInt = ((x69).toInt) + (1)); omega) (by have := (e94 : (x93).toInt = (y3).toInt + (1)); omega)) ⟨rfl, rfl, rfl, rfl, trivial⟩
                    · refine xw_iloadn (aX12_fetch 65 rfl) rfl ?_
                      refine hw_ic (v := (1 : Int32)) (aX12_fetch 66 rfl) (by decide) ?_
                      refine xw_iadd (aX12_fetch 67 rfl) ?_
                      refine hw_ti (fun x96 => ?_)
                      have b97 := i_rng x96
                      refine xw_istoren (L2 := [(2, .int (x96)), (4, .int (r84)), (3, .int (y3)), (0, .ref (base + 121)), (1, .int (a1))]) (aX12_fetch 68 rfl) (by decide) rfl ?_
                      refine hw_aloadn (aX12_fetch 69 rfl) rfl ?_
                      refine hw_get (v := .ref (base + 148)) (aX12_fetch 70 rfl) wf_RX12_102 (c121 hS) (s121 hS) (by decide) (congrArg (fun r => va_rf (h_rf base r)) (r121_60 hF)) ?_
                      refine xw_iloadn (aX12_fetch 71 rfl) rfl ?_
                      refine hw_bp (v := (8 : Int32)) (aX12_fetch 72 rfl) (by decide) ?_
                      refine xw_idiv (aX12_fetch 73 rfl) (i_ne0 (by decide : (8 : Int32).toInt = 8) (by omega)) ?_
                      refine hw_tie (A := ((y3).toInt) / (8)) (i_div rfl (by decide : (8 : Int32).toInt = 8) (by omega) (by omega)) (fun x98 e99 => ?_)
                      refine hw_aloadn (aX12_fetch 74 rfl) rfl ?_
                      refine hw_get (v := .ref (base + 148)) (aX12_fetch 75 rfl) wf_RX12_102 (c121 hS) (s121 hS) (by decide) (congrArg (fun r => va_rf (h_rf base r)) (r121_60 hF)) ?_
                      refine xw_iloadn (aX12_fetch 76 rfl) rfl ?_
                      refine hw_bp (v := (8 : Int32)) (aX12_fetch 77 rfl) (by decide) ?_
                      refine xw_idiv (aX12_fetch 78 rfl) (i_ne0 (by decide : (8 : Int32).toInt = 8) (by omega)) ?_
                      refine hw_tie (A := ((y3).toInt) / (8)) (i_div rfl (by decide : (8 : Int32).toInt = 8) (by omega) (by omega)) (fun x100 e101 => ?_)
                      obtain ⟨x102, h103⟩ : ∃ y, FI56 148 (x100).toNatClampNeg = y := ⟨_, rfl⟩
                      have h103l := congrArg Int32.toInt h103
                      have := i_rng x102
                      refine hw_iald (v := x102) (aX12_fetch 79 rfl) (c148 hS) (s148 hS) (h_in e101 (by omega) (by omega)) (show FI56 148 (x100).toNatClampNeg = x102 from h103) ?_
                      refine xw_iload (aX12_fetch 80 rfl) rfl ?_
                      refine xw_iloadn (aX12_fetch 81 rfl) rfl ?_
                      refine hw_bp (v := (8 : Int32)) (aX12_fetch 82 rfl) (by decide) ?_
                      refine xw_irem (aX12_fetch 83 rfl) (i_ne0 (by decide : (8 : Int32).toInt = 8) (by omega)) ?_
                      refine hw_tie (A := ((y3).toInt) % (8)) (i_rem rfl (by decide : (8 : Int32).toInt = 8) (by omega) (by omega)) (fun x104 e105 => ?_)
                      refine xw_ishl (aX12_fetch 84 rfl) ?_
                      refine hw_ti (fun x106 => ?_)
                      have b107 := i_rng x106
                      refine xw_ior (aX12_fetch 85 rfl) ?_
                      refine hw_ti (fun x108 => ?_)
                      have b109 := i_rng x108
                      refine hv_iast (k := (x98).toNatClampNeg) (aX12_fetch 86 rfl) (c148 hS) (s148 hS) (h_in e99 (by omega) (by omega)) rfl (fun FI110 u111 => ?_)
                      have rl112 : rl_p (FI110 143) (FL 144) := by rw [show FI110 143 = FI56 143 from up_row u111 (by decide) rfl]; exact rl63
                      have hI113 : g_I FI110 := gU_F hI57 u111 rfl
                      refine hw_aloadn (aX12_fetch 87 rfl) rfl ?_
                      refine hw_aloadn (aX12_fetch 88 rfl) rfl ?_
                      refine hw_get (v := .int (x69)) (aX12_fetch 89 rfl) wf_RX12_405 (c121 hS) (s121 hS) (by decide) (congrArg Value.int (show FI110 121 59 = x69 from (up_c u111 (by decide) (h70)))) ?_
                      refine hw_ic (v := (1 : Int32)) (aX12_fetch 90 rfl) (by decide) ?_
                      refine xw_iadd (aX12_fetch 91 rfl) ?_
                      refine hw_tie (A := ((x69).toInt) + (1)) (i_add rfl (by decide : (1 : Int32).toInt = 1) (by omega) (by omega)) (fun x114 e115 => ?_)
                      refine hv_puti (aX12_fetch 92 rfl) wf_RX12_405 (c121 hS) (s121 hS) (by decide) rfl rfl (fun FI116 u117 => ?_)
                      have rl118 : rl_p (FI116 143) (FL 144) := by rw [show FI116 143 = FI110 143 from up_row u117 (by decide) rfl]; exact rl112
                      have hI119 : g_I FI116 := gU_F hI113 u117 rfl
                      obtain ⟨x120, q122⟩ : ∃ y : Int32, (y3) + Int32.ofInt (1) = y := ⟨_, rfl⟩
                      have e121 : (x120).toInt = (y3).toInt + (1) := by rw [← q122]; exact i_add rfl (by decide) (by omega) (by omega)
                      refine xw_iinc (L2 := [(3, .int (x120)), (2, .int (x96)), (4, .int (r84)), (0, .ref (base + 121)), (1, .int (a1))]) (aX12_fetch 93 rfl) rfl (by decide) (by rw [q122]; rfl) ?_
                      refine xw_goto (tgt := 67) (aX12_fetch 94 rfl) (by decide) ?_
                      exact hw_L (ih67 (x120) (x96) FI116 (gf_f (gf_a (gf_tr ex_rf fr36 f58 rfl rfl rfl) u111 (by decide)) u117 (by decide)) hI119 (show FI116 121 0 = (0 : Int32) from (up_k u117 (by decide) ((up_c u111 (by decide) ((gf_at f58 (c121 hS) (s121 hS) rfl (kp38))))))) (show FI116 121 61 = x10 from (up_k u117 (by decide) ((up_c u111 (by decide) ((gf_at f58 (c121 hS) (s121 hS) rfl (kp39))))))) (show rl_p (FI116 143) (FL 144) from rl118) (by have := (e121 : (x120).toInt = (y3).toInt + (1)); omega) (by have := (e121 : (x120).toInt = (y3).toInt + (1)); have := congrArg Int32.toInt (show FI116 121 58 = x64 from (up_k u117 (by decide) ((up_c u111 (by decide) (h65))))); omega) (by have := (e121 : (x120).toInt = (y3).toInt + (1)); have := congrArg Int32.toInt (show FI116 121 59 = x114 from up_eq u117); have := (e115 : (x114).toInt = ((x69).toInt) + (1)); omega) (by have := (e121 : (x120).toInt = (y3).toInt + (1)); omega) (by have := (e121 : (x120).toInt = (y3).toInt + (1)); have := congrArg Int32.toInt (show FI116 121 59 = x114 from up_eq u117); have := (e115 : (x114).toInt = ((x69).toInt) + (1)); omega) (by have := (e121 : (x120).toInt = (y3).toInt + (1)); omega)) ⟨rfl, rfl, rfl, rfl, trivial⟩
            exact hw_L (lp46 (((a1).toInt - 0 : Int).toNat + 1) ((0 : Int32)) ((0 : Int32)) FI30 (gf_f (gf_f fr17 u27 (by decide)) u31 (by decide)) hI33 (show FI30 121 0 = (0 : Int32) from (up_k u31 (by decide) ((up_k u27 (by decide) (kp19))))) (show FI30 121 61 = x10 from (up_k u31 (by decide) ((up_k u27 (by decide) (kp20))))) (show rl_p (FI30 143) (FL 144) from rl32) (by have := ((by decide : (0 : Int32).toInt = 0) : ((0 : Int32)).toInt = 0); have := ((by decide : (0 : Int32).toInt = 0) : ((0 : Int32)).toInt = 0); omega) (by have := ((by decide : (0 : Int32).toInt = 0) : ((0 : Int32)).toInt = 0); have := ((by decide : (0 : Int32).toInt = 0) : ((0 : Int32)).toInt = 0); have := congrArg Int32.toInt (show FI30 121 58 = (0 : Int32) from (up_k u31 (by decide) (up_eq u27))); have := ((by decide : (0 : Int32).toInt = 0) : ((0 : Int32)).toInt = 0); omega) (by have := ((by decide : (0 : Int32).toInt = 0) : ((0 : Int32)).toInt = 0); have := ((by decide : (0 : Int32).toInt = 0) : ((0 : Int32)).toInt = 0); have := congrArg Int32.toInt (show FI30 121 59 = (0 : Int32) from up_eq u31); have := ((by decide : (0 : Int32).toInt = 0) : ((0 : Int32)).toInt = 0); omega) (by have := ((by decide : (0 : Int32).toInt = 0) : ((0 : Int32)).toInt = 0); have := ((by decide : (0 : Int32).toInt = 0) : ((0 : Int32)).toInt = 0); omega) (by have := ((by decide : (0 : Int32).toInt = 0) : ((0 : Int32)).toInt = 0); have := ((by decide : (0 : Int32).toInt = 0) : ((0 : Int32)).toInt = 0); have := congrArg Int32.toInt (show FI30 121 59 = (0 : Int32) from up_eq u31); have := ((by decide : (0 : Int32).toInt = 0) : ((0 : Int32)).toInt = 0); omega) (by have := ((by decide : (0 : Int32).toInt = 0) : ((0 : Int32)).toInt = 0); have := ((by decide : (0 : Int32).toInt = 0) : ((0 : Int32)).toInt = 0); omega)) ⟨rfl, rfl, rfl, rfl, trivial⟩
          · refine hw_aloadn (aX12_fetch 24 rfl) rfl ?_
            refine hw_get (v := .ref (base + 148)) (aX12_fetch 25 rfl) wf_RX12_102 (c121 hS) (s121 hS) (by decide) (congrArg (fun r => va_rf (h_rf base r)) (r121_60 hF)) ?_
            refine xw_iloadn (aX12_fetch 26 rfl) rfl ?_
            refine hw_ic (v := (0 : Int32)) (aX12_fetch 27 rfl) (by decide) ?_
            refine hv_iast (k := (y2).toNatClampNeg) (aX12_fetch 28 rfl) (c148 hS) (s148 hS) (h_in rfl (by omega) (by omega)) rfl (fun FI123 u124 => ?_)
            have rl125 : rl_p (FI123 143) (FL 144) := by rw [show FI123 143 = FIv16 143 from up_row u124 (by decide) rfl]; exact rl21
            have hI126 : g_I FI123 := gU_F hI18 u124 rfl
            obtain ⟨x127, q129⟩ : ∃ y : Int32, (y2) + Int32.ofInt (1) = y := ⟨_, rfl⟩
            have e128 : (x127).toInt = (y2).toInt + (1) := by rw [← q129]; exact i_add rfl (by decide) (by omega) (by omega)
            refine xw_iinc (L2 := [(2, .int (x127)), (0, .ref (base + 121)), (1, .int (a1))]) (aX12_fetch 29 rfl) rfl (by decide) (by rw [q129]; rfl) ?_
            refine xw_goto (tgt := 32) (aX12_fetch 30 rfl) (by decide) ?_
            exact hw_L (ih (x127) FI123 (gf_a fr17 u124 (by decide)) hI126 (show FI123 121 0 = (0 : Int32) from (up_c u124 (by decide) (kp19))) (show FI123 121 61 = x10 from (up_c u124 (by decide) (kp20))) (show rl_p (FI123 143) (FL 144) from rl125) (by have := (e128 : (x127).toInt = (y2).toInt + (1)); omega) (by have := (e128 : (x127).toInt = (y2).toInt + (1)); have := congrArg Int32.toInt (show FI123 121 61 = x10 from (up_c u124 (by decide) (kp20))); have := (e11 : (x10).toInt = (((a1).toInt) + (7)) / (8)); omega) (by have := (e128 : (x127).toInt = (y2).toInt + (1)); have := congrArg Int32.toInt (show FI123 121 61 = x10 from (up_c u124 (by decide) (kp20))); have := (e11 : (x10).toInt = (((a1).toInt) + (7)) / (8)); omega)) ⟨rfl, rfl, rfl, trivial⟩
      exact hw_L (lp24 (((x10).toInt - 0 : Int).toNat + 1) ((0 : Int32)) FI12 (gf_f (gf_f gf_rf u2 (by decide)) u13 (by decide)) hI15 (show FI12 121 0 = (0 : Int32) from (up_k u13 (by decide) (up_eq u2))) (show FI12 121 61 = x10 from up_eq u13) (show rl_p (FI12 143) (FL 144) from rl14) (by have := ((by decide : (0 : Int32).toInt = 0) : ((0 : Int32)).toInt = 0); omega) (by have := ((by decide : (0 : Int32).toInt = 0) : ((0 : Int32)).toInt = 0); have := congrArg Int32.toInt (show FI12 121 61 = x10 from up_eq u13); have := (e11 : (x10).toInt = (((a1).toInt) + (7)) / (8)); omega) (by have := ((by decide : (0 : Int32).toInt = 0) : ((0 : Int32)).toInt = 0); have := congrArg Int32.toInt (show FI12 121 61 = x10 from up_eq u13); have := (e11 : (x10).toInt = (((a1).toInt) + (7)) / (8)); omega)) ⟨rfl, rfl, rfl, trivial⟩
    · refine hw_ic (v := ((-1) : Int32)) (aX12_fetch 9 rfl) (by decide) ?_
      refine xw_iret (aX12_fetch 10 rfl) rfl rfl ?_
      have e130 : (((-1) : Int32)).toInt = (-1) := (by decide : ((-1) : Int32).toInt = (-1))
      exact ⟨((-1) : Int32), rfl, FI1, rfl, hI4, (gf_f gf_rf u2 (by decide))⟩
def nX12_store : Nat := 0xac1cbe00b5032ab8ffa70103849501b560049501b42a2a3d60041c070099a401b67e047a7008101d2e6c08101d1e00b42a61859501b42a852e9201b42a5d00b42a9201b42a2a4200999d01b62a4900a21b1d3e033d039501b5032a9201b5032aac020500a26c08106007101bbe00b42a1100a30002111b1800a1041bbb00b5032a
theorem bX12_store : cX12_store.data.toList.map UInt8.toNat = x_un nX12_store 129 := by decide +kernel
def iX12_store : List (Nat × Jvm.ClassFile.Instr × Nat) := [(0, .aload_n 0, 1), (1, .iconst 0, 1), (2, .putfield 187, 3), (5, .iload_n 1, 1), (6, .iconst 1, 1), (7, .if_icmp .lt 24, 3), (10, .iload_n 1, 1), (11, .sipush 512, 3), (14, .if_icmp .gt 17, 3), (17, .aload_n 0, 1), (18, .getfield 190, 3), (21, .iload_n 1, 1), (22, .bipush 7, 2), (24, .iadd, 1), (25, .bipush 8, 2), (27, .idiv, 1), (28, .if_icmp .ge 5, 3), (31, .iconst (-1), 1), (32, .ireturn, 1), (33, .aload_n 0, 1), (34, .iconst 0, 1), (35, .putfield 402, 3), (38, .aload_n 0, 1), (39, .iconst 0, 1), (40, .putfield 405, 3), (43, .iconst 0, 1), (44, .istore_n 2, 1), (45, .iconst 0, 1), (46, .istore_n 3, 1), (47, .iload_n 3, 1), (48, .iload_n 1, 1), (49, .if_icmp .ge 73, 3), (52, .aload_n 0, 1), (53, .invokevirtual 413, 3), (56, .ifCond .eq 66, 3), (59, .aload_n 0, 1), (60, .aload_n 0, 1), (61, .getfield 402, 3), (64, .aload_n 0, 1), (65, .getfield 93, 3), (68, .aload_n 0, 1), (69, .getfield 402, 3), (72, .iaload, 1), (73, .i2l, 1), (74, .aload_n 0, 1), (75, .getfield 405, 3), (78, .i2l, 1), (79, .ladd, 1), (80, .aload_n 0, 1), (81, .getfield 30, 3), (84, .iload_n 3, 1), (85, .bipush 8, 2), (87, .idiv, 1), (88, .iaload, 1), (89, .iload_n 3, 1), (90, .bipush 8, 2), (92, .irem, 1), (93, .ishr, 1), (94, .iconst 1, 1), (95, .iand, 1), (96, .invokevirtual 420, 3), (99, .ifCond .eq 7, 3), (102, .iload_n 2, 1), (103, .iconst 1, 1), (104, .iadd, 1), (105, .istore_n 2, 1), (106, .aload_n 0, 1), (107, .aload_n 0, 1), (108, .getfield 405, 3), (111, .iconst 1, 1), (112, .iadd, 1), (113, .putfield 405, 3), (116, .iinc 3 1, 3), (119, .goto (-72), 3), (122, .aload_n 0, 1), (123, .iconst 0, 1), (124, .putfield 190, 3), (127, .iload_n 2, 1), (128, .ireturn, 1)]
theorem dX12_store : x_il nX12_store 129 iX12_store = true := by decide +kernel
theorem aX12_store (k : Nat) {pc : Nat} {i : Jvm.ClassFile.Instr} {len : Nat} (hk : iX12_store[k]? = some (pc, i, len)) : x_at xMM 204 pc i len yX12_store 4 (some .int) := ⟨cX12_store, rfl, x_il_ok bX12_store dX12_store k hk⟩
set_option maxHeartbeats 4000000 in
set_option maxRecDepth 100000 in
theorem n_store {sk : xK} {base d n sl : Nat} {SH : Nat → Nat × Nat} {FI : Nat → Nat → Int32} {FL : Nat → Nat → Int64} {FR : Nat → Nat → Option Nat} (hS : h_S n SH) (hF : h_FR FR) (hI : g_I FI) (a1 : Int32) (rel_part : rl_p (FI 143) (FL 144)) : hw sk base (d + 1) none 204 0 [(0, .ref (base + 121)), (1, .int (a1))] [] (n, sl, SH, FI, FL, FR) (h_I (fun r s => ∃ FI' FL', s = (n, sl, SH, FI', FL', FR) ∧ g_I FI' ∧ g_fr n SH [(121, 0), (121, 13), (121, 58), (121, 59)] [123] [] FI FI' ∧ g_fr n SH [] [122] [] FL FL')) := by
  have rg_a1 := i_rng a1
  refine hw_aloadn (aX12_store 0 rfl) rfl ?_
  refine hw_ic (v := (0 : Int32)) (aX12_store 1 rfl) (by decide) ?_
  refine hv_puti (aX12_store 2 rfl) wf_RX12_187 (c121 hS) (s121 hS) (by decide) rfl rfl (fun FI1 u2 => ?_)
  have rl3 : rl_p (FI1 143) (FL 144) := by rw [show FI1 143 = FI 143 from up_row u2 (by decide) rfl]; exact rel_part
  have hI4 : g_I FI1 := gU_F hI u2 rfl
  refine xw_iloadn (aX12_store 3 rfl) rfl ?_
  refine hw_ic (v := (1 : Int32)) (aX12_store 4 rfl) (by decide) ?_
  refine hw_iclt (tgt := 31) (aX12_store 5 rfl) (by decide) rfl (by decide : (1 : Int32).toInt = 1) (fun cd5 => ?_) (fun cd5 => ?_)
  · refine hw_ic (v := ((-1) : Int32)) (aX12_store 17 rfl) (by decide) ?_
    refine xw_iret (aX12_store 18 rfl) rfl rfl ?_
    have e6 : (((-1) : Int32)).toInt = (-1) := (by decide : ((-1) : Int32).toInt = (-1))
    exact ⟨((-1) : Int32), rfl, FI1, FL, rfl, hI4, (gf_f gf_rf u2 (by decide)), gf_rf⟩
  · refine xw_iloadn (aX12_store 6 rfl) rfl ?_
    refine hw_sp (v := (512 : Int32)) (aX12_store 7 rfl) (by decide) ?_
    refine hw_icgt (tgt := 31) (aX12_store 8 rfl) (by decide) rfl (by decide : (512 : Int32).toInt = 512) (fun cd7 => ?_) (fun cd7 => ?_)
    · refine hw_ic (v := ((-1) : Int32)) (aX12_store 17 rfl) (by decide) ?_
      refine xw_iret (aX12_store 18 rfl) rfl rfl ?_
      have e8 : (((-1) : Int32)).toInt = (-1) := (by decide : ((-1) : Int32).toInt = (-1))
      exact ⟨((-1) : Int32), rfl, FI1, FL, rfl, hI4, (gf_f gf_rf u2 (by decide)), gf_rf⟩
    · refine hw_aloadn (aX12_store 9 rfl) rfl ?_
      obtain ⟨x9, h10⟩ : ∃ y, FI1 121 13 = y := ⟨_, rfl⟩
      have h10l := congrArg Int32.toInt h10
      have b11 := gI_121_13 hI4; rw [h10] at b11
      refine hw_get (v := .int (x9)) (aX12_store 10 rfl) wf_RX12_190 (c121 hS) (s121 hS) (by decide) (congrArg Value.int (show FI1 121 13 = x9 from h10)) ?_
      refine xw_iloadn (aX12_store 11 rfl) rfl ?_
      refine hw_bp (v := (7 : Int32)) (aX12_store 12 rfl) (by decide) ?_
      refine xw_iadd (aX12_store 13 rfl) ?_
      refine hw_tie (A := ((a1).toInt) + (7)) (i_add rfl (by decide : (7 : Int32).toInt = 7) (by omega) (by omega)) (fun x12 e13 => ?_)
      refine hw_bp (v := (8 : Int32)) (aX12_store 14 rfl) (by decide) ?_
      refine xw_idiv (aX12_store 15 rfl) (i_ne0 (by decide : (8 : Int32).toInt = 8) (by omega)) ?_
      refine hw_tie (A := (((a1).toInt) + (7)) / (8)) (i_div e13 (by decide : (8 : Int32).toInt = 8) (by omega) (by omega)) (fun x14 e15 => ?_)
      refine hw_icge (tgt := 33) (aX12_store 16 rfl) (by decide) rfl e15 (fun cd16 => ?_) (fun cd16 => ?_)
      · refine hw_aloadn (aX12_store 19 rfl) rfl ?_
        refine hw_ic (v := (0 : Int32)) (aX12_store 20 rfl) (by decide) ?_
        refine hv_puti (aX12_store 21 rfl) wf_RX12_402 (c121 hS) (s121 hS) (by decide) rfl rfl (fun FI17 u18 => ?_)
        have rl19 : rl_p (FI17 143) (FL 144) := by rw [show FI17 143 = FI1 143 from up_row u18 (by decide) rfl]; exact rl3
        have hI20 : g_I FI17 := gU_F hI4 u18 rfl
        refine hw_aloadn (aX12_store 22 rfl) rfl ?_
        refine hw_ic (v := (0 : Int32)) (aX12_store 23 rfl) (by decide) ?_
        refine hv_puti (aX12_store 24 rfl) wf_RX12_405 (c121 hS) (s121 hS) (by decide) rfl rfl (fun FI21 u22 => ?_)
        have rl23 : rl_p (FI21 143) (FL 144) := by rw [show FI21 143 = FI17 143 from up_row u22 (by decide) rfl]; exact rl19
        have hI24 : g_I FI21 := gU_F hI20 u22 rfl
        refine hw_ic (v := (0 : Int32)) (aX12_store 25 rfl) (by decide) ?_
        refine xw_istoren (L2 := [(2, .int ((0 : Int32))), (0, .ref (base + 121)), (1, .int (a1))]) (aX12_store 26 rfl) (by decide) rfl ?_
        refine hw_ic (v := (0 : Int32)) (aX12_store 27 rfl) (by decide) ?_
        refine xw_istoren (L2 := [(3, .int ((0 : Int32))), (2, .int ((0 : Int32))), (0, .ref (base + 121)), (1, .int (a1))]) (aX12_store 28 rfl) (by decide) rfl ?_
        have lp38 : ∀ (m : Nat) (y3 : Int32) (y2 : Int32) (FIv25 : Nat → Nat → Int32) (FLv26 : Nat → Nat → Int64), (g_fr n SH [(121, 0), (121, 13), (121, 58), (121, 59)] [123] [] FI FIv25) → (g_fr n SH [] [122] [] FL FLv26) → (g_I FIv25) → (FIv25 121 0 = (0 : Int32)) → (FIv25 121 13 = x9) → (rl_p (FIv25 143) (FLv26 144)) → (0 ≤ (y3).toInt ∧ (y3).toInt ≤ 512) → (0 ≤ (FIv25 121 58).toInt ∧ (FIv25 121 58).toInt ≤ 16) → (0 ≤ (FIv25 121 59).toInt ∧ (FIv25 121 59).toInt ≤ 512) → ((y3).toInt ≤ (a1).toInt) → ((FIv25 121 59).toInt ≤ (y3).toInt) → (a1).toInt - (y3).toInt < m → hw sk base (d + 1) none 204 47 [(3, .int (y3)), (2, .int (y2)), (0, .ref (base + 121)), (1, .int (a1))] [] (n, sl, SH, FIv25, FLv26, FR) (h_I (fun r s => ∃ FI' FL', s = (n, sl, SH, FI', FL', FR) ∧ g_I FI' ∧ g_fr n SH [(121, 0), (121, 13), (121, 58), (121, 59)] [123] [] FI FI' ∧ g_fr n SH [] [122] [] FL FL')) := by
          intro m
          induction m with
          | zero => intro y3 y2 FIv25 FLv26 fr27 fr28 hI29 kp30 kp31 rl32 iv33 iv34 iv35 iv36 iv37 hm; omega
          | succ m ih =>
            intro y3 y2 FIv25 FLv26 fr27 fr28 hI29 kp30 kp31 rl32 iv33 iv34 iv35 iv36 iv37 hm
            have rg_y3 := i_rng y3
            have rg_y2 := i_rng y2
            have := congrArg Int32.toInt kp30
            have := congrArg Int32.toInt kp31
            obtain ⟨x39, h40⟩ : ∃ y, FIv25 121 58 = y := ⟨_, rfl⟩
            have h40l := congrArg Int32.toInt h40
            have := i_rng x39
            obtain ⟨x41, h42⟩ : ∃ y, FIv25 121 59 = y := ⟨_, rfl⟩
            have h42l := congrArg Int32.toInt h42
            have := i_rng x41
            refine xw_iloadn (aX12_store 29 rfl) rfl ?_
            refine xw_iloadn (aX12_store 30 rfl) rfl ?_
            refine hw_icge (tgt := 122) (aX12_store 31 rfl) (by decide) rfl rfl (fun cd43 => ?_) (fun cd43 => ?_)
            · refine hw_aloadn (aX12_store 74 rfl) rfl ?_
              refine hw_ic (v := (0 : Int32)) (aX12_store 75 rfl) (by decide) ?_
              refine hv_puti (aX12_store 76 rfl) wf_RX12_190 (c121 hS) (s121 hS) (by decide) rfl rfl (fun FI44 u45 => ?_)
              have rl46 : rl_p (FI44 143) (FLv26 144) := by rw [show FI44 143 = FIv25 143 from up_row u45 (by decide) rfl]; exact rl32
              have hI47 : g_I FI44 := gU_121_13 hI29 u45 (by have := ((by decide : (0 : Int32).toInt = 0) : ((0 : Int32)).toInt = 0); omega) (by have := ((by decide : (0 : Int32).toInt = 0) : ((0 : Int32)).toInt = 0); omega)
              refine xw_iloadn (aX12_store 77 rfl) rfl ?_
              refine xw_iret (aX12_store 78 rfl) rfl rfl ?_
              exact ⟨y2, rfl, FI44, FLv26, rfl, hI47, (gf_f fr27 u45 (by decide)), fr28⟩
            · refine hw_aloadn (aX12_store 32 rfl) rfl ?_
              refine hw_callV (Bs := []) (rest := []) (aX12_store 33 rfl) wc_RX12_413 (by decide) rfl wi_yX12_goes wv_yX12_goes (c121 hS) (s121 hS) rfl rfl rfl (Nat.le_of_ble_eq_true rfl) (Nat.le_of_ble_eq_true rfl) (n_goes (d := d) hS hF hI29 (by have := congrArg Int32.toInt (show FIv25 121 58 = x39 from h40); have := congrArg Int32.toInt (show FIv25 121 58 = x39 from h40); omega) (by have := congrArg Int32.toInt (show FIv25 121 59 = x41 from h42); have := congrArg Int32.toInt (show FIv25 121 59 = x41 from h42); omega)) (fun v48 sv49 p50 => ?_)
              have := congrArg Int32.toInt (show FIv25 121 59 = x41 from h42)
              obtain ⟨r51, rfl, FI52, rfl, hI53, f54, t55, t56, t57, t58⟩ := p50
              have rl59 : rl_p (FI52 143) (FLv26 144) := by rw [show FI52 143 = FIv25 143 from gf_row f54 (c143 hS) (s143 hS) rfl rfl]; exact rl32
              obtain ⟨x60, h61⟩ : ∃ y, FI52 121 58 = y := ⟨_, rfl⟩
              have h61l := congrArg Int32.toInt h61
              have := i_rng x60
              obtain ⟨x62, h63⟩ : ∃ y, FI52 121 46 = y := ⟨_, rfl⟩
              have h63l := congrArg Int32.toInt h63
              have b64 := gI_121_46 hI53; rw [h63] at b64
              obtain ⟨x65, h66⟩ : ∃ y, FI52 121 59 = y := ⟨_, rfl⟩
              have h66l := congrArg Int32.toInt h66
              have := i_rng x65
              show hw sk base _ _ _ _ _ [.int (r51)] _ _
              refine hw_ifeq (tgt := 122) (aX12_store 34 rfl) (by decide) rfl (fun cd67 => ?_) (fun cd67 => ?_)
              · clear t55
                refine hw_aloadn (aX12_store 74 rfl) rfl ?_
                refine hw_ic (v := (0 : Int32)) (aX12_store 75 rfl) (by decide) ?_
                refine hv_puti (aX12_store 76 rfl) wf_RX12_190 (c121 hS) (s121 hS) (by decide) rfl rfl (fun FI68 u69 => ?_)
                have rl70 : rl_p (FI68 143) (FLv26 144) := by rw [show FI68 143 = FI52 143 from up_row u69 (by decide) rfl]; exact rl59
                have hI71 : g_I FI68 := gU_121_13 hI53 u69 (by have := ((by decide : (0 : Int32).toInt = 0) : ((0 : Int32)).toInt = 0); omega) (by have := ((by decide : (0 : Int32).toInt = 0) : ((0 : Int32)).toInt = 0); omega)
                refine xw_iloadn (aX12_store 77 rfl) rfl ?_
                refine xw_iret (aX12_store 78 rfl) rfl rfl ?_
                exact ⟨y2, rfl, FI68, FLv26, rfl, hI71, (gf_f (gf_tr ex_rf fr27 f54 rfl rfl rfl) u69 (by decide)), fr28⟩
              · replace t55 := t55 (by omega)
                refine hw_aloadn (aX12_store 35 rfl) rfl ?_
                refine hw_aloadn (aX12_store 36 rfl) rfl ?_
                refine hw_get (v := .int (x60)) (aX12_store 37 rfl) wf_RX12_402 (c121 hS) (s121 hS) (by decide) (congrArg Value.int (show FI52 121 58 = x60 from h61)) ?_
                refine hw_aloadn (aX12_store 38 rfl) rfl ?_
                refine hw_get (v := .ref (base + 146)) (aX12_store 39 rfl) wf_RX12_93 (c121 hS) (s121 hS) (by decide) (congrArg (fun r => va_rf (h_rf base r)) (r121_51 hF)) ?_
                refine hw_aloadn (aX12_store 40 rfl) rfl ?_
                refine hw_get (v := .int (x60)) (aX12_store 41 rfl) wf_RX12_402 (c121 hS) (s121 hS) (by decide) (congrArg Value.int (show FI52 121 58 = x60 from h61)) ?_
                obtain ⟨x72, h73⟩ : ∃ y, FI52 146 (x60).toNatClampNeg = y := ⟨_, rfl⟩
                have h73l := congrArg Int32.toInt h73
                have := i_rng x72
                refine hw_iald (v := x72) (aX12_store 42 rfl) (c146 hS) (s146 hS) (h_in rfl (by omega) (by omega)) (show FI52 146 (x60).toNatClampNeg = x72 from h73) ?_
                have b74 := gI_146 hI53 (i_lt (x := x60) rfl (by omega) (by omega)); rw [h73] at b74
                refine xw_i2l (aX12_store 43 rfl) ?_
                refine hw_tle (A := (x72).toInt) (i_2l rfl) (fun x75 e76 => ?_)
                refine hw_aloadn (aX12_store 44 rfl) rfl ?_
                refine hw_get (v := .int (x65)) (aX12_store 45 rfl) wf_RX12_405 (c121 hS) (s121 hS) (by decide) (congrArg Value.int (show FI52 121 59 = x65 from h66)) ?_
                refine xw_i2l (aX12_store 46 rfl) ?_
                refine hw_tle (A := (x65).toInt) (i_2l rfl) (fun x77 e78 => ?_)
                refine xw_ladd (aX12_store 47 rfl) ?_
                refine hw_tle (A := ((x72).toInt) + ((x65).toInt)) (l_add e76 e78 (by omega) (by omega)) (fun x79 e80 => ?_)
                refine hw_aloadn (aX12_store 48 rfl) rfl ?_
                refine hw_get (v := .ref (base + 126)) (aX12_store 49 rfl) wf_RX12_30 (c121 hS) (s121 hS) (by decide) (congrArg (fun r => va_rf (h_rf base r)) (r121_12 hF)) ?_
                refine xw_iloadn (aX12_store 50 rfl) rfl ?_
                refine hw_bp (v := (8 : Int32)) (aX12_store 51 rfl) (by decide) ?_
                refine xw_idiv (aX12_store 52 rfl) (i_ne0 (by decide : (8 : Int32).toInt = 8) (by omega)) ?_
                refine hw_tie (A := ((y3).toInt) / (8)) (i_div rfl (by decide : (8 : Int32).toInt = 8) (by omega) (by omega)) (fun x81 e82 => ?_)
                obtain ⟨x83, h84⟩ : ∃ y, FI52 126 (x81).toNatClampNeg = y := ⟨_, rfl⟩
                have h84l := congrArg Int32.toInt h84
                have := i_rng x83
                refine hw_iald (v := x83) (aX12_store 53 rfl) (c126 hS) (s126 hS) (h_in e82 (by omega) (by omega)) (show FI52 126 (x81).toNatClampNeg = x83 from h84) ?_
                have b85 := gI_126 hI53 (i_lt (x := x81) e82 (by omega) (by omega)); rw [h84] at b85
                refine xw_iloadn (aX12_store 54 rfl) rfl ?_
                refine hw_bp (v := (8 : Int32)) (aX12_store 55 rfl) (by decide) ?_
                refine xw_irem (aX12_store 56 rfl) (i_ne0 (by decide : (8 : Int32).toInt = 8) (by omega)) ?_
                refine hw_tie (A := ((y3).toInt) % (8)) (i_rem rfl (by decide : (8 : Int32).toInt = 8) (by omega) (by omega)) (fun x86 e87 => ?_)
                refine xw_ishr (aX12_store 57 rfl) ?_
                refine hw_ti (fun x88 => ?_)
                have b89 := i_rng x88
                refine hw_ic (v := (1 : Int32)) (aX12_store 58 rfl) (by decide) ?_
                refine xw_iand (aX12_store 59 rfl) ?_
                refine hw_tib (lo := 0) (hi := 1) (i_and (x := x88) (m := (1 : Int32)) (M := 1) (by decide) (by decide)) (fun x90 b91 => ?_)
                refine hw_callV (Bs := [.int (x60), .long (x79), .int (x90)]) (rest := []) (aX12_store 60 rfl) wc_RX12_420 (by decide) rfl wi_yX12_puts_ wv_yX12_puts_ (c121 hS) (s121 hS) rfl rfl rfl (Nat.le_of_ble_eq_true rfl) (Nat.le_of_ble_eq_true rfl) (n_puts_ (d := d) hS hF hI53 (x60) (x79) (x90) (by omega) (by have := (e80 : (x79).toInt = ((x72).toInt) + ((x65).toInt)); have := (e80 : (x79).toInt = ((x72).toInt) + ((x65).toInt)); omega) (show rl_p (FI52 143) (FLv26 144) from rl59)) (fun v92 sv93 p94 => ?_)
                obtain ⟨r95, rfl, FI96, FL97, rfl, hI98, f99, f100, t101⟩ := p94
                have rl102 : rl_p (FI96 143) (FL97 144) := by rw [show FI96 143 = FI52 143 from gf_row f99 (c143 hS) (s143 hS) rfl rfl, show FL97 144 = FLv26 144 from gf_row f100 (c144 hS) (s144 hS) rfl rfl]; exact rl59
                show hw sk base _ _ _ _ _ [.int (r95)] _ _
                refine hw_ifeq (tgt := 106) (aX12_store 61 rfl) (by decide) rfl (fun cd103 => ?_) (fun cd103 => ?_)
                · refine hw_aloadn (aX12_store 66 rfl) rfl ?_
                  refine hw_aloadn (aX12_store 67 rfl) rfl ?_
                  refine hw_get (v := .int (x65)) (aX12_store 68 rfl) wf_RX12_405 (c121 hS) (s121 hS) (by decide) (congrArg Value.int (show FI96 121 59 = x65 from (gf_at f99 (c121 hS) (s121 hS) rfl (h66)))) ?_
                  refine hw_ic (v := (1 : Int32)) (aX12_store 69 rfl) (by decide) ?_
                  refine xw_iadd (aX12_store 70 rfl) ?_
                  refine hw_tie (A := ((x65).toInt) + (1)) (i_add rfl (by decide : (1 : Int32).toInt = 1) (by omega) (by omega)) (fun x104 e105 => ?_)
                  refine hv_puti (aX12_store 71 rfl) wf_RX12_405 (c121 hS) (s121 hS) (by decide) rfl rfl (fun FI106 u107 => ?_)
                  have rl108 : rl_p (FI106 143) (FL97 144) := by rw [show FI106 143 = FI96 143 from up_row u107 (by decide) rfl]; exact rl102
                  have hI109 : g_I FI106 := gU_F hI98 u107 rfl
                  obtain ⟨x110, q112⟩ : ∃ y : Int32, (y3) + Int32.ofInt (1) = y := ⟨_, rfl⟩
                  have e111 : (x110).toInt = (y3).toInt + (1) := by rw [← q112]; exact i_add rfl (by decide) (by omega) (by omega)
                  refine xw_iinc (L2 := [(3, .int (x110)), (2, .int (y2)), (0, .ref (base + 121)), (1, .int (a1))]) (aX12_store 72 rfl) rfl (by decide) (by rw [q112]; rfl) ?_
                  refine xw_goto (tgt := 47) (aX12_store 73 rfl) (by decide) ?_
                  exact hw_L (ih (x110) (y2) FI106 FL97 (gf_f (gf_tr ex_rf (gf_tr ex_rf fr27 f54 rfl rfl rfl) f99 rfl rfl rfl) u107 (by decide)) (gf_tr ex_rf fr28 f100 rfl rfl rfl) hI109 (show FI106 121 0 = (0 : Int32) from (up_k u107 (by decide) ((gf_at f99 (c121 hS) (s121 hS) rfl ((gf_at f54 (c121 hS) (s121 hS) rfl (kp30))))))) (show FI106 121 13 = x9 from (up_k u107 (by decide) ((gf_at f99 (c121 hS) (s121 hS) rfl ((gf_at f54 (c121 hS) (s121 hS) rfl (kp31))))))) (show rl_p (FI106 143) (FL97 144) from rl108) (by have := (e111 : (x110).toInt = (y3).toInt + (1)); omega) (by have := (e111 : (x110).toInt = (y3).toInt + (1)); have := congrArg Int32.toInt (show FI106 121 58 = x60 from (up_k u107 (by decide) ((gf_at f99 (c121 hS) (s121 hS) rfl (h61))))); omega) (by have := (e111 : (x110).toInt = (y3).toInt + (1)); have := congrArg Int32.toInt (show FI106 121 59 = x104 from up_eq u107); have := (e105 : (x104).toInt = ((x65).toInt) + (1)); omega) (by have := (e111 : (x110).toInt = (y3).toInt + (1)); omega) (by have := (e111 : (x110).toInt = (y3).toInt + (1)); have := congrArg Int32.toInt (show FI106 121 59 = x104 from up_eq u107); have := (e105 : (x104).toInt = ((x65).toInt) + (1)); omega) (by have := (e111 : (x110).toInt = (y3).toInt + (1)); omega)) ⟨rfl, rfl, rfl, rfl, trivial⟩
                · refine xw_iloadn (aX12_store 62 rfl) rfl ?_
                  refine hw_ic (v := (1 : Int32)) (aX12_store 63 rfl) (by decide) ?_
                  refine xw_iadd (aX12_store 64 rfl) ?_
                  refine hw_ti (fun x113 => ?_)
                  have b114 := i_rng x113
                  refine xw_istoren (L2 := [(2, .int (x113)), (3, .int (y3)), (0, .ref (base + 121)), (1, .int (a1))]) (aX12_store 65 rfl) (by decide) rfl ?_
                  refine hw_aloadn (aX12_store 66 rfl) rfl ?_
                  refine hw_aloadn (aX12_store 67 rfl) rfl ?_
                  refine hw_get (v := .int (x65)) (aX12_store 68 rfl) wf_RX12_405 (c121 hS) (s121 hS) (by decide) (congrArg Value.int (show FI96 121 59 = x65 from (gf_at f99 (c121 hS) (s121 hS) rfl (h66)))) ?_
                  refine hw_ic (v := (1 : Int32)) (aX12_store 69 rfl) (by decide) ?_
                  refine xw_iadd (aX12_store 70 rfl) ?_
                  refine hw_tie (A := ((x65).toInt) + (1)) (i_add rfl (by decide : (1 : Int32).toInt = 1) (by omega) (by omega)) (fun x115 e116 => ?_)
                  refine hv_puti (aX12_store 71 rfl) wf_RX12_405 (c121 hS) (s121 hS) (by decide) rfl rfl (fun FI117 u118 => ?_)
                  have rl119 : rl_p (FI117 143) (FL97 144) := by rw [show FI117 143 = FI96 143 from up_row u118 (by decide) rfl]; exact rl102
                  have hI120 : g_I FI117 := gU_F hI98 u118 rfl
                  obtain ⟨x121, q123⟩ : ∃ y : Int32, (y3) + Int32.ofInt (1) = y := ⟨_, rfl⟩
                  have e122 : (x121).toInt = (y3).toInt + (1) := by rw [← q123]; exact i_add rfl (by decide) (by omega) (by omega)
                  refine xw_iinc (L2 := [(3, .int (x121)), (2, .int (x113)), (0, .ref (base + 121)), (1, .int (a1))]) (aX12_store 72 rfl) rfl (by decide) (by rw [q123]; rfl) ?_
                  refine xw_goto (tgt := 47) (aX12_store 73 rfl) (by decide) ?_
                  exact hw_L (ih (x121) (x113) FI117 FL97 (gf_f (gf_tr ex_rf (gf_tr ex_rf fr27 f54 rfl rfl rfl) f99 rfl rfl rfl) u118 (by decide)) (gf_tr ex_rf fr28 f100 rfl rfl rfl) hI120 (show FI117 121 0 = (0 : Int32) from (up_k u118 (by decide) ((gf_at f99 (c121 hS) (s121 hS) rfl ((gf_at f54 (c121 hS) (s121 hS) rfl (kp30))))))) (show FI117 121 13 = x9 from (up_k u118 (by decide) ((gf_at f99 (c121 hS) (s121 hS) rfl ((gf_at f54 (c121 hS) (s121 hS) rfl (kp31))))))) (show rl_p (FI117 143) (FL97 144) from rl119) (by have := (e122 : (x121).toInt = (y3).toInt + (1)); omega) (by have := (e122 : (x121).toInt = (y3).toInt + (1)); have := congrArg Int32.toInt (show FI117 121 58 = x60 from (up_k u118 (by decide) ((gf_at f99 (c121 hS) (s121 hS) rfl (h61))))); omega) (by have := (e122 : (x121).toInt = (y3).toInt + (1)); have := congrArg Int32.toInt (show FI117 121 59 = x115 from up_eq u118); have := (e116 : (x115).toInt = ((x65).toInt) + (1)); omega) (by have := (e122 : (x121).toInt = (y3).toInt + (1)); omega) (by have := (e122 : (x121).toInt = (y3).toInt + (1)); have := congrArg Int32.toInt (show FI117 121 59 = x115 from up_eq u118); have := (e116 : (x115).toInt = ((x65).toInt) + (1)); omega) (by have := (e122 : (x121).toInt = (y3).toInt + (1)); omega)) ⟨rfl, rfl, rfl, rfl, trivial⟩
        exact hw_L (lp38 (((a1).toInt - 0 : Int).toNat + 1) ((0 : Int32)) ((0 : Int32)) FI21 FL (gf_f (gf_f (gf_f gf_rf u2 (by decide)) u18 (by decide)) u22 (by decide)) gf_rf hI24 (show FI21 121 0 = (0 : Int32) from (up_k u22 (by decide) ((up_k u18 (by decide) (up_eq u2))))) (show FI21 121 13 = x9 from (up_k u22 (by decide) ((up_k u18 (by decide) (h10))))) (show rl_p (FI21 143) (FL 144) from rl23) (by have := ((by decide : (0 : Int32).toInt = 0) : ((0 : Int32)).toInt = 0); have := ((by decide : (0 : Int32).toInt = 0) : ((0 : Int32)).toInt = 0); omega) (by have := ((by decide : (0 : Int32).toInt = 0) : ((0 : Int32)).toInt = 0); have := ((by decide : (0 : Int32).toInt = 0) : ((0 : Int32)).toInt = 0); have := congrArg Int32.toInt (show FI21 121 58 = (0 : Int32) from (up_k u22 (by decide) (up_eq u18))); have := ((by decide : (0 : Int32).toInt = 0) : ((0 : Int32)).toInt = 0); omega) (by have := ((by decide : (0 : Int32).toInt = 0) : ((0 : Int32)).toInt = 0); have := ((by decide : (0 : Int32).toInt = 0) : ((0 : Int32)).toInt = 0); have := congrArg Int32.toInt (show FI21 121 59 = (0 : Int32) from up_eq u22); have := ((by decide : (0 : Int32).toInt = 0) : ((0 : Int32)).toInt = 0); omega) (by have := ((by decide : (0 : Int32).toInt = 0) : ((0 : Int32)).toInt = 0); have := ((by decide : (0 : Int32).toInt = 0) : ((0 : Int32)).toInt = 0); omega) (by have := ((by decide : (0 : Int32).toInt = 0) : ((0 : Int32)).toInt = 0); have := ((by decide : (0 : Int32).toInt = 0) : ((0 : Int32)).toInt = 0); have := congrArg Int32.toInt (show FI21 121 59 = (0 : Int32) from up_eq u22); have := ((by decide : (0 : Int32).toInt = 0) : ((0 : Int32)).toInt = 0); omega) (by have := ((by decide : (0 : Int32).toInt = 0) : ((0 : Int32)).toInt = 0); have := ((by decide : (0 : Int32).toInt = 0) : ((0 : Int32)).toInt = 0); omega)) ⟨rfl, rfl, rfl, rfl, trivial⟩
      · refine hw_ic (v := ((-1) : Int32)) (aX12_store 17 rfl) (by decide) ?_
        refine xw_iret (aX12_store 18 rfl) rfl rfl ?_
        have e124 : (((-1) : Int32)).toInt = (-1) := (by decide : ((-1) : Int32).toInt = (-1))
        exact ⟨((-1) : Int32), rfl, FI1, FL, rfl, hI4, (gf_f gf_rf u2 (by decide)), gf_rf⟩
def nX12_part_ : Nat := 0xade20014ad852e646410601c681b5802116000b42a14009c942f1b5700b42a856464101c2300a0072e1b5400b42a2d00a164101cad852e1b5d00b42a0b00a0061cad852e1b5a00b42a0b00a0051cad2f1b5700b42a0a00a0041cad852e1b5400b42a0b009a1cade200140700a15100b42a1b0b009b1bbb00b5032a
theorem bX12_part_ : cX12_part_.data.toList.map UInt8.toNat = x_un nX12_part_ 123 := by decide +kernel
def iX12_part_ : List (Nat × Jvm.ClassFile.Instr × Nat) := [(0, .aload_n 0, 1), (1, .iconst 0, 1), (2, .putfield 187, 3), (5, .iload_n 1, 1), (6, .ifCond .lt 11, 3), (9, .iload_n 1, 1), (10, .aload_n 0, 1), (11, .getfield 81, 3), (14, .if_icmp .lt 7, 3), (17, .ldc2_w 226, 3), (20, .lreturn, 1), (21, .iload_n 2, 1), (22, .ifCond .ne 11, 3), (25, .aload_n 0, 1), (26, .getfield 84, 3), (29, .iload_n 1, 1), (30, .iaload, 1), (31, .i2l, 1), (32, .lreturn, 1), (33, .iload_n 2, 1), (34, .iconst 1, 1), (35, .if_icmp .ne 10, 3), (38, .aload_n 0, 1), (39, .getfield 87, 3), (42, .iload_n 1, 1), (43, .laload, 1), (44, .lreturn, 1), (45, .iload_n 2, 1), (46, .iconst 2, 1), (47, .if_icmp .ne 11, 3), (50, .aload_n 0, 1), (51, .getfield 90, 3), (54, .iload_n 1, 1), (55, .iaload, 1), (56, .i2l, 1), (57, .lreturn, 1), (58, .iload_n 2, 1), (59, .iconst 3, 1), (60, .if_icmp .ne 11, 3), (63, .aload_n 0, 1), (64, .getfield 93, 3), (67, .iload_n 1, 1), (68, .iaload, 1), (69, .i2l, 1), (70, .lreturn, 1), (71, .iload_n 2, 1), (72, .bipush 100, 2), (74, .if_icmp .lt 45, 3), (77, .aload_n 0, 1), (78, .getfield 84, 3), (81, .iload_n 1, 1), (82, .iaload, 1), (83, .iconst 4, 1), (84, .if_icmp .ne 35, 3), (87, .iload_n 2, 1), (88, .bipush 100, 2), (90, .isub, 1), (91, .i2l, 1), (92, .aload_n 0, 1), (93, .getfield 87, 3), (96, .iload_n 1, 1), (97, .laload, 1), (98, .lcmp, 1), (99, .ifCond .ge 20, 3), (102, .aload_n 0, 1), (103, .getfield 96, 3), (106, .sipush 600, 3), (109, .iload_n 1, 1), (110, .imul, 1), (111, .iload_n 2, 1), (112, .iadd, 1), (113, .bipush 100, 2), (115, .isub, 1), (116, .iaload, 1), (117, .i2l, 1), (118, .lreturn, 1), (119, .ldc2_w 226, 3), (122, .lreturn, 1)]
theorem dX12_part_ : x_il nX12_part_ 123 iX12_part_ = true := by decide +kernel
theorem aX12_part_ (k : Nat) {pc : Nat} {i : Jvm.ClassFile.Instr} {len : Nat} (hk : iX12_part_[k]? = some (pc, i, len)) : x_at xMM 199 pc i len yX12_part_ 3 (some .long) := ⟨cX12_part_, rfl, x_il_ok bX12_part_ dX12_part_ k hk⟩
set_option maxHeartbeats 4000000 in
set_option maxRecDepth 100000 in
theorem n_part_ {sk : xK} {base d n sl : Nat} {SH : Nat → Nat × Nat} {FI : Nat → Nat → Int32} {FL : Nat → Nat → Int64} {FR : Nat → Nat → Option Nat} (hS : h_S n SH) (hF : h_FR FR) (hI : g_I FI) (a1 : Int32) (a2 : Int32) (rel_part : rl_p (FI 143) (FL 144)) : hw sk base d none 199 0 [(0, .ref (base + 121)), (1, .int (a1)), (2, .int (a2))] [] (n, sl, SH, FI, FL, FR) (h_J (fun r s => ∃ FI', s = (n, sl, SH, FI', FL, FR) ∧ g_I FI' ∧ g_fr n SH [(121, 0)] [] [] FI FI')) := by
  have rg_a1 := i_rng a1
  have rg_a2 := i_rng a2
  refine hw_aloadn (aX12_part_ 0 rfl) rfl ?_
  refine hw_ic (v := (0 : Int32)) (aX12_part_ 1 rfl) (by decide) ?_
  refine hv_puti (aX12_part_ 2 rfl) wf_RX12_187 (c121 hS) (s121 hS) (by decide) rfl rfl (fun FI1 u2 => ?_)
  have rl3 : rl_p (FI1 143) (FL 144) := by rw [show FI1 143 = FI 143 from up_row u2 (by decide) rfl]; exact rel_part
  have hI4 : g_I FI1 := gU_F hI u2 rfl
  refine xw_iloadn (aX12_part_ 3 rfl) rfl ?_
  refine hw_iflt (tgt := 17) (aX12_part_ 4 rfl) (by decide) rfl (fun cd5 => ?_) (fun cd5 => ?_)
  · refine xw_ldc2 (aX12_part_ 9 rfl) wk_RX12_226 ?_
    refine xw_lret (aX12_part_ 10 rfl) rfl ?_
    have e6 : (((-1) : Int64)).toInt = (-1) := (by decide : ((-1) : Int64).toInt = (-1))
    exact ⟨((-1) : Int64), rfl, FI1, rfl, hI4, (gf_f gf_rf u2 (by decide))⟩
  · refine xw_iloadn (aX12_part_ 5 rfl) rfl ?_
    refine hw_aloadn (aX12_part_ 6 rfl) rfl ?_
    obtain ⟨x7, h8⟩ : ∃ y, FI1 121 46 = y := ⟨_, rfl⟩
    have h8l := congrArg Int32.toInt h8
    have b9 := gI_121_46 hI4; rw [h8] at b9
    refine hw_get (v := .int (x7)) (aX12_part_ 7 rfl) wf_RX12_81 (c121 hS) (s121 hS) (by decide) (congrArg Value.int (show FI1 121 46 = x7 from h8)) ?_
    refine hw_iclt (tgt := 21) (aX12_part_ 8 rfl) (by decide) rfl rfl (fun cd10 => ?_) (fun cd10 => ?_)
    · refine xw_iloadn (aX12_part_ 11 rfl) rfl ?_
      refine hw_ifne (tgt := 33) (aX12_part_ 12 rfl) (by decide) rfl (fun cd11 => ?_) (fun cd11 => ?_)
      · refine xw_iloadn (aX12_part_ 19 rfl) rfl ?_
        refine hw_ic (v := (1 : Int32)) (aX12_part_ 20 rfl) (by decide) ?_
        refine hw_icne (tgt := 45) (aX12_part_ 21 rfl) (by decide) rfl (by decide : (1 : Int32).toInt = 1) (fun cd12 => ?_) (fun cd12 => ?_)
        · refine xw_iloadn (aX12_part_ 27 rfl) rfl ?_
          refine hw_ic (v := (2 : Int32)) (aX12_part_ 28 rfl) (by decide) ?_
          refine hw_icne (tgt := 58) (aX12_part_ 29 rfl) (by decide) rfl (by decide : (2 : Int32).toInt = 2) (fun cd13 => ?_) (fun cd13 => ?_)
          · refine xw_iloadn (aX12_part_ 36 rfl) rfl ?_
            refine hw_ic (v := (3 : Int32)) (aX12_part_ 37 rfl) (by decide) ?_
            refine hw_icne (tgt := 71) (aX12_part_ 38 rfl) (by decide) rfl (by decide : (3 : Int32).toInt = 3) (fun cd14 => ?_) (fun cd14 => ?_)
            · refine xw_iloadn (aX12_part_ 45 rfl) rfl ?_
              refine hw_bp (v := (100 : Int32)) (aX12_part_ 46 rfl) (by decide) ?_
              refine hw_iclt (tgt := 119) (aX12_part_ 47 rfl) (by decide) rfl (by decide : (100 : Int32).toInt = 100) (fun cd15 => ?_) (fun cd15 => ?_)
              · refine xw_ldc2 (aX12_part_ 76 rfl) wk_RX12_226 ?_
                refine xw_lret (aX12_part_ 77 rfl) rfl ?_
                have e16 : (((-1) : Int64)).toInt = (-1) := (by decide : ((-1) : Int64).toInt = (-1))
                exact ⟨((-1) : Int64), rfl, FI1, rfl, hI4, (gf_f gf_rf u2 (by decide))⟩
              · refine hw_aloadn (aX12_part_ 48 rfl) rfl ?_
                refine hw_get (v := .ref (base + 143)) (aX12_part_ 49 rfl) wf_RX12_84 (c121 hS) (s121 hS) (by decide) (congrArg (fun r => va_rf (h_rf base r)) (r121_48 hF)) ?_
                refine xw_iloadn (aX12_part_ 50 rfl) rfl ?_
                obtain ⟨x17, h18⟩ : ∃ y, FI1 143 (a1).toNatClampNeg = y := ⟨_, rfl⟩
                have h18l := congrArg Int32.toInt h18
                have := i_rng x17
                refine hw_iald (v := x17) (aX12_part_ 51 rfl) (c143 hS) (s143 hS) (h_in rfl (by omega) (by omega)) (show FI1 143 (a1).toNatClampNeg = x17 from h18) ?_
                refine hw_ic (v := (4 : Int32)) (aX12_part_ 52 rfl) (by decide) ?_
                refine hw_icne (tgt := 119) (aX12_part_ 53 rfl) (by decide) rfl (by decide : (4 : Int32).toInt = 4) (fun cd19 => ?_) (fun cd19 => ?_)
                · refine xw_ldc2 (aX12_part_ 76 rfl) wk_RX12_226 ?_
                  refine xw_lret (aX12_part_ 77 rfl) rfl ?_
                  have e20 : (((-1) : Int64)).toInt = (-1) := (by decide : ((-1) : Int64).toInt = (-1))
                  exact ⟨((-1) : Int64), rfl, FI1, rfl, hI4, (gf_f gf_rf u2 (by decide))⟩
                · refine xw_iloadn (aX12_part_ 54 rfl) rfl ?_
                  refine hw_bp (v := (100 : Int32)) (aX12_part_ 55 rfl) (by decide) ?_
                  refine xw_isub (aX12_part_ 56 rfl) ?_
                  refine hw_tie (A := ((a2).toInt) - (100)) (i_sub rfl (by decide : (100 : Int32).toInt = 100) (by omega) (by omega)) (fun x21 e22 => ?_)
                  refine xw_i2l (aX12_part_ 57 rfl) ?_
                  refine hw_tle (A := ((a2).toInt) - (100)) (i_2l e22) (fun x23 e24 => ?_)
                  refine hw_aloadn (aX12_part_ 58 rfl) rfl ?_
                  refine hw_get (v := .ref (base + 144)) (aX12_part_ 59 rfl) wf_RX12_87 (c121 hS) (s121 hS) (by decide) (congrArg (fun r => va_rf (h_rf base r)) (r121_49 hF)) ?_
                  refine xw_iloadn (aX12_part_ 60 rfl) rfl ?_
                  obtain ⟨x25, h26⟩ : ∃ y, FL 144 (a1).toNatClampNeg = y := ⟨_, rfl⟩
                  have h26l := congrArg Int64.toInt h26
                  have := l_rng x25
                  refine hw_lald (v := x25) (aX12_part_ 61 rfl) (c144 hS) (s144 hS) (h_in rfl (by omega) (by omega)) (show FL 144 (a1).toNatClampNeg = x25 from h26) ?_
                  refine hw_lcge (tgt := 119) (aX12_part_ 62 rfl) (aX12_part_ 63 rfl) (by decide) e24 rfl (fun cd27 => ?_) (fun cd27 => ?_)
                  · refine xw_ldc2 (aX12_part_ 76 rfl) wk_RX12_226 ?_
                    refine xw_lret (aX12_part_ 77 rfl) rfl ?_
                    have e28 : (((-1) : Int64)).toInt = (-1) := (by decide : ((-1) : Int64).toInt = (-1))
                    exact ⟨((-1) : Int64), rfl, FI1, rfl, hI4, (gf_f gf_rf u2 (by decide))⟩
                  · have hq := rl3 (a1).toNatClampNeg (i_lt (rfl : (a1).toInt = _) (by omega) (by omega))
                    have e29 : 100 ≤ (a2).toInt ∧ (a2).toInt ≤ 699 := by omega
                    refine hw_aloadn (aX12_part_ 64 rfl) rfl ?_
                    refine hw_get (v := .ref (base + 147)) (aX12_part_ 65 rfl) wf_RX12_96 (c121 hS) (s121 hS) (by decide) (congrArg (fun r => va_rf (h_rf base r)) (r121_52 hF)) ?_
                    refine hw_sp (v := (600 : Int32)) (aX12_part_ 66 rfl) (by decide) ?_
                    refine xw_iloadn (aX12_part_ 67 rfl) rfl ?_
                    refine xw_imul (aX12_part_ 68 rfl) ?_
                    refine hw_tie (A := (600) * ((a1).toInt)) (i_mul (by decide : (600 : Int32).toInt = 600) rfl (by omega) (by omega)) (fun x30 e31 => ?_)
                    refine xw_iloadn (aX12_part_ 69 rfl) rfl ?_
                    refine xw_iadd (aX12_part_ 70 rfl) ?_
                    refine hw_tie (A := ((600) * ((a1).toInt)) + ((a2).toInt)) (i_add e31 rfl (by omega) (by omega)) (fun x32 e33 => ?_)
                    refine hw_bp (v := (100 : Int32)) (aX12_part_ 71 rfl) (by decide) ?_
                    refine xw_isub (aX12_part_ 72 rfl) ?_
                    refine hw_tie (A := (((600) * ((a1).toInt)) + ((a2).toInt)) - (100)) (i_sub e33 (by decide : (100 : Int32).toInt = 100) (by omega) (by omega)) (fun x34 e35 => ?_)
                    obtain ⟨x36, h37⟩ : ∃ y, FI1 147 (x34).toNatClampNeg = y := ⟨_, rfl⟩
                    have h37l := congrArg Int32.toInt h37
                    have := i_rng x36
                    refine hw_iald (v := x36) (aX12_part_ 73 rfl) (c147 hS) (s147 hS) (h_in e35 (by omega) (by omega)) (show FI1 147 (x34).toNatClampNeg = x36 from h37) ?_
                    refine xw_i2l (aX12_part_ 74 rfl) ?_
                    refine hw_tle (A := (x36).toInt) (i_2l rfl) (fun x38 e39 => ?_)
                    refine xw_lret (aX12_part_ 75 rfl) rfl ?_
                    have e40 : (x38).toInt = (x36).toInt := e39
                    exact ⟨x38, rfl, FI1, rfl, hI4, (gf_f gf_rf u2 (by decide))⟩
            · refine hw_aloadn (aX12_part_ 39 rfl) rfl ?_
              refine hw_get (v := .ref (base + 146)) (aX12_part_ 40 rfl) wf_RX12_93 (c121 hS) (s121 hS) (by decide) (congrArg (fun r => va_rf (h_rf base r)) (r121_51 hF)) ?_
              refine xw_iloadn (aX12_part_ 41 rfl) rfl ?_
              obtain ⟨x41, h42⟩ : ∃ y, FI1 146 (a1).toNatClampNeg = y := ⟨_, rfl⟩
              have h42l := congrArg Int32.toInt h42
              have := i_rng x41
              refine hw_iald (v := x41) (aX12_part_ 42 rfl) (c146 hS) (s146 hS) (h_in rfl (by omega) (by omega)) (show FI1 146 (a1).toNatClampNeg = x41 from h42) ?_
              have b43 := gI_146 hI4 (i_lt (x := a1) rfl (by omega) (by omega)); rw [h42] at b43
              refine xw_i2l (aX12_part_ 43 rfl) ?_
              refine hw_tle (A := (x41).toInt) (i_2l rfl) (fun x44 e45 => ?_)
              refine xw_lret (aX12_part_ 44 rfl) rfl ?_
              have e46 : (x44).toInt = (x41).toInt := e45
              exact ⟨x44, rfl, FI1, rfl, hI4, (gf_f gf_rf u2 (by decide))⟩
          · refine hw_aloadn (aX12_part_ 30 rfl) rfl ?_
            refine hw_get (v := .ref (base + 145)) (aX12_part_ 31 rfl) wf_RX12_90 (c121 hS) (s121 hS) (by decide) (congrArg (fun r => va_rf (h_rf base r)) (r121_50 hF)) ?_
            refine xw_iloadn (aX12_part_ 32 rfl) rfl ?_
            obtain ⟨x47, h48⟩ : ∃ y, FI1 145 (a1).toNatClampNeg = y := ⟨_, rfl⟩
            have h48l := congrArg Int32.toInt h48
            have := i_rng x47
            refine hw_iald (v := x47) (aX12_part_ 33 rfl) (c145 hS) (s145 hS) (h_in rfl (by omega) (by omega)) (show FI1 145 (a1).toNatClampNeg = x47 from h48) ?_
            refine xw_i2l (aX12_part_ 34 rfl) ?_
            refine hw_tle (A := (x47).toInt) (i_2l rfl) (fun x49 e50 => ?_)
            refine xw_lret (aX12_part_ 35 rfl) rfl ?_
            have e51 : (x49).toInt = (x47).toInt := e50
            exact ⟨x49, rfl, FI1, rfl, hI4, (gf_f gf_rf u2 (by decide))⟩
        · refine hw_aloadn (aX12_part_ 22 rfl) rfl ?_
          refine hw_get (v := .ref (base + 144)) (aX12_part_ 23 rfl) wf_RX12_87 (c121 hS) (s121 hS) (by decide) (congrArg (fun r => va_rf (h_rf base r)) (r121_49 hF)) ?_
          refine xw_iloadn (aX12_part_ 24 rfl) rfl ?_
          obtain ⟨x52, h53⟩ : ∃ y, FL 144 (a1).toNatClampNeg = y := ⟨_, rfl⟩
          have h53l := congrArg Int64.toInt h53
          have := l_rng x52
          refine hw_lald (v := x52) (aX12_part_ 25 rfl) (c144 hS) (s144 hS) (h_in rfl (by omega) (by omega)) (show FL 144 (a1).toNatClampNeg = x52 from h53) ?_
          refine xw_lret (aX12_part_ 26 rfl) rfl ?_
          exact ⟨x52, rfl, FI1, rfl, hI4, (gf_f gf_rf u2 (by decide))⟩
      · refine hw_aloadn (aX12_part_ 13 rfl) rfl ?_
        refine hw_get (v := .ref (base + 143)) (aX12_part_ 14 rfl) wf_RX12_84 (c121 hS) (s121 hS) (by decide) (congrArg (fun r => va_rf (h_rf base r)) (r121_48 hF)) ?_
        refine xw_iloadn (aX12_part_ 15 rfl) rfl ?_
        obtain ⟨x54, h55⟩ : ∃ y, FI1 143 (a1).toNatClampNeg = y := ⟨_, rfl⟩
        have h55l := congrArg Int32.toInt h55
        have := i_rng x54
        refine hw_iald (v := x54) (aX12_part_ 16 rfl) (c143 hS) (s143 hS) (h_in rfl (by omega) (by omega)) (show FI1 143 (a1).toNatClampNeg = x54 from h55) ?_
        refine xw_i2l (aX12_part_ 17 rfl) ?_
        refine hw_tle (A := (x54).toInt) (i_2l rfl) (fun x56 e57 => ?_)
        refine xw_lret (aX12_part_ 18 rfl) rfl ?_
        have e58 : (x56).toInt = (x54).toInt := e57
        exact ⟨x56, rfl, FI1, rfl, hI4, (gf_f gf_rf u2 (by decide))⟩
    · refine xw_ldc2 (aX12_part_ 9 rfl) wk_RX12_226 ?_
      refine xw_lret (aX12_part_ 10 rfl) rfl ?_
      have e59 : (((-1) : Int64)).toInt = (-1) := (by decide : ((-1) : Int64).toInt = (-1))
      exact ⟨((-1) : Int64), rfl, FI1, rfl, hI4, (gf_f gf_rf u2 (by decide))⟩
