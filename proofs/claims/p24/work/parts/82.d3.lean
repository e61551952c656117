section
set_option maxHeartbeats 4000000 in
set_option maxRecDepth 100000 in
theorem k_base48 {sk : xK} {base d n sl : Nat} {SH : Nat → Nat × Nat} {FI : Nat → Nat → Int32} {FL : Nat → Nat → Int64} {FR : Nat → Nat → Option Nat} (hS : h_S n SH) (hF : h_FR FR) (hI : g_I FI) (hR : g_R n SH FR) (a1 : Int32) (a2 : Int32) (a3 : Int32) (g0 : 0 ≤ (a3).toInt ∧ (a3).toInt ≤ 8) : hw sk base (d + 55) none 110 0 [(0, .ref (base + 48)), (1, .int (a1)), (2, .int (a2)), (3, .int (a3))] [] (n, sl, SH, FI, FL, FR) (h_I (fun r s => ∃ FI' FL' FR', s = (n, sl, SH, FI', FL', FR') ∧ g_I FI' ∧ g_fr n (shd SH) [(48, 5), (48, 6), (48, 7), (48, 8), (48, 9), (48, 10), (48, 11), (49, 5), (49, 6), (49, 7), (49, 8), (49, 9), (49, 10), (49, 11)] [] [5, 8, 9] FI FI' ∧ g_fr n (shd SH) [(48, 12), (48, 13), (48, 14), (48, 15), (49, 12), (49, 13), (49, 14), (49, 15)] [] [5, 9, 101] FL FL' ∧ g_fr n (shd SH) [] [] [5] FR FR' ∧ h_FR FR' ∧ g_R n SH FR')) := by
  have rg_a1 := i_rng a1
  have rg_a2 := i_rng a2
  have rg_a3 := i_rng a3
  refine hw_aloadn (aX9_base 0 rfl) rfl ?_
  refine hw_get (v := .ref (base + 23)) (aX9_base 1 rfl) wf_RX9_29 (c48 hS) (s48 hS) (by decide) (congrArg (fun r => va_rf (h_rf base r)) (r48_0 hF)) ?_
  obtain ⟨x1, h2⟩ : ∃ y, FI 23 4 = y := ⟨_, rfl⟩
  have h2l := congrArg Int32.toInt h2
  have b3 := gI_23_4 hI; rw [h2] at b3
  refine hw_get (v := .int (x1)) (aX9_base 2 rfl) wf_RX9_252 (c23 hS) (s23 hS) (by decide) (congrArg Value.int (show FI 23 4 = x1 from h2)) ?_
  refine xw_istore (L2 := [(4, .int (x1)), (0, .ref (base + 48)), (1, .int (a1)), (2, .int (a2)), (3, .int (a3))]) (aX9_base 3 rfl) (by decide) rfl ?_
  refine hw_aloadn (aX9_base 4 rfl) rfl ?_
  refine hw_get (v := .ref (base + 49)) (aX9_base 5 rfl) wf_RX9_33 (c48 hS) (s48 hS) (by decide) (congrArg (fun r => va_rf (h_rf base r)) (r48_1 hF)) ?_
  refine xw_ifnull (v := some (base + 49)) (tgt := 34) (aX9_base 6 rfl) (by decide) (fun hn4 => ?_) (fun hn4 => ?_)
  · exact absurd hn4 (by simp)
  · refine xw_iload (aX9_base 7 rfl) rfl ?_
    refine hw_iflt (tgt := 34) (aX9_base 8 rfl) (by decide) rfl (fun cd5 => ?_) (fun cd5 => ?_)
    · refine hw_bp (v := (11 : Int32)) (aX9_base 15 rfl) (by decide) ?_
      refine xw_iret (aX9_base 16 rfl) rfl rfl ?_
      have e6 : ((11 : Int32)).toInt = 11 := (by decide : (11 : Int32).toInt = 11)
      exact ⟨(11 : Int32), rfl, FI, FL, FR, rfl, hI, gf_rf, gf_rf, gf_rf, hF, hR⟩
    · refine xw_iload (aX9_base 9 rfl) rfl ?_
      refine hw_aloadn (aX9_base 10 rfl) rfl ?_
      refine hw_get (v := .ref (base + 23)) (aX9_base 11 rfl) wf_RX9_29 (c48 hS) (s48 hS) (by decide) (congrArg (fun r => va_rf (h_rf base r)) (r48_0 hF)) ?_
      refine hw_get (v := .ref (base + 26)) (aX9_base 12 rfl) wf_RX9_154 (c23 hS) (s23 hS) (by decide) (congrArg (fun r => va_rf (h_rf base r)) (r23_2 hF)) ?_
      refine hw_alen (k := 6) (z := 16) (v := (16 : Int32)) (aX9_base 13 rfl) (c26 hS) (s26 hS) (by decide) (by decide) ?_
      refine hw_iclt (tgt := 37) (aX9_base 14 rfl) (by decide) rfl (by decide : (16 : Int32).toInt = 16) (fun cd7 => ?_) (fun cd7 => ?_)
      · refine hw_aloadn (aX9_base 17 rfl) rfl ?_
        refine hw_get (v := .ref (base + 23)) (aX9_base 18 rfl) wf_RX9_29 (c48 hS) (s48 hS) (by decide) (congrArg (fun r => va_rf (h_rf base r)) (r48_0 hF)) ?_
        refine hw_get (v := .ref (base + 26)) (aX9_base 19 rfl) wf_RX9_154 (c23 hS) (s23 hS) (by decide) (congrArg (fun r => va_rf (h_rf base r)) (r23_2 hF)) ?_
        refine xw_iload (aX9_base 20 rfl) rfl ?_
        obtain ⟨o8, h9⟩ : ∃ y, FR 26 (x1).toNatClampNeg = y := ⟨_, rfl⟩
        have ht10 : ∀ r, o8 = some r → r < n ∧ own r ∧ SH r = (100, (SH r).2) := fun r e => gR_get hR (c26 hS) (Or.inl (by decide)) (s26 hS) (h9.trans e)
        obtain ⟨r11, rfl⟩ := gR_nn hR (show g_nn 26 _ by have := i_lt (x := x1) (N := 16) rfl (by omega) (by omega); unfold g_nn; omega) h9
        obtain ⟨lt12, ow13, sh14⟩ := ht10 r11 rfl
        refine hw_aald (k := 6) (v := some (r11)) (aX9_base 21 rfl) (c26 hS) (s26 hS) (by decide) (by decide) (h_in rfl (by omega) (by omega)) (show FR 26 (x1).toNatClampNeg = some (r11) from h9) ?_
        refine hw_astore (L2 := [(5, .ref (base + r11)), (4, .int (x1)), (0, .ref (base + 48)), (1, .int (a1)), (2, .int (a2)), (3, .int (a3))]) (aX9_base 22 rfl) (by decide) rfl ?_
        refine hw_aloadn (aX9_base 23 rfl) rfl ?_
        refine hw_get (v := .ref (base + 49)) (aX9_base 24 rfl) wf_RX9_33 (c48 hS) (s48 hS) (by decide) (congrArg (fun r => va_rf (h_rf base r)) (r48_1 hF)) ?_
        refine xw_iloadn (aX9_base 25 rfl) rfl ?_
        refine xw_iloadn (aX9_base 26 rfl) rfl ?_
        refine hw_callV (Bs := [.int (a1), .int (a2)]) (rest := []) (aX9_base 27 rfl) wc_RX9_37 (by decide) rfl wi_yX9_reset wv_yX9_reset (c49 hS) (s49 hS) rfl rfl rfl (Nat.le_of_ble_eq_true rfl) (Nat.le_of_ble_eq_true rfl) (k_X9_reset (d := d + 52) hS hF hI hR (49) (c49 hS) (s49 hS) (Or.inl (by decide)) (a1) (a2) ) (fun v15 sv16 p17 => ?_)
        obtain ⟨rfl, FI19, FL20, rfl, hI21, f22, f23⟩ := p17
        show hw sk base _ _ _ _ _ [] _ _
        refine hw_aloadn (aX9_base 28 rfl) rfl ?_
        refine hw_get (v := .ref (base + 49)) (aX9_base 29 rfl) wf_RX9_33 (c48 hS) (s48 hS) (by decide) (congrArg (fun r => va_rf (h_rf base r)) (r48_1 hF)) ?_
        refine hw_aload (aX9_base 30 rfl) rfl ?_
        refine hw_ic (v := (0 : Int32)) (aX9_base 31 rfl) (by decide) ?_
        refine hw_aload (aX9_base 32 rfl) rfl ?_
        obtain ⟨x28, h29⟩ : ∃ y, Int32.ofNat (SH r11).2 = y := ⟨_, rfl⟩
        have b30 : (x28).toInt ≤ (((SH r11).2 : Nat) : Int) := by rw [← h29]; exact i_len
        have := i_rng x28
        refine hw_alen (k := 0) (v := x28) (aX9_base 33 rfl) lt12 sh14 (by decide) h29 ?_
        refine xw_iloadn (aX9_base 34 rfl) rfl ?_
        refine hw_callV (Bs := [.ref (base + r11), .int ((0 : Int32)), .int (x28), .int (a3)]) (rest := []) (aX9_base 35 rfl) wc_RX9_41 (by decide) rfl wi_yX9_perform wv_yX9_perform (c49 hS) (s49 hS) rfl rfl rfl (Nat.le_of_ble_eq_true rfl) (Nat.le_of_ble_eq_true rfl) (k_perform49 (d := d) hS hF hI21 hR (r11) lt12 sh14 ow13 ((0 : Int32)) (x28) (a3) (by omega)) (fun v31 sv32 p33 => ?_)
        obtain ⟨r34, rfl, FI35, FL36, FR37, rfl, hI38, f39, f40, f41, hF42, hR43⟩ := p33
        have rg_r34 := i_rng r34
        show hw sk base _ _ _ _ _ [.int (r34)] _ _
        refine xw_istore (L2 := [(6, .int (r34)), (5, .ref (base + r11)), (4, .int (x1)), (0, .ref (base + 48)), (1, .int (a1)), (2, .int (a2)), (3, .int (a3))]) (aX9_base 36 rfl) (by decide) rfl ?_
        refine xw_iload (aX9_base 37 rfl) rfl ?_
        refine hw_ifne (tgt := 88) (aX9_base 38 rfl) (by decide) rfl (fun cd46 => ?_) (fun cd46 => ?_)
        · refine hw_aloadn (aX9_base 43 rfl) rfl ?_
          refine hw_aloadn (aX9_base 44 rfl) rfl ?_
          refine hw_get (v := .ref (base + 49)) (aX9_base 45 rfl) wf_RX9_33 (c48 hS) (s48 hS) (by decide) (congrArg (fun r => va_rf (h_rf base r)) (r48_1 hF42)) ?_
          obtain ⟨x47, h48⟩ : ∃ y, FI35 49 7 = y := ⟨_, rfl⟩
          have h48l := congrArg Int32.toInt h48
          have := i_rng x47
          refine hw_get (v := .int (x47)) (aX9_base 46 rfl) wf_RX9_56 (c49 hS) (s49 hS) (by decide) (congrArg Value.int (show FI35 49 7 = x47 from h48)) ?_
          refine hv_puti (aX9_base 47 rfl) wf_RX9_56 (c48 hS) (s48 hS) (by decide) rfl rfl (fun FI49 u50 => ?_)
          have hI51 : g_I FI49 := gU_F hI38 u50 rfl
          refine hw_aloadn (aX9_base 48 rfl) rfl ?_
          refine hw_aloadn (aX9_base 49 rfl) rfl ?_
          obtain ⟨x52, h53⟩ : ∃ y, FI49 48 8 = y := ⟨_, rfl⟩
          have h53l := congrArg Int32.toInt h53
          have := i_rng x52
          refine hw_get (v := .int (x52)) (aX9_base 50 rfl) wf_RX9_59 (c48 hS) (s48 hS) (by decide) (congrArg Value.int (show FI49 48 8 = x52 from h53)) ?_
          refine hw_aloadn (aX9_base 51 rfl) rfl ?_
          refine hw_get (v := .ref (base + 49)) (aX9_base 52 rfl) wf_RX9_33 (c48 hS) (s48 hS) (by decide) (congrArg (fun r => va_rf (h_rf base r)) (r48_1 hF42)) ?_
          obtain ⟨x54, h55⟩ : ∃ y, FI49 49 8 = y := ⟨_, rfl⟩
          have h55l := congrArg Int32.toInt h55
          have := i_rng x54
          refine hw_get (v := .int (x54)) (aX9_base 53 rfl) wf_RX9_59 (c49 hS) (s49 hS) (by decide) (congrArg Value.int (show FI49 49 8 = x54 from h55)) ?_
          refine hw_callS (As := [.int (x52), .int (x54)]) (rest := [.ref (base + 48)]) (aX9_base 54 rfl) wc_RX9_188 (by decide) rfl wt_yJ9_max_7cf53 rfl rfl (Nat.le_of_ble_eq_true rfl) (Nat.le_of_ble_eq_true rfl) (k_J9_max_7cf53 (d := d + 54) hS hF42 hI51 hR43 (x52) (x54) ) (fun v56 sv57 p58 => ?_)
          obtain ⟨r59, rfl, rfl, t63, t64⟩ := p58
          have rg_r59 := i_rng r59
          show hw sk base _ _ _ _ _ [.int (r59), .ref (base + 48)] _ _
          refine hv_puti (aX9_base 55 rfl) wf_RX9_59 (c48 hS) (s48 hS) (by decide) rfl rfl (fun FI67 u68 => ?_)
          have hI69 : g_I FI67 := gU_F hI51 u68 rfl
          refine xw_iload (aX9_base 56 rfl) rfl ?_
          refine hw_ifne (tgt := 136) (aX9_base 57 rfl) (by decide) rfl (fun cd70 => ?_) (fun cd70 => ?_)
          · refine xw_iload (aX9_base 64 rfl) rfl ?_
            refine xw_iret (aX9_base 65 rfl) rfl rfl ?_
            exact ⟨r34, rfl, FI67, FL36, FR37, rfl, hI69, (gf_f (gf_f (gf_tr ex_rf (gf_tr ex_rf gf_rf f22 rfl rfl rfl) f39 rfl rfl rfl) u50 (by decide)) u68 (by decide)), (gf_tr ex_rf (gf_tr ex_rf gf_rf f23 rfl rfl rfl) f40 rfl rfl rfl), (gf_tr ex_rf gf_rf f41 rfl rfl rfl), hF42, hR43⟩
          · refine hw_aloadn (aX9_base 58 rfl) rfl ?_
            refine hw_aloadn (aX9_base 59 rfl) rfl ?_
            refine hw_get (v := .ref (base + 49)) (aX9_base 60 rfl) wf_RX9_33 (c48 hS) (s48 hS) (by decide) (congrArg (fun r => va_rf (h_rf base r)) (r48_1 hF42)) ?_
            refine hw_get (v := .ref (base + 52)) (aX9_base 61 rfl) wf_RX9_25 (c49 hS) (s49 hS) (by decide) (congrArg (fun r => va_rf (h_rf base r)) (r49_4 hF42)) ?_
            refine hw_callV (Bs := [.ref (base + 52)]) (rest := []) (aX9_base 62 rfl) wc_RX9_255 (by decide) rfl wi_yX9_takeBase wv_yX9_takeBase (c48 hS) (s48 hS) rfl rfl rfl (Nat.le_of_ble_eq_true rfl) (Nat.le_of_ble_eq_true rfl) (k_X9_takeBase (d := d + 53) hS hF42 hI69 hR43 (48) (c48 hS) (s48 hS) (Or.inl (by decide)) (52) (c52 hS) (s52 hS) (Or.inl (by decide)) ) (fun v71 sv72 p73 => ?_)
            obtain ⟨r74, rfl, FL75, rfl, f77⟩ := p73
            have rg_r74 := i_rng r74
            show hw sk base _ _ _ _ _ [.int (r74)] _ _
            refine xw_goto (tgt := 138) (aX9_base 63 rfl) (by decide) ?_
            refine xw_iret (aX9_base 65 rfl) rfl rfl ?_
            exact ⟨r74, rfl, FI67, FL75, FR37, rfl, hI69, (gf_f (gf_f (gf_tr ex_rf (gf_tr ex_rf gf_rf f22 rfl rfl rfl) f39 rfl rfl rfl) u50 (by decide)) u68 (by decide)), (gf_tr ex_rf (gf_tr ex_rf (gf_tr ex_rf gf_rf f23 rfl rfl rfl) f40 rfl rfl rfl) f77 rfl rfl rfl), (gf_tr ex_rf gf_rf f41 rfl rfl rfl), hF42, hR43⟩
        · refine hw_aloadn (aX9_base 39 rfl) rfl ?_
          refine hw_get (v := .ref (base + 49)) (aX9_base 40 rfl) wf_RX9_33 (c48 hS) (s48 hS) (by decide) (congrArg (fun r => va_rf (h_rf base r)) (r48_1 hF42)) ?_
          refine hw_callV (Bs := []) (rest := []) (aX9_base 41 rfl) wc_RX9_45 (by decide) rfl wi_yX9_settle wv_yX9_settle (c49 hS) (s49 hS) rfl rfl rfl (Nat.le_of_ble_eq_true rfl) (Nat.le_of_ble_eq_true rfl) (k_X9_settle (d := d + 52) hS hF42 hI38 hR43 (49) (c49 hS) (s49 hS) (Or.inl (by decide)) ) (fun v82 sv83 p84 => ?_)
          obtain ⟨r85, rfl, FI86, FL87, FR88, rfl, hI89, f90, f91, f92, hF93, hR94⟩ := p84
          have rg_r85 := i_rng r85
          show hw sk base _ _ _ _ _ [.int (r85)] _ _
          refine xw_istore (L2 := [(6, .int (r85)), (5, .ref (base + r11)), (4, .int (x1)), (0, .ref (base + 48)), (1, .int (a1)), (2, .int (a2)), (3, .int (a3))]) (aX9_base 42 rfl) (by decide) rfl ?_
          refine hw_aloadn (aX9_base 43 rfl) rfl ?_
          refine hw_aloadn (aX9_base 44 rfl) rfl ?_
          refine hw_get (v := .ref (base + 49)) (aX9_base 45 rfl) wf_RX9_33 (c48 hS) (s48 hS) (by decide) (congrArg (fun r => va_rf (h_rf base r)) (r48_1 hF93)) ?_
          obtain ⟨x97, h98⟩ : ∃ y, FI86 49 7 = y := ⟨_, rfl⟩
          have h98l := congrArg Int32.toInt h98
          have := i_rng x97
          refine hw_get (v := .int (x97)) (aX9_base 46 rfl) wf_RX9_56 (c49 hS) (s49 hS) (by decide) (congrArg Value.int (show FI86 49 7 = x97 from h98)) ?_
          refine hv_puti (aX9_base 47 rfl) wf_RX9_56 (c48 hS) (s48 hS) (by decide) rfl rfl (fun FI99 u100 => ?_)
          have hI101 : g_I FI99 := gU_F hI89 u100 rfl
          refine hw_aloadn (aX9_base 48 rfl) rfl ?_
          refine hw_aloadn (aX9_base 49 rfl) rfl ?_
          obtain ⟨x102, h103⟩ : ∃ y, FI99 48 8 = y := ⟨_, rfl⟩
          have h103l := congrArg Int32.toInt h103
          have := i_rng x102
          refine hw_get (v := .int (x102)) (aX9_base 50 rfl) wf_RX9_59 (c48 hS) (s48 hS) (by decide) (congrArg Value.int (show FI99 48 8 = x102 from h103)) ?_
          refine hw_aloadn (aX9_base 51 rfl) rfl ?_
          refine hw_get (v := .ref (base + 49)) (aX9_base 52 rfl) wf_RX9_33 (c48 hS) (s48 hS) (by decide) (congrArg (fun r => va_rf (h_rf base r)) (r48_1 hF93)) ?_
          obtain ⟨x104, h105⟩ : ∃ y, FI99 49 8 = y := ⟨_, rfl⟩
          have h105l := congrArg Int32.toInt h105
          have := i_rng x104
          refine hw_get (v := .int (x104)) (aX9_base 53 rfl) wf_RX9_59 (c49 hS) (s49 hS) (by decide) (congrArg Value.int (show FI99 49 8 = x104 from h105)) ?_
          refine hw_callS (As := [.int (x102), .int (x104)]) (rest := [.ref (base + 48)]) (aX9_base 54 rfl) wc_RX9_188 (by decide) rfl wt_yJ9_max_7cf53 rfl rfl (Nat.le_of_ble_eq_true rfl) (Nat.le_of_ble_eq_true rfl) (k_J9_max_7cf53 (d := d + 54) hS hF93 hI101 hR94 (x102) (x104) ) (fun v106 sv107 p108 => ?_)
          obtain ⟨r109, rfl, rfl, t113, t114⟩ := p108
          have rg_r109 := i_rng r109
          show hw sk base _ _ _ _ _ [.int (r109), .ref (base + 48)] _ _
          refine hv_puti (aX9_base 55 rfl) wf_RX9_59 (c48 hS) (s48 hS) (by decide) rfl rfl (fun FI117 u118 => ?_)
          have hI119 : g_I FI117 := gU_F hI101 u118 rfl
          refine xw_iload (aX9_base 56 rfl) rfl ?_
          refine hw_ifne (tgt := 136) (aX9_base 57 rfl) (by decide) rfl (fun cd120 => ?_) (fun cd120 => ?_)
          · refine xw_iload (aX9_base 64 rfl) rfl ?_
            refine xw_iret (aX9_base 65 rfl) rfl rfl ?_
            exact ⟨r85, rfl, FI117, FL87, FR88, rfl, hI119, (gf_f (gf_f (gf_tr ex_rf (gf_tr ex_rf (gf_tr ex_rf gf_rf f22 rfl rfl rfl) f39 rfl rfl rfl) f90 rfl rfl rfl) u100 (by decide)) u118 (by decide)), (gf_tr ex_rf (gf_tr ex_rf (gf_tr ex_rf gf_rf f23 rfl rfl rfl) f40 rfl rfl rfl) f91 rfl rfl rfl), (gf_tr ex_rf (gf_tr ex_rf gf_rf f41 rfl rfl rfl) f92 rfl rfl rfl), hF93, hR94⟩
          · refine hw_aloadn (aX9_base 58 rfl) rfl ?_
            refine hw_aloadn (aX9_base 59 rfl) rfl ?_
            refine hw_get (v := .ref (base + 49)) (aX9_base 60 rfl) wf_RX9_33 (c48 hS) (s48 hS) (by decide) (congrArg (fun r => va_rf (h_rf base r)) (r48_1 hF93)) ?_
            refine hw_get (v := .ref (base + 52)) (aX9_base 61 rfl) wf_RX9_25 (c49 hS) (s49 hS) (by decide) (congrArg (fun r => va_rf (h_rf base r)) (r49_4 hF93)) ?_
            refine hw_callV (Bs := [.ref (base + 52)]) (rest := []) (aX9_base 62 rfl) wc_RX9_255 (by decide) rfl wi_yX9_takeBase wv_yX9_takeBase (c48 hS) (s48 hS) rfl rfl rfl (Nat.le_of_ble_eq_true rfl) (Nat.le_of_ble_eq_true rfl) (k_X9_takeBase (d := d + 53) hS hF93 hI119 hR94 (48) (c48 hS) (s48 hS) (Or.inl (by decide)) (52) (c52 hS) (s52 hS) (Or.inl (by decide)) ) (fun v121 sv122 p123 => ?_)
            obtain ⟨r124, rfl, FL125, rfl, f127⟩ := p123
            have rg_r124 := i_rng r124
            show hw sk base _ _ _ _ _ [.int (r124)] _ _
            refine xw_goto (tgt := 138) (aX9_base 63 rfl) (by decide) ?_
            refine xw_iret (aX9_base 65 rfl) rfl rfl ?_
            exact ⟨r124, rfl, FI117, FL125, FR88, rfl, hI119, (gf_f (gf_f (gf_tr ex_rf (gf_tr ex_rf (gf_tr ex_rf gf_rf f22 rfl rfl rfl) f39 rfl rfl rfl) f90 rfl rfl rfl) u100 (by decide)) u118 (by decide)), (gf_tr ex_rf (gf_tr ex_rf (gf_tr ex_rf (gf_tr ex_rf gf_rf f23 rfl rfl rfl) f40 rfl rfl rfl) f91 rfl rfl rfl) f127 rfl rfl rfl), (gf_tr ex_rf (gf_tr ex_rf gf_rf f41 rfl rfl rfl) f92 rfl rfl rfl), hF93, hR94⟩
      · omega
set_option maxHeartbeats 4000000 in
set_option maxRecDepth 100000 in
theorem k_ask48 {sk : xK} {base d n sl : Nat} {SH : Nat → Nat × Nat} {FI : Nat → Nat → Int32} {FL : Nat → Nat → Int64} {FR : Nat → Nat → Option Nat} (hS : h_S n SH) (hF : h_FR FR) (hI : g_I FI) (hR : g_R n SH FR) (a1 : Int32) (a2 : Int32) (g0 : 0 ≤ (a2).toInt ∧ (a2).toInt ≤ 8) : hw sk base (d + 56) none 105 0 [(0, .ref (base + 48)), (1, .int (a1)), (2, .int (a2))] [] (n, sl, SH, FI, FL, FR) (h_I (fun r s => ∃ FI' FL' FR', s = (n, sl, SH, FI', FL', FR') ∧ g_I FI' ∧ g_fr n (shd SH) [(48, 5), (48, 6), (48, 7), (48, 8), (48, 9), (48, 10), (48, 11), (49, 5), (49, 6), (49, 7), (49, 8), (49, 9), (49, 10), (49, 11)] [] [5, 8, 9] FI FI' ∧ g_fr n (shd SH) [(48, 12), (48, 13), (48, 14), (48, 15), (49, 12), (49, 13), (49, 14), (49, 15)] [] [5, 9, 101] FL FL' ∧ g_fr n (shd SH) [] [] [5] FR FR' ∧ h_FR FR' ∧ g_R n SH FR')) := by
  have rg_a1 := i_rng a1
  have rg_a2 := i_rng a2
  refine xw_iloadn (aX9_ask 0 rfl) rfl ?_
  have hsw : ((a1).toInt ≠ 6 ∧ (a1).toInt ≠ 144 ∧ (a1).toInt ≠ 145 ∧ (a1).toInt ≠ 146 ∧ (a1).toInt ≠ 148 ∧ (a1).toInt ≠ 151 ∧ (a1).toInt ≠ 155 ∧ (a1).toInt ≠ 156) ∨ ((a1).toInt = 6) ∨ ((a1).toInt = 144) ∨ ((a1).toInt = 145) ∨ ((a1).toInt = 146) ∨ ((a1).toInt = 148) ∨ ((a1).toInt = 151) ∨ ((a1).toInt = 155) ∨ ((a1).toInt = 156) := by omega
  rcases hsw with hsw | hsw | hsw | hsw | hsw | hsw | hsw | hsw | hsw
  · refine xw_lsw (tgt := 264) aX9_ask_1 (by decide) (by show (1 : Int) + Jvm.Op.lookupswitch.offset [(6, 75), (144, 100), (145, 114), (146, 155), (148, 86), (151, 176), (155, 203), (156, 235)] (263) (a1).toInt = 264; simp only [Jvm.Op.lookupswitch.offset]; rw [if_neg (by omega), if_neg (by omega), if_neg (by omega), if_neg (by omega), if_neg (by omega), if_neg (by omega), if_neg (by omega), if_neg (by omega)]; rfl) ?_
    clear hsw
    refine hw_ic (v := (0 : Int32)) (aX9_ask 96 rfl) (by decide) ?_
    refine xw_iret (aX9_ask 97 rfl) rfl rfl ?_
    have e1 : ((0 : Int32)).toInt = 0 := (by decide : (0 : Int32).toInt = 0)
    exact ⟨(0 : Int32), rfl, FI, FL, FR, rfl, hI, gf_rf, gf_rf, gf_rf, hF, hR⟩
  · refine xw_lsw (tgt := 76) aX9_ask_1 (by decide) (by rw [hsw]; decide) ?_
    refine hw_aloadn (aX9_ask 1 rfl) rfl ?_
    refine hw_aloadn (aX9_ask 2 rfl) rfl ?_
    refine hw_callV (Bs := []) (rest := [.ref (base + 48)]) (aX9_ask 3 rfl) wc_RX9_92 (by decide) rfl wi_yX9_pop wv_yX9_pop (c48 hS) (s48 hS) rfl rfl rfl (Nat.le_of_ble_eq_true rfl) (Nat.le_of_ble_eq_true rfl) (k_X9_pop (d := d + 55) hS hF hI hR (48) (c48 hS) (s48 hS) (Or.inl (by decide)) ) (fun v2 sv3 p4 => ?_)
    obtain ⟨r5, rfl, FI6, rfl, hI7, f8⟩ := p4
    have rg_r5 := l_rng r5
    show hw sk base _ _ _ _ _ [.long (r5), .ref (base + 48)] _ _
    refine hw_bp (v := (8 : Int32)) (aX9_ask 4 rfl) (by decide) ?_
    refine hw_callV (Bs := [.long (r5), .int ((8 : Int32))]) (rest := []) (aX9_ask 5 rfl) wc_RX9_205 (by decide) rfl wi_yX9_pushBytes wv_yX9_pushBytes (c48 hS) (s48 hS) rfl rfl rfl (Nat.le_of_ble_eq_true rfl) (Nat.le_of_ble_eq_true rfl) (k_X9_pushBytes (d := d + 53) hS hF hI7 hR (48) (c48 hS) (s48 hS) (Or.inl (by decide)) (r5) ((8 : Int32)) (by have := ((by decide : (8 : Int32).toInt = 8) : ((8 : Int32)).toInt = 8); have := ((by decide : (8 : Int32).toInt = 8) : ((8 : Int32)).toInt = 8); omega)) (fun v13 sv14 p15 => ?_)
    obtain ⟨r16, rfl, FI17, FL18, rfl, hI19, f20, f21⟩ := p15
    have rg_r16 := i_rng r16
    show hw sk base _ _ _ _ _ [.int (r16)] _ _
    refine xw_iret (aX9_ask 6 rfl) rfl rfl ?_
    exact ⟨r16, rfl, FI17, FL18, FR, rfl, hI19, (gf_tr ex_rf (gf_tr ex_rf gf_rf f8 rfl rfl rfl) f20 rfl rfl rfl), (gf_tr ex_rf gf_rf f21 rfl rfl rfl), gf_rf, hF, hR⟩
  · refine xw_lsw (tgt := 101) aX9_ask_1 (by decide) (by rw [hsw]; decide) ?_
    refine hw_aloadn (aX9_ask 15 rfl) rfl ?_
    refine hw_get (v := .ref (base + 71)) (aX9_ask 16 rfl) wf_RX9_18 (c48 hS) (s48 hS) (by decide) (congrArg (fun r => va_rf (h_rf base r)) (r48_3 hF)) ?_
    refine hw_ic (v := (2 : Int32)) (aX9_ask 17 rfl) (by decide) ?_
    refine hw_aloadn (aX9_ask 18 rfl) rfl ?_
    obtain ⟨x26, h27⟩ : ∃ y, FL 48 12 = y := ⟨_, rfl⟩
    have h27l := congrArg Int64.toInt h27
    have := l_rng x26
    refine hw_get (v := .long (x26)) (aX9_ask 19 rfl) wf_RX9_96 (c48 hS) (s48 hS) (by decide) (congrArg Value.long (show FL 48 12 = x26 from h27)) ?_
    refine hw_callV (Bs := [.int ((2 : Int32)), .long (x26)]) (rest := []) (aX9_ask 20 rfl) wc_RX9_65 (by decide) rfl wi_yX5_become wv_yX5_become (c71 hS) (s71 hS) rfl rfl rfl (Nat.le_of_ble_eq_true rfl) (Nat.le_of_ble_eq_true rfl) (k_X5_become (d := d + 55) hS hF hI hR (71) (c71 hS) (s71 hS) (Or.inl (by decide)) ((2 : Int32)) (x26) ) (fun v28 sv29 p30 => ?_)
    obtain ⟨rfl, FI32, FL33, rfl, hI34, f35, f36⟩ := p30
    show hw sk base _ _ _ _ _ [] _ _
    refine hw_ic (v := (0 : Int32)) (aX9_ask 21 rfl) (by decide) ?_
    refine xw_iret (aX9_ask 22 rfl) rfl rfl ?_
    have e41 : ((0 : Int32)).toInt = 0 := (by decide : (0 : Int32).toInt = 0)
    exact ⟨(0 : Int32), rfl, FI32, FL33, FR, rfl, hI34, (gf_tr ex_rf gf_rf f35 rfl rfl rfl), (gf_tr ex_rf gf_rf f36 rfl rfl rfl), gf_rf, hF, hR⟩
  · refine xw_lsw (tgt := 115) aX9_ask_1 (by decide) (by rw [hsw]; decide) ?_
    refine hw_aloadn (aX9_ask 23 rfl) rfl ?_
    obtain ⟨x42, h43⟩ : ∃ y, FL 48 12 = y := ⟨_, rfl⟩
    have h43l := congrArg Int64.toInt h43
    have := l_rng x42
    refine hw_get (v := .long (x42)) (aX9_ask 24 rfl) wf_RX9_96 (c48 hS) (s48 hS) (by decide) (congrArg Value.long (show FL 48 12 = x42 from h43)) ?_
    refine xw_lstoren (L2 := [(3, .long (x42)), (0, .ref (base + 48)), (1, .int (a1)), (2, .int (a2))]) (aX9_ask 25 rfl) (by decide) rfl ?_
    refine hw_aloadn (aX9_ask 26 rfl) rfl ?_
    refine hw_aloadn (aX9_ask 27 rfl) rfl ?_
    obtain ⟨x44, h45⟩ : ∃ y, FI 48 6 = y := ⟨_, rfl⟩
    have h45l := congrArg Int32.toInt h45
    have := i_rng x44
    refine hw_get (v := .int (x44)) (aX9_ask 28 rfl) wf_RX9_53 (c48 hS) (s48 hS) (by decide) (congrArg Value.int (show FI 48 6 = x44 from h45)) ?_
    refine hw_aloadn (aX9_ask 29 rfl) rfl ?_
    obtain ⟨x46, h47⟩ : ∃ y, FI 48 7 = y := ⟨_, rfl⟩
    have h47l := congrArg Int32.toInt h47
    have := i_rng x46
    refine hw_get (v := .int (x46)) (aX9_ask 30 rfl) wf_RX9_56 (c48 hS) (s48 hS) (by decide) (congrArg Value.int (show FI 48 7 = x46 from h47)) ?_
    refine xw_iloadn (aX9_ask 31 rfl) rfl ?_
    refine hw_callV (Bs := [.int (x44), .int (x46), .int (a2)]) (rest := []) (aX9_ask 32 rfl) wc_RX9_208 (by decide) rfl wi_yX9_base wv_yX9_base (c48 hS) (s48 hS) rfl rfl rfl (Nat.le_of_ble_eq_true rfl) (Nat.le_of_ble_eq_true rfl) (k_base48 (d := d) hS hF hI hR (x44) (x46) (a2) (by omega)) (fun v48 sv49 p50 => ?_)
    obtain ⟨r51, rfl, FI52, FL53, FR54, rfl, hI55, f56, f57, f58, hF59, hR60⟩ := p50
    have rg_r51 := i_rng r51
    show hw sk base _ _ _ _ _ [.int (r51)] _ _
    refine xw_istore (L2 := [(5, .int (r51)), (3, .long (x42)), (0, .ref (base + 48)), (1, .int (a1)), (2, .int (a2))]) (aX9_ask 33 rfl) (by decide) rfl ?_
    refine xw_iload (aX9_ask 34 rfl) rfl ?_
    refine hw_ifne (tgt := 153) (aX9_ask 35 rfl) (by decide) rfl (fun cd63 => ?_) (fun cd63 => ?_)
    · refine xw_iload (aX9_ask 43 rfl) rfl ?_
      refine xw_iret (aX9_ask 44 rfl) rfl rfl ?_
      exact ⟨r51, rfl, FI52, FL53, FR54, rfl, hI55, (gf_tr ex_rf gf_rf f56 rfl rfl rfl), (gf_tr ex_rf gf_rf f57 rfl rfl rfl), (gf_tr ex_rf gf_rf f58 rfl rfl rfl), hF59, hR60⟩
    · refine hw_aloadn (aX9_ask 36 rfl) rfl ?_
      refine hw_aloadn (aX9_ask 37 rfl) rfl ?_
      obtain ⟨x64, h65⟩ : ∃ y, FL53 48 15 = y := ⟨_, rfl⟩
      have h65l := congrArg Int64.toInt h65
      have := l_rng x64
      refine hw_get (v := .long (x64)) (aX9_ask 38 rfl) wf_RX9_212 (c48 hS) (s48 hS) (by decide) (congrArg Value.long (show FL53 48 15 = x64 from h65)) ?_
      refine xw_lloadn (aX9_ask 39 rfl) rfl ?_
      refine xw_ladd (aX9_ask 40 rfl) ?_
      refine hw_tl (fun x66 => ?_)
      have b67 := l_rng x66
      refine hw_callV (Bs := [.long (x66)]) (rest := []) (aX9_ask 41 rfl) wc_RX9_158 (by decide) rfl wi_yX9_push wv_yX9_push (c48 hS) (s48 hS) rfl rfl rfl (Nat.le_of_ble_eq_true rfl) (Nat.le_of_ble_eq_true rfl) (k_X9_push (d := d + 54) hS hF59 hI55 hR60 (48) (c48 hS) (s48 hS) (Or.inl (by decide)) (x66) ) (fun v68 sv69 p70 => ?_)
      obtain ⟨r71, rfl, FI72, FL73, rfl, hI74, f75, f76⟩ := p70
      have rg_r71 := i_rng r71
      show hw sk base _ _ _ _ _ [.int (r71)] _ _
      refine xw_goto (tgt := 155) (aX9_ask 42 rfl) (by decide) ?_
      refine xw_iret (aX9_ask 44 rfl) rfl rfl ?_
      exact ⟨r71, rfl, FI72, FL73, FR54, rfl, hI74, (gf_tr ex_rf (gf_tr ex_rf gf_rf f56 rfl rfl rfl) f75 rfl rfl rfl), (gf_tr ex_rf (gf_tr ex_rf gf_rf f57 rfl rfl rfl) f76 rfl rfl rfl), (gf_tr ex_rf gf_rf f58 rfl rfl rfl), hF59, hR60⟩
  · refine xw_lsw (tgt := 156) aX9_ask_1 (by decide) (by rw [hsw]; decide) ?_
    refine hw_aloadn (aX9_ask 45 rfl) rfl ?_
    refine hw_aloadn (aX9_ask 46 rfl) rfl ?_
    refine hw_get (v := .ref (base + 23)) (aX9_ask 47 rfl) wf_RX9_29 (c48 hS) (s48 hS) (by decide) (congrArg (fun r => va_rf (h_rf base r)) (r48_0 hF)) ?_
    refine hw_aloadn (aX9_ask 48 rfl) rfl ?_
    obtain ⟨x81, h82⟩ : ∃ y, FL 48 12 = y := ⟨_, rfl⟩
    have h82l := congrArg Int64.toInt h82
    have := l_rng x81
    refine hw_get (v := .long (x81)) (aX9_ask 49 rfl) wf_RX9_96 (c48 hS) (s48 hS) (by decide) (congrArg Value.long (show FL 48 12 = x81 from h82)) ?_
    refine hw_callV (Bs := [.long (x81)]) (rest := [.ref (base + 48)]) (aX9_ask 50 rfl) wc_RX9_162 (by decide) rfl wi_yX1_registerValue wv_yX1_registerValue (c23 hS) (s23 hS) rfl rfl rfl (Nat.le_of_ble_eq_true rfl) (Nat.le_of_ble_eq_true rfl) (k_X1_registerValue (d := d + 55) hS hF hI hR (x81) ) (fun v83 sv84 p85 => ?_)
    obtain ⟨r86, rfl, rfl⟩ := p85
    have rg_r86 := l_rng r86
    show hw sk base _ _ _ _ _ [.long (r86), .ref (base + 48)] _ _
    refine hw_aloadn (aX9_ask 51 rfl) rfl ?_
    obtain ⟨x92, h93⟩ : ∃ y, FL 48 13 = y := ⟨_, rfl⟩
    have h93l := congrArg Int64.toInt h93
    have := l_rng x92
    refine hw_get (v := .long (x92)) (aX9_ask 52 rfl) wf_RX9_118 (c48 hS) (s48 hS) (by decide) (congrArg Value.long (show FL 48 13 = x92 from h93)) ?_
    refine xw_ladd (aX9_ask 53 rfl) ?_
    refine hw_tl (fun x94 => ?_)
    have b95 := l_rng x94
    refine hw_callV (Bs := [.long (x94)]) (rest := []) (aX9_ask 54 rfl) wc_RX9_158 (by decide) rfl wi_yX9_push wv_yX9_push (c48 hS) (s48 hS) rfl rfl rfl (Nat.le_of_ble_eq_true rfl) (Nat.le_of_ble_eq_true rfl) (k_X9_push (d := d + 54) hS hF hI hR (48) (c48 hS) (s48 hS) (Or.inl (by decide)) (x94) ) (fun v96 sv97 p98 => ?_)
    obtain ⟨r99, rfl, FI100, FL101, rfl, hI102, f103, f104⟩ := p98
    have rg_r99 := i_rng r99
    show hw sk base _ _ _ _ _ [.int (r99)] _ _
    refine xw_iret (aX9_ask 55 rfl) rfl rfl ?_
    exact ⟨r99, rfl, FI100, FL101, FR, rfl, hI102, (gf_tr ex_rf gf_rf f103 rfl rfl rfl), (gf_tr ex_rf gf_rf f104 rfl rfl rfl), gf_rf, hF, hR⟩
  · refine xw_lsw (tgt := 87) aX9_ask_1 (by decide) (by rw [hsw]; decide) ?_
    refine hw_aloadn (aX9_ask 7 rfl) rfl ?_
    refine hw_aloadn (aX9_ask 8 rfl) rfl ?_
    refine hw_callV (Bs := []) (rest := [.ref (base + 48)]) (aX9_ask 9 rfl) wc_RX9_92 (by decide) rfl wi_yX9_pop wv_yX9_pop (c48 hS) (s48 hS) rfl rfl rfl (Nat.le_of_ble_eq_true rfl) (Nat.le_of_ble_eq_true rfl) (k_X9_pop (d := d + 55) hS hF hI hR (48) (c48 hS) (s48 hS) (Or.inl (by decide)) ) (fun v109 sv110 p111 => ?_)
    obtain ⟨r112, rfl, FI113, rfl, hI114, f115⟩ := p111
    have rg_r112 := l_rng r112
    show hw sk base _ _ _ _ _ [.long (r112), .ref (base + 48)] _ _
    refine hw_aloadn (aX9_ask 10 rfl) rfl ?_
    obtain ⟨x120, h121⟩ : ∃ y, FL 48 12 = y := ⟨_, rfl⟩
    have h121l := congrArg Int64.toInt h121
    have := l_rng x120
    refine hw_get (v := .long (x120)) (aX9_ask 11 rfl) wf_RX9_96 (c48 hS) (s48 hS) (by decide) (congrArg Value.long (show FL 48 12 = x120 from h121)) ?_
    refine xw_l2i (aX9_ask 12 rfl) ?_
    refine hw_ti (fun x122 => ?_)
    have b123 := i_rng x122
    refine hw_callV (Bs := [.long (r112), .int (x122)]) (rest := []) (aX9_ask 13 rfl) wc_RX9_205 (by decide) rfl wi_yX9_pushBytes wv_yX9_pushBytes (c48 hS) (s48 hS) rfl rfl rfl (Nat.le_of_ble_eq_true rfl) (Nat.le_of_ble_eq_true rfl) (k_pushBytes_any (d := d + 53) hS hF hI114 hR (48) (c48 hS) (s48 hS) (Or.inl (by decide)) (r112) (x122) ) (fun v124 sv125 p126 => ?_)
    obtain ⟨r127, rfl, FI128, FL129, rfl, hI130, f131, f132⟩ := p126
    have rg_r127 := i_rng r127
    show hw sk base _ _ _ _ _ [.int (r127)] _ _
    refine xw_iret (aX9_ask 14 rfl) rfl rfl ?_
    exact ⟨r127, rfl, FI128, FL129, FR, rfl, hI130, (gf_tr ex_rf (gf_tr ex_rf gf_rf f115 rfl rfl rfl) f131 rfl rfl rfl), (gf_tr ex_rf gf_rf f132 rfl rfl rfl), gf_rf, hF, hR⟩
  · refine xw_lsw (tgt := 177) aX9_ask_1 (by decide) (by rw [hsw]; decide) ?_
    refine hw_aloadn (aX9_ask 56 rfl) rfl ?_
    refine hw_get (v := .ref (base + 23)) (aX9_ask 57 rfl) wf_RX9_29 (c48 hS) (s48 hS) (by decide) (congrArg (fun r => va_rf (h_rf base r)) (r48_0 hF)) ?_
    obtain ⟨x137, h138⟩ : ∃ y, FI 23 7 = y := ⟨_, rfl⟩
    have h138l := congrArg Int32.toInt h138
    have b139 := gI_23_7 hI; rw [h138] at b139
    refine hw_get (v := .int (x137)) (aX9_ask 58 rfl) wf_RX9_215 (c23 hS) (s23 hS) (by decide) (congrArg Value.int (show FI 23 7 = x137 from h138)) ?_
    refine hw_ifeq (tgt := 201) (aX9_ask 59 rfl) (by decide) rfl (fun cd140 => ?_) (fun cd140 => ?_)
    · refine hw_bp (v := (11 : Int32)) (aX9_ask 66 rfl) (by decide) ?_
      refine xw_iret (aX9_ask 67 rfl) rfl rfl ?_
      have e141 : ((11 : Int32)).toInt = 11 := (by decide : (11 : Int32).toInt = 11)
      exact ⟨(11 : Int32), rfl, FI, FL, FR, rfl, hI, gf_rf, gf_rf, gf_rf, hF, hR⟩
    · refine hw_aloadn (aX9_ask 60 rfl) rfl ?_
      refine hw_aloadn (aX9_ask 61 rfl) rfl ?_
      refine hw_get (v := .ref (base + 23)) (aX9_ask 62 rfl) wf_RX9_29 (c48 hS) (s48 hS) (by decide) (congrArg (fun r => va_rf (h_rf base r)) (r48_0 hF)) ?_
      obtain ⟨x142, h143⟩ : ∃ y, FL 23 8 = y := ⟨_, rfl⟩
      have h143l := congrArg Int64.toInt h143
      have := l_rng x142
      refine hw_get (v := .long (x142)) (aX9_ask 63 rfl) wf_RX9_219 (c23 hS) (s23 hS) (by decide) (congrArg Value.long (show FL 23 8 = x142 from h143)) ?_
      refine hw_callV (Bs := [.long (x142)]) (rest := []) (aX9_ask 64 rfl) wc_RX9_158 (by decide) rfl wi_yX9_push wv_yX9_push (c48 hS) (s48 hS) rfl rfl rfl (Nat.le_of_ble_eq_true rfl) (Nat.le_of_ble_eq_true rfl) (k_X9_push (d := d + 54) hS hF hI hR (48) (c48 hS) (s48 hS) (Or.inl (by decide)) (x142) ) (fun v144 sv145 p146 => ?_)
      obtain ⟨r147, rfl, FI148, FL149, rfl, hI150, f151, f152⟩ := p146
      have rg_r147 := i_rng r147
      show hw sk base _ _ _ _ _ [.int (r147)] _ _
      refine xw_goto (tgt := 203) (aX9_ask 65 rfl) (by decide) ?_
      refine xw_iret (aX9_ask 67 rfl) rfl rfl ?_
      exact ⟨r147, rfl, FI148, FL149, FR, rfl, hI150, (gf_tr ex_rf gf_rf f151 rfl rfl rfl), (gf_tr ex_rf gf_rf f152 rfl rfl rfl), gf_rf, hF, hR⟩
  · refine xw_lsw (tgt := 204) aX9_ask_1 (by decide) (by rw [hsw]; decide) ?_
    refine hw_aloadn (aX9_ask 68 rfl) rfl ?_
    refine hw_get (v := .ref (base + 23)) (aX9_ask 69 rfl) wf_RX9_29 (c48 hS) (s48 hS) (by decide) (congrArg (fun r => va_rf (h_rf base r)) (r48_0 hF)) ?_
    obtain ⟨x157, h158⟩ : ∃ y, FI 23 9 = y := ⟨_, rfl⟩
    have h158l := congrArg Int32.toInt h158
    have b159 := gI_23_9 hI; rw [h158] at b159
    refine hw_get (v := .int (x157)) (aX9_ask 70 rfl) wf_RX9_222 (c23 hS) (s23 hS) (by decide) (congrArg Value.int (show FI 23 9 = x157 from h158)) ?_
    refine hw_ifeq (tgt := 233) (aX9_ask 71 rfl) (by decide) rfl (fun cd160 => ?_) (fun cd160 => ?_)
    · refine hw_bp (v := (11 : Int32)) (aX9_ask 81 rfl) (by decide) ?_
      refine xw_iret (aX9_ask 82 rfl) rfl rfl ?_
      have e161 : ((11 : Int32)).toInt = 11 := (by decide : (11 : Int32).toInt = 11)
      exact ⟨(11 : Int32), rfl, FI, FL, FR, rfl, hI, gf_rf, gf_rf, gf_rf, hF, hR⟩
    · refine hw_aloadn (aX9_ask 72 rfl) rfl ?_
      refine hw_aloadn (aX9_ask 73 rfl) rfl ?_
      refine hw_get (v := .ref (base + 23)) (aX9_ask 74 rfl) wf_RX9_29 (c48 hS) (s48 hS) (by decide) (congrArg (fun r => va_rf (h_rf base r)) (r48_0 hF)) ?_
      obtain ⟨x162, h163⟩ : ∃ y, FL 23 10 = y := ⟨_, rfl⟩
      have h163l := congrArg Int64.toInt h163
      have := l_rng x162
      refine hw_get (v := .long (x162)) (aX9_ask 75 rfl) wf_RX9_225 (c23 hS) (s23 hS) (by decide) (congrArg Value.long (show FL 23 10 = x162 from h163)) ?_
      refine hw_aloadn (aX9_ask 76 rfl) rfl ?_
      refine hw_callV (Bs := []) (rest := [.long (x162), .ref (base + 48)]) (aX9_ask 77 rfl) wc_RX9_92 (by decide) rfl wi_yX9_pop wv_yX9_pop (c48 hS) (s48 hS) rfl rfl rfl (Nat.le_of_ble_eq_true rfl) (Nat.le_of_ble_eq_true rfl) (k_X9_pop (d := d + 55) hS hF hI hR (48) (c48 hS) (s48 hS) (Or.inl (by decide)) ) (fun v164 sv165 p166 => ?_)
      obtain ⟨r167, rfl, FI168, rfl, hI169, f170⟩ := p166
      have rg_r167 := l_rng r167
      show hw sk base _ _ _ _ _ [.long (r167), .long (x162), .ref (base + 48)] _ _
      refine xw_ladd (aX9_ask 78 rfl) ?_
      refine hw_tl (fun x175 => ?_)
      have b176 := l_rng x175
      refine hw_callV (Bs := [.long (x175)]) (rest := []) (aX9_ask 79 rfl) wc_RX9_158 (by decide) rfl wi_yX9_push wv_yX9_push (c48 hS) (s48 hS) rfl rfl rfl (Nat.le_of_ble_eq_true rfl) (Nat.le_of_ble_eq_true rfl) (k_X9_push (d := d + 54) hS hF hI169 hR (48) (c48 hS) (s48 hS) (Or.inl (by decide)) (x175) ) (fun v177 sv178 p179 => ?_)
      obtain ⟨r180, rfl, FI181, FL182, rfl, hI183, f184, f185⟩ := p179
      have rg_r180 := i_rng r180
      show hw sk base _ _ _ _ _ [.int (r180)] _ _
      refine xw_goto (tgt := 235) (aX9_ask 80 rfl) (by decide) ?_
      refine xw_iret (aX9_ask 82 rfl) rfl rfl ?_
      exact ⟨r180, rfl, FI181, FL182, FR, rfl, hI183, (gf_tr ex_rf (gf_tr ex_rf gf_rf f170 rfl rfl rfl) f184 rfl rfl rfl), (gf_tr ex_rf gf_rf f185 rfl rfl rfl), gf_rf, hF, hR⟩
  · refine xw_lsw (tgt := 236) aX9_ask_1 (by decide) (by rw [hsw]; decide) ?_
    refine hw_aloadn (aX9_ask 83 rfl) rfl ?_
    refine hw_get (v := .ref (base + 23)) (aX9_ask 84 rfl) wf_RX9_29 (c48 hS) (s48 hS) (by decide) (congrArg (fun r => va_rf (h_rf base r)) (r48_0 hF)) ?_
    obtain ⟨x190, h191⟩ : ∃ y, FI 23 5 = y := ⟨_, rfl⟩
    have h191l := congrArg Int32.toInt h191
    have b192 := gI_23_5 hI; rw [h191] at b192
    refine hw_get (v := .int (x190)) (aX9_ask 85 rfl) wf_RX9_228 (c23 hS) (s23 hS) (by decide) (congrArg Value.int (show FI 23 5 = x190 from h191)) ?_
    refine hw_ic (v := ((-1) : Int32)) (aX9_ask 86 rfl) (by decide) ?_
    refine hw_icne (tgt := 252) (aX9_ask 87 rfl) (by decide) rfl (by decide : ((-1) : Int32).toInt = (-1)) (fun cd193 => ?_) (fun cd193 => ?_)
    · refine hw_aloadn (aX9_ask 90 rfl) rfl ?_
      refine hw_aloadn (aX9_ask 91 rfl) rfl ?_
      refine hw_get (v := .ref (base + 23)) (aX9_ask 92 rfl) wf_RX9_29 (c48 hS) (s48 hS) (by decide) (congrArg (fun r => va_rf (h_rf base r)) (r48_0 hF)) ?_
      refine hw_callV (Bs := []) (rest := [.ref (base + 48)]) (aX9_ask 93 rfl) wc_RX9_231 (by decide) rfl wi_yX1_cfaValue wv_yX1_cfaValue (c23 hS) (s23 hS) rfl rfl rfl (Nat.le_of_ble_eq_true rfl) (Nat.le_of_ble_eq_true rfl) (k_X1_cfaValue (d := d + 54) hS hF hI hR ) (fun v194 sv195 p196 => ?_)
      obtain ⟨r197, rfl, rfl⟩ := p196
      have rg_r197 := l_rng r197
      show hw sk base _ _ _ _ _ [.long (r197), .ref (base + 48)] _ _
      refine hw_callV (Bs := [.long (r197)]) (rest := []) (aX9_ask 94 rfl) wc_RX9_158 (by decide) rfl wi_yX9_push wv_yX9_push (c48 hS) (s48 hS) rfl rfl rfl (Nat.le_of_ble_eq_true rfl) (Nat.le_of_ble_eq_true rfl) (k_X9_push (d := d + 54) hS hF hI hR (48) (c48 hS) (s48 hS) (Or.inl (by decide)) (r197) ) (fun v203 sv204 p205 => ?_)
      obtain ⟨r206, rfl, FI207, FL208, rfl, hI209, f210, f211⟩ := p205
      have rg_r206 := i_rng r206
      show hw sk base _ _ _ _ _ [.int (r206)] _ _
      refine xw_iret (aX9_ask 95 rfl) rfl rfl ?_
      exact ⟨r206, rfl, FI207, FL208, FR, rfl, hI209, (gf_tr ex_rf gf_rf f210 rfl rfl rfl), (gf_tr ex_rf gf_rf f211 rfl rfl rfl), gf_rf, hF, hR⟩
    · refine hw_bp (v := (11 : Int32)) (aX9_ask 88 rfl) (by decide) ?_
      refine xw_goto (tgt := 263) (aX9_ask 89 rfl) (by decide) ?_
      refine xw_iret (aX9_ask 95 rfl) rfl rfl ?_
      have e216 : ((11 : Int32)).toInt = 11 := (by decide : (11 : Int32).toInt = 11)
      exact ⟨(11 : Int32), rfl, FI, FL, FR, rfl, hI, gf_rf, gf_rf, gf_rf, hF, hR⟩
set_option maxHeartbeats 4000000 in
set_option maxRecDepth 100000 in
theorem k_operate48 {sk : xK} {base d n sl : Nat} {SH : Nat → Nat × Nat} {FI : Nat → Nat → Int32} {FL : Nat → Nat → Int64} {FR : Nat → Nat → Option Nat} (hS : h_S n SH) (hF : h_FR FR) (hI : g_I FI) (hR : g_R n SH FR) (a1 : Int32) (a2 : Nat) {z2 : Nat} (ha2l : a2 < n) (ha2s : SH a2 = (100, z2)) (ha2o : own a2) (a3 : Int32) (g0 : 0 ≤ (a3).toInt ∧ (a3).toInt ≤ 8) : hw sk base (d + 57) none 98 0 [(0, .ref (base + 48)), (1, .int (a1)), (2, .ref (base + a2)), (3, .int (a3))] [] (n, sl, SH, FI, FL, FR) (h_I (fun r s => ∃ FI' FL' FR', s = (n, sl, SH, FI', FL', FR') ∧ g_I FI' ∧ g_fr n (shd SH) [(48, 5), (48, 6), (48, 7), (48, 8), (48, 9), (48, 10), (48, 11), (49, 5), (49, 6), (49, 7), (49, 8), (49, 9), (49, 10), (49, 11)] [] [5, 8, 9] FI FI' ∧ g_fr n (shd SH) [(48, 12), (48, 13), (48, 14), (48, 15), (49, 12), (49, 13), (49, 14), (49, 15)] [] [5, 9, 101] FL FL' ∧ g_fr n (shd SH) [] [] [5] FR FR' ∧ h_FR FR' ∧ g_R n SH FR')) := by
  have rg_a1 := i_rng a1
  have rg_a3 := i_rng a3
  refine xw_iloadn (aX9_operate 0 rfl) rfl ?_
  refine hw_bp (v := (48 : Int32)) (aX9_operate 1 rfl) (by decide) ?_
  refine hw_iclt (tgt := 22) (aX9_operate 2 rfl) (by decide) rfl (by decide : (48 : Int32).toInt = 48) (fun cd1 => ?_) (fun cd1 => ?_)
  · refine xw_iloadn (aX9_operate 13 rfl) rfl ?_
    refine hw_bp (v := (80 : Int32)) (aX9_operate 14 rfl) (by decide) ?_
    refine hw_iclt (tgt := 49) (aX9_operate 15 rfl) (by decide) rfl (by decide : (80 : Int32).toInt = 80) (fun cd2 => ?_) (fun cd2 => ?_)
    · refine xw_iloadn (aX9_operate 29 rfl) rfl ?_
      refine hw_bp (v := (112 : Int32)) (aX9_operate 30 rfl) (by decide) ?_
      refine hw_iclt (tgt := 84) (aX9_operate 31 rfl) (by decide) rfl (by decide : (112 : Int32).toInt = 112) (fun cd3 => ?_) (fun cd3 => ?_)
      · refine xw_iloadn (aX9_operate 48 rfl) rfl ?_
        refine hw_ic (v := (3 : Int32)) (aX9_operate 49 rfl) (by decide) ?_
        refine hw_iceq (tgt := 101) (aX9_operate 50 rfl) (by decide) rfl (by decide : (3 : Int32).toInt = 3) (fun cd4 => ?_) (fun cd4 => ?_)
        · refine hw_aloadn (aX9_operate 57 rfl) rfl ?_
          refine hw_aloadn (aX9_operate 58 rfl) rfl ?_
          obtain ⟨x5, h6⟩ : ∃ y, FL 48 12 = y := ⟨_, rfl⟩
          have h6l := congrArg Int64.toInt h6
          have := l_rng x5
          refine hw_get (v := .long (x5)) (aX9_operate 59 rfl) wf_RX9_96 (c48 hS) (s48 hS) (by decide) (congrArg Value.long (show FL 48 12 = x5 from h6)) ?_
          refine hw_callV (Bs := [.long (x5)]) (rest := []) (aX9_operate 60 rfl) wc_RX9_158 (by decide) rfl wi_yX9_push wv_yX9_push (c48 hS) (s48 hS) rfl rfl rfl (Nat.le_of_ble_eq_true rfl) (Nat.le_of_ble_eq_true rfl) (k_X9_push (d := d + 55) hS hF hI hR (48) (c48 hS) (s48 hS) (Or.inl (by decide)) (x5) ) (fun v7 sv8 p9 => ?_)
          obtain ⟨r10, rfl, FI11, FL12, rfl, hI13, f14, f15⟩ := p9
          have rg_r10 := i_rng r10
          show hw sk base _ _ _ _ _ [.int (r10)] _ _
          refine xw_iret (aX9_operate 61 rfl) rfl rfl ?_
          exact ⟨r10, rfl, FI11, FL12, FR, rfl, hI13, (gf_tr ex_rf gf_rf f14 rfl rfl rfl), (gf_tr ex_rf gf_rf f15 rfl rfl rfl), gf_rf, hF, hR⟩
        · refine xw_iloadn (aX9_operate 51 rfl) rfl ?_
          refine hw_bp (v := (8 : Int32)) (aX9_operate 52 rfl) (by decide) ?_
          refine hw_iclt (tgt := 110) (aX9_operate 53 rfl) (by decide) rfl (by decide : (8 : Int32).toInt = 8) (fun cd20 => ?_) (fun cd20 => ?_)
          · refine xw_iloadn (aX9_operate 62 rfl) rfl ?_
            refine hw_bp (v := (18 : Int32)) (aX9_operate 63 rfl) (by decide) ?_
            refine hw_iclt (tgt := 128) (aX9_operate 64 rfl) (by decide) rfl (by decide : (18 : Int32).toInt = 18) (fun cd21 => ?_) (fun cd21 => ?_)
            · refine xw_iloadn (aX9_operate 72 rfl) rfl ?_
              refine hw_bp (v := (25 : Int32)) (aX9_operate 73 rfl) (by decide) ?_
              refine hw_iceq (tgt := 152) (aX9_operate 74 rfl) (by decide) rfl (by decide : (25 : Int32).toInt = 25) (fun cd22 => ?_) (fun cd22 => ?_)
              · omega
              · refine xw_iloadn (aX9_operate 75 rfl) rfl ?_
                refine hw_bp (v := (31 : Int32)) (aX9_operate 76 rfl) (by decide) ?_
                refine hw_iceq (tgt := 152) (aX9_operate 77 rfl) (by decide) rfl (by decide : (31 : Int32).toInt = 31) (fun cd23 => ?_) (fun cd23 => ?_)
                · omega
                · refine xw_iloadn (aX9_operate 78 rfl) rfl ?_
                  refine hw_bp (v := (32 : Int32)) (aX9_operate 79 rfl) (by decide) ?_
                  refine hw_iceq (tgt := 152) (aX9_operate 80 rfl) (by decide) rfl (by decide : (32 : Int32).toInt = 32) (fun cd24 => ?_) (fun cd24 => ?_)
                  · omega
                  · refine xw_iloadn (aX9_operate 81 rfl) rfl ?_
                    refine hw_bp (v := (35 : Int32)) (aX9_operate 82 rfl) (by decide) ?_
                    refine hw_icne (tgt := 166) (aX9_operate 83 rfl) (by decide) rfl (by decide : (35 : Int32).toInt = 35) (fun cd25 => ?_) (fun cd25 => ?_)
                    · refine xw_iloadn (aX9_operate 92 rfl) rfl ?_
                      refine hw_bp (v := (26 : Int32)) (aX9_operate 93 rfl) (by decide) ?_
                      refine hw_iclt (tgt := 227) (aX9_operate 94 rfl) (by decide) rfl (by decide : (26 : Int32).toInt = 26) (fun cd26 => ?_) (fun cd26 => ?_)
                      · refine xw_iloadn (aX9_operate 123 rfl) rfl ?_
                        refine hw_sp (v := (147 : Int32)) (aX9_operate 124 rfl) (by decide) ?_
                        refine hw_iceq (tgt := 241) (aX9_operate 125 rfl) (by decide) rfl (by decide : (147 : Int32).toInt = 147) (fun cd27 => ?_) (fun cd27 => ?_)
                        · omega
                        · refine xw_iloadn (aX9_operate 126 rfl) rfl ?_
                          refine hw_sp (v := (157 : Int32)) (aX9_operate 127 rfl) (by decide) ?_
                          refine hw_icne (tgt := 279) (aX9_operate 128 rfl) (by decide) rfl (by decide : (157 : Int32).toInt = 157) (fun cd28 => ?_) (fun cd28 => ?_)
                          · refine xw_iloadn (aX9_operate 150 rfl) rfl ?_
                            refine hw_sp (v := (158 : Int32)) (aX9_operate 151 rfl) (by decide) ?_
                            refine hw_iceq (tgt := 293) (aX9_operate 152 rfl) (by decide) rfl (by decide : (158 : Int32).toInt = 158) (fun cd29 => ?_) (fun cd29 => ?_)
                            · omega
                            · refine xw_iloadn (aX9_operate 153 rfl) rfl ?_
                              refine hw_sp (v := (159 : Int32)) (aX9_operate 154 rfl) (by decide) ?_
                              refine hw_icne (tgt := 302) (aX9_operate 155 rfl) (by decide) rfl (by decide : (159 : Int32).toInt = 159) (fun cd30 => ?_) (fun cd30 => ?_)
                              · refine hw_aloadn (aX9_operate 161 rfl) rfl ?_
                                refine xw_iloadn (aX9_operate 162 rfl) rfl ?_
                                refine xw_iloadn (aX9_operate 163 rfl) rfl ?_
                                refine hw_callV (Bs := [.int (a1), .int (a3)]) (rest := []) (aX9_operate 164 rfl) wc_RX9_185 (by decide) rfl wi_yX9_ask wv_yX9_ask (c48 hS) (s48 hS) rfl rfl rfl (Nat.le_of_ble_eq_true rfl) (Nat.le_of_ble_eq_true rfl) (k_ask48 (d := d) hS hF hI hR (a1) (a3) (by omega)) (fun v31 sv32 p33 => ?_)
                                obtain ⟨r34, rfl, FI35, FL36, FR37, rfl, hI38, f39, f40, f41, hF42, hR43⟩ := p33
                                have rg_r34 := i_rng r34
                                show hw sk base _ _ _ _ _ [.int (r34)] _ _
                                refine xw_iret (aX9_operate 165 rfl) rfl rfl ?_
                                exact ⟨r34, rfl, FI35, FL36, FR37, rfl, hI38, (gf_tr ex_rf gf_rf f39 rfl rfl rfl), (gf_tr ex_rf gf_rf f40 rfl rfl rfl), (gf_tr ex_rf gf_rf f41 rfl rfl rfl), hF42, hR43⟩
                              · omega
                          · omega
                      · omega
                    · omega
            · omega
          · refine xw_iloadn (aX9_operate 54 rfl) rfl ?_
            refine hw_bp (v := (17 : Int32)) (aX9_operate 55 rfl) (by decide) ?_
            refine hw_icgt (tgt := 110) (aX9_operate 56 rfl) (by decide) rfl (by decide : (17 : Int32).toInt = 17) (fun cd46 => ?_) (fun cd46 => ?_)
            · refine xw_iloadn (aX9_operate 62 rfl) rfl ?_
              refine hw_bp (v := (18 : Int32)) (aX9_operate 63 rfl) (by decide) ?_
              refine hw_iclt (tgt := 128) (aX9_operate 64 rfl) (by decide) rfl (by decide : (18 : Int32).toInt = 18) (fun cd47 => ?_) (fun cd47 => ?_)
              · omega
              · refine xw_iloadn (aX9_operate 65 rfl) rfl ?_
                refine hw_bp (v := (23 : Int32)) (aX9_operate 66 rfl) (by decide) ?_
                refine hw_icgt (tgt := 128) (aX9_operate 67 rfl) (by decide) rfl (by decide : (23 : Int32).toInt = 23) (fun cd48 => ?_) (fun cd48 => ?_)
                · refine xw_iloadn (aX9_operate 72 rfl) rfl ?_
                  refine hw_bp (v := (25 : Int32)) (aX9_operate 73 rfl) (by decide) ?_
                  refine hw_iceq (tgt := 152) (aX9_operate 74 rfl) (by decide) rfl (by decide : (25 : Int32).toInt = 25) (fun cd49 => ?_) (fun cd49 => ?_)
                  · refine hw_aloadn (aX9_operate 84 rfl) rfl ?_
                    refine hw_aloadn (aX9_operate 85 rfl) rfl ?_
                    refine xw_iloadn (aX9_operate 86 rfl) rfl ?_
                    refine hw_aloadn (aX9_operate 87 rfl) rfl ?_
                    refine hw_callV (Bs := []) (rest := [.int (a1), .ref (base + 48), .ref (base + 48)]) (aX9_operate 88 rfl) wc_RX9_92 (by decide) rfl wi_yX9_pop wv_yX9_pop (c48 hS) (s48 hS) rfl rfl rfl (Nat.le_of_ble_eq_true rfl) (Nat.le_of_ble_eq_true rfl) (k_X9_pop (d := d + 56) hS hF hI hR (48) (c48 hS) (s48 hS) (Or.inl (by decide)) ) (fun v50 sv51 p52 => ?_)
                    obtain ⟨r53, rfl, FI54, rfl, hI55, f56⟩ := p52
                    have rg_r53 := l_rng r53
                    show hw sk base _ _ _ _ _ [.long (r53), .int (a1), .ref (base + 48), .ref (base + 48)] _ _
                    refine hw_callV (Bs := [.int (a1), .long (r53)]) (rest := [.ref (base + 48)]) (aX9_operate 89 rfl) wc_RX9_169 (by decide) rfl wi_yX9_changed wv_yX9_changed (c48 hS) (s48 hS) rfl rfl rfl (Nat.le_of_ble_eq_true rfl) (Nat.le_of_ble_eq_true rfl) (k_X9_changed (d := d + 56) hS hF hI55 hR (48) (c48 hS) (s48 hS) (Or.inl (by decide)) (a1) (r53) ) (fun v61 sv62 p63 => ?_)
                    obtain ⟨r64, rfl, rfl⟩ := p63
                    have rg_r64 := l_rng r64
                    show hw sk base _ _ _ _ _ [.long (r64), .ref (base + 48)] _ _
                    refine hw_callV (Bs := [.long (r64)]) (rest := []) (aX9_operate 90 rfl) wc_RX9_158 (by decide) rfl wi_yX9_push wv_yX9_push (c48 hS) (s48 hS) rfl rfl rfl (Nat.le_of_ble_eq_true rfl) (Nat.le_of_ble_eq_true rfl) (k_X9_push (d := d + 55) hS hF hI55 hR (48) (c48 hS) (s48 hS) (Or.inl (by decide)) (r64) ) (fun v70 sv71 p72 => ?_)
                    obtain ⟨r73, rfl, FI74, FL75, rfl, hI76, f77, f78⟩ := p72
                    have rg_r73 := i_rng r73
                    show hw sk base _ _ _ _ _ [.int (r73)] _ _
                    refine xw_iret (aX9_operate 91 rfl) rfl rfl ?_
                    exact ⟨r73, rfl, FI74, FL75, FR, rfl, hI76, (gf_tr ex_rf (gf_tr ex_rf gf_rf f56 rfl rfl rfl) f77 rfl rfl rfl), (gf_tr ex_rf gf_rf f78 rfl rfl rfl), gf_rf, hF, hR⟩
                  · refine xw_iloadn (aX9_operate 75 rfl) rfl ?_
                    refine hw_bp (v := (31 : Int32)) (aX9_operate 76 rfl) (by decide) ?_
                    refine hw_iceq (tgt := 152) (aX9_operate 77 rfl) (by decide) rfl (by decide : (31 : Int32).toInt = 31) (fun cd83 => ?_) (fun cd83 => ?_)
                    · refine hw_aloadn (aX9_operate 84 rfl) rfl ?_
                      refine hw_aloadn (aX9_operate 85 rfl) rfl ?_
                      refine xw_iloadn (aX9_operate 86 rfl) rfl ?_
                      refine hw_aloadn (aX9_operate 87 rfl) rfl ?_
                      refine hw_callV (Bs := []) (rest := [.int (a1), .ref (base + 48), .ref (base + 48)]) (aX9_operate 88 rfl) wc_RX9_92 (by decide) rfl wi_yX9_pop wv_yX9_pop (c48 hS) (s48 hS) rfl rfl rfl (Nat.le_of_ble_eq_true rfl) (Nat.le_of_ble_eq_true rfl) (k_X9_pop (d := d + 56) hS hF hI hR (48) (c48 hS) (s48 hS) (Or.inl (by decide)) ) (fun v84 sv85 p86 => ?_)
                      obtain ⟨r87, rfl, FI88, rfl, hI89, f90⟩ := p86
                      have rg_r87 := l_rng r87
                      show hw sk base _ _ _ _ _ [.long (r87), .int (a1), .ref (base + 48), .ref (base + 48)] _ _
                      refine hw_callV (Bs := [.int (a1), .long (r87)]) (rest := [.ref (base + 48)]) (aX9_operate 89 rfl) wc_RX9_169 (by decide) rfl wi_yX9_changed wv_yX9_changed (c48 hS) (s48 hS) rfl rfl rfl (Nat.le_of_ble_eq_true rfl) (Nat.le_of_ble_eq_true rfl) (k_X9_changed (d := d + 56) hS hF hI89 hR (48) (c48 hS) (s48 hS) (Or.inl (by decide)) (a1) (r87) ) (fun v95 sv96 p97 => ?_)
                      obtain ⟨r98, rfl, rfl⟩ := p97
                      have rg_r98 := l_rng r98
                      show hw sk base _ _ _ _ _ [.long (r98), .ref (base + 48)] _ _
                      refine hw_callV (Bs := [.long (r98)]) (rest := []) (aX9_operate 90 rfl) wc_RX9_158 (by decide) rfl wi_yX9_push wv_yX9_push (c48 hS) (s48 hS) rfl rfl rfl (Nat.le_of_ble_eq_true rfl) (Nat.le_of_ble_eq_true rfl) (k_X9_push (d := d + 55) hS hF hI89 hR (48) (c48 hS) (s48 hS) (Or.inl (by decide)) (r98) ) (fun v104 sv105 p106 => ?_)
                      obtain ⟨r107, rfl, FI108, FL109, rfl, hI110, f111, f112⟩ := p106
                      have rg_r107 := i_rng r107
                      show hw sk base _ _ _ _ _ [.int (r107)] _ _
                      refine xw_iret (aX9_operate 91 rfl) rfl rfl ?_
                      exact ⟨r107, rfl, FI108, FL109, FR, rfl, hI110, (gf_tr ex_rf (gf_tr ex_rf gf_rf f90 rfl rfl rfl) f111 rfl rfl rfl), (gf_tr ex_rf gf_rf f112 rfl rfl rfl), gf_rf, hF, hR⟩
                    · refine xw_iloadn (aX9_operate 78 rfl) rfl ?_
                      refine hw_bp (v := (32 : Int32)) (aX9_operate 79 rfl) (by decide) ?_
                      refine hw_iceq (tgt := 152) (aX9_operate 80 rfl) (by decide) rfl (by decide : (32 : Int32).toInt = 32) (fun cd117 => ?_) (fun cd117 => ?_)
                      · refine hw_aloadn (aX9_operate 84 rfl) rfl ?_
                        refine hw_aloadn (aX9_operate 85 rfl) rfl ?_
                        refine xw_iloadn (aX9_operate 86 rfl) rfl ?_
                        refine hw_aloadn (aX9_operate 87 rfl) rfl ?_
                        refine hw_callV (Bs := []) (rest := [.int (a1), .ref (base + 48), .ref (base + 48)]) (aX9_operate 88 rfl) wc_RX9_92 (by decide) rfl wi_yX9_pop wv_yX9_pop (c48 hS) (s48 hS) rfl rfl rfl (Nat.le_of_ble_eq_true rfl) (Nat.le_of_ble_eq_true rfl) (k_X9_pop (d := d + 56) hS hF hI hR (48) (c48 hS) (s48 hS) (Or.inl (by decide)) ) (fun v118 sv119 p120 => ?_)
                        obtain ⟨r121, rfl, FI122, rfl, hI123, f124⟩ := p120
                        have rg_r121 := l_rng r121
                        show hw sk base _ _ _ _ _ [.long (r121), .int (a1), .ref (base + 48), .ref (base + 48)] _ _
                        refine hw_callV (Bs := [.int (a1), .long (r121)]) (rest := [.ref (base + 48)]) (aX9_operate 89 rfl) wc_RX9_169 (by decide) rfl wi_yX9_changed wv_yX9_changed (c48 hS) (s48 hS) rfl rfl rfl (Nat.le_of_ble_eq_true rfl) (Nat.le_of_ble_eq_true rfl) (k_X9_changed (d := d + 56) hS hF hI123 hR (48) (c48 hS) (s48 hS) (Or.inl (by decide)) (a1) (r121) ) (fun v129 sv130 p131 => ?_)
                        obtain ⟨r132, rfl, rfl⟩ := p131
                        have rg_r132 := l_rng r132
                        show hw sk base _ _ _ _ _ [.long (r132), .ref (base + 48)] _ _
                        refine hw_callV (Bs := [.long (r132)]) (rest := []) (aX9_operate 90 rfl) wc_RX9_158 (by decide) rfl wi_yX9_push wv_yX9_push (c48 hS) (s48 hS) rfl rfl rfl (Nat.le_of_ble_eq_true rfl) (Nat.le_of_ble_eq_true rfl) (k_X9_push (d := d + 55) hS hF hI123 hR (48) (c48 hS) (s48 hS) (Or.inl (by decide)) (r132) ) (fun v138 sv139 p140 => ?_)
                        obtain ⟨r141, rfl, FI142, FL143, rfl, hI144, f145, f146⟩ := p140
                        have rg_r141 := i_rng r141
                        show hw sk base _ _ _ _ _ [.int (r141)] _ _
                        refine xw_iret (aX9_operate 91 rfl) rfl rfl ?_
                        exact ⟨r141, rfl, FI142, FL143, FR, rfl, hI144, (gf_tr ex_rf (gf_tr ex_rf gf_rf f124 rfl rfl rfl) f145 rfl rfl rfl), (gf_tr ex_rf gf_rf f146 rfl rfl rfl), gf_rf, hF, hR⟩
                      · refine xw_iloadn (aX9_operate 81 rfl) rfl ?_
                        refine hw_bp (v := (35 : Int32)) (aX9_operate 82 rfl) (by decide) ?_
                        refine hw_icne (tgt := 166) (aX9_operate 83 rfl) (by decide) rfl (by decide : (35 : Int32).toInt = 35) (fun cd151 => ?_) (fun cd151 => ?_)
                        · refine xw_iloadn (aX9_operate 92 rfl) rfl ?_
                          refine hw_bp (v := (26 : Int32)) (aX9_operate 93 rfl) (by decide) ?_
                          refine hw_iclt (tgt := 227) (aX9_operate 94 rfl) (by decide) rfl (by decide : (26 : Int32).toInt = 26) (fun cd152 => ?_) (fun cd152 => ?_)
                          · refine xw_iloadn (aX9_operate 123 rfl) rfl ?_
                            refine hw_sp (v := (147 : Int32)) (aX9_operate 124 rfl) (by decide) ?_
                            refine hw_iceq (tgt := 241) (aX9_operate 125 rfl) (by decide) rfl (by decide : (147 : Int32).toInt = 147) (fun cd153 => ?_) (fun cd153 => ?_)
                            · omega
                            · refine xw_iloadn (aX9_operate 126 rfl) rfl ?_
                              refine hw_sp (v := (157 : Int32)) (aX9_operate 127 rfl) (by decide) ?_
                              refine hw_icne (tgt := 279) (aX9_operate 128 rfl) (by decide) rfl (by decide : (157 : Int32).toInt = 157) (fun cd154 => ?_) (fun cd154 => ?_)
                              · refine xw_iloadn (aX9_operate 150 rfl) rfl ?_
                                refine hw_sp (v := (158 : Int32)) (aX9_operate 151 rfl) (by decide) ?_
                                refine hw_iceq (tgt := 293) (aX9_operate 152 rfl) (by decide) rfl (by decide : (158 : Int32).toInt = 158) (fun cd155 => ?_) (fun cd155 => ?_)
                                · omega
                                · refine xw_iloadn (aX9_operate 153 rfl) rfl ?_
                                  refine hw_sp (v := (159 : Int32)) (aX9_operate 154 rfl) (by decide) ?_
                                  refine hw_icne (tgt := 302) (aX9_operate 155 rfl) (by decide) rfl (by decide : (159 : Int32).toInt = 159) (fun cd156 => ?_) (fun cd156 => ?_)
                                  · refine hw_aloadn (aX9_operate 161 rfl) rfl ?_
                                    refine xw_iloadn (aX9_operate 162 rfl) rfl ?_
                                    refine xw_iloadn (aX9_operate 163 rfl) rfl ?_
                                    refine hw_callV (Bs := [.int (a1), .int (a3)]) (rest := []) (aX9_operate 164 rfl) wc_RX9_185 (by decide) rfl wi_yX9_ask wv_yX9_ask (c48 hS) (s48 hS) rfl rfl rfl (Nat.le_of_ble_eq_true rfl) (Nat.le_of_ble_eq_true rfl) (k_ask48 (d := d) hS hF hI hR (a1) (a3) (by omega)) (fun v157 sv158 p159 => ?_)
                                    obtain ⟨r160, rfl, FI161, FL162, FR163, rfl, hI164, f165, f166, f167, hF168, hR169⟩ := p159
                                    have rg_r160 := i_rng r160
                                    show hw sk base _ _ _ _ _ [.int (r160)] _ _
                                    refine xw_iret (aX9_operate 165 rfl) rfl rfl ?_
                                    exact ⟨r160, rfl, FI161, FL162, FR163, rfl, hI164, (gf_tr ex_rf gf_rf f165 rfl rfl rfl), (gf_tr ex_rf gf_rf f166 rfl rfl rfl), (gf_tr ex_rf gf_rf f167 rfl rfl rfl), hF168, hR169⟩
                                  · omega
                              · omega
                          · refine xw_iloadn (aX9_operate 95 rfl) rfl ?_
                            refine hw_bp (v := (46 : Int32)) (aX9_operate 96 rfl) (by decide) ?_
                            refine hw_icgt (tgt := 227) (aX9_operate 97 rfl) (by decide) rfl (by decide : (46 : Int32).toInt = 46) (fun cd172 => ?_) (fun cd172 => ?_)
                            · refine xw_iloadn (aX9_operate 123 rfl) rfl ?_
                              refine hw_sp (v := (147 : Int32)) (aX9_operate 124 rfl) (by decide) ?_
                              refine hw_iceq (tgt := 241) (aX9_operate 125 rfl) (by decide) rfl (by decide : (147 : Int32).toInt = 147) (fun cd173 => ?_) (fun cd173 => ?_)
                              · omega
                              · refine xw_iloadn (aX9_operate 126 rfl) rfl ?_
                                refine hw_sp (v := (157 : Int32)) (aX9_operate 127 rfl) (by decide) ?_
                                refine hw_icne (tgt := 279) (aX9_operate 128 rfl) (by decide) rfl (by decide : (157 : Int32).toInt = 157) (fun cd174 => ?_) (fun cd174 => ?_)
                                · refine xw_iloadn (aX9_operate 150 rfl) rfl ?_
                                  refine hw_sp (v := (158 : Int32)) (aX9_operate 151 rfl) (by decide) ?_
                                  refine hw_iceq (tgt := 293) (aX9_operate 152 rfl) (by decide) rfl (by decide : (158 : Int32).toInt = 158) (fun cd175 => ?_) (fun cd175 => ?_)
                                  · omega
                                  · refine xw_iloadn (aX9_operate 153 rfl) rfl ?_
                                    refine hw_sp (v := (159 : Int32)) (aX9_operate 154 rfl) (by decide) ?_
                                    refine hw_icne (tgt := 302) (aX9_operate 155 rfl) (by decide) rfl (by decide : (159 : Int32).toInt = 159) (fun cd176 => ?_) (fun cd176 => ?_)
                                    · refine hw_aloadn (aX9_operate 161 rfl) rfl ?_
                                      refine xw_iloadn (aX9_operate 162 rfl) rfl ?_
                                      refine xw_iloadn (aX9_operate 163 rfl) rfl ?_
                                      refine hw_callV (Bs := [.int (a1), .int (a3)]) (rest := []) (aX9_operate 164 rfl) wc_RX9_185 (by decide) rfl wi_yX9_ask wv_yX9_ask (c48 hS) (s48 hS) rfl rfl rfl (Nat.le_of_ble_eq_true rfl) (Nat.le_of_ble_eq_true rfl) (k_ask48 (d := d) hS hF hI hR (a1) (a3) (by omega)) (fun v177 sv178 p179 => ?_)
                                      obtain ⟨r180, rfl, FI181, FL182, FR183, rfl, hI184, f185, f186, f187, hF188, hR189⟩ := p179
                                      have rg_r180 := i_rng r180
                                      show hw sk base _ _ _ _ _ [.int (r180)] _ _
                                      refine xw_iret (aX9_operate 165 rfl) rfl rfl ?_
                                      exact ⟨r180, rfl, FI181, FL182, FR183, rfl, hI184, (gf_tr ex_rf gf_rf f185 rfl rfl rfl), (gf_tr ex_rf gf_rf f186 rfl rfl rfl), (gf_tr ex_rf gf_rf f187 rfl rfl rfl), hF188, hR189⟩
                                    · omega
                                · omega
                            · refine hw_aloadn (aX9_operate 98 rfl) rfl ?_
                              refine hw_callV (Bs := []) (rest := []) (aX9_operate 99 rfl) wc_RX9_92 (by decide) rfl wi_yX9_pop wv_yX9_pop (c48 hS) (s48 hS) rfl rfl rfl (Nat.le_of_ble_eq_true rfl) (Nat.le_of_ble_eq_true rfl) (k_X9_pop (d := d + 56) hS hF hI hR (48) (c48 hS) (s48 hS) (Or.inl (by decide)) ) (fun v192 sv193 p194 => ?_)
                              obtain ⟨r195, rfl, FI196, rfl, hI197, f198⟩ := p194
                              have rg_r195 := l_rng r195
                              show hw sk base _ _ _ _ _ [.long (r195)] _ _
                              refine xw_lstore (L2 := [(4, .long (r195)), (0, .ref (base + 48)), (1, .int (a1)), (2, .ref (base + a2)), (3, .int (a3))]) (aX9_operate 100 rfl) (by decide) rfl ?_
                              refine hw_aloadn (aX9_operate 101 rfl) rfl ?_
                              refine hw_callV (Bs := []) (rest := []) (aX9_operate 102 rfl) wc_RX9_92 (by decide) rfl wi_yX9_pop wv_yX9_pop (c48 hS) (s48 hS) rfl rfl rfl (Nat.le_of_ble_eq_true rfl) (Nat.le_of_ble_eq_true rfl) (k_X9_pop (d := d + 56) hS hF hI197 hR (48) (c48 hS) (s48 hS) (Or.inl (by decide)) ) (fun v203 sv204 p205 => ?_)
                              obtain ⟨r206, rfl, FI207, rfl, hI208, f209⟩ := p205
                              have rg_r206 := l_rng r206
                              show hw sk base _ _ _ _ _ [.long (r206)] _ _
                              refine xw_lstore (L2 := [(6, .long (r206)), (4, .long (r195)), (0, .ref (base + 48)), (1, .int (a1)), (2, .ref (base + a2)), (3, .int (a3))]) (aX9_operate 103 rfl) (by decide) rfl ?_
                              refine xw_iloadn (aX9_operate 104 rfl) rfl ?_
                              refine hw_bp (v := (27 : Int32)) (aX9_operate 105 rfl) (by decide) ?_
                              refine hw_iceq (tgt := 202) (aX9_operate 106 rfl) (by decide) rfl (by decide : (27 : Int32).toInt = 27) (fun cd214 => ?_) (fun cd214 => ?_)
                              · refine xw_lload (aX9_operate 110 rfl) rfl ?_
                                refine hw_lc (v := (0 : Int64)) (aX9_operate 111 rfl) (by decide) ?_
                                refine hw_lcne (tgt := 214) (aX9_operate 112 rfl) (aX9_operate 113 rfl) (by decide) rfl (by decide : (0 : Int64).toInt = 0) (fun cd215 => ?_) (fun cd215 => ?_)
                                · refine hw_aloadn (aX9_operate 116 rfl) rfl ?_
                                  refine xw_iloadn (aX9_operate 117 rfl) rfl ?_
                                  refine xw_lload (aX9_operate 118 rfl) rfl ?_
                                  refine xw_lload (aX9_operate 119 rfl) rfl ?_
                                  refine hw_callS (As := [.int (a1), .long (r206), .long (r195)]) (rest := [.ref (base + 48)]) (aX9_operate 120 rfl) wc_RX9_173 (by decide) rfl wt_yX9_joined rfl rfl (Nat.le_of_ble_eq_true rfl) (Nat.le_of_ble_eq_true rfl) (k_X9_joined (d := d + 54) hS hF hI208 hR (a1) (r206) (r195) ) (fun v216 sv217 p218 => ?_)
                                  obtain ⟨r219, rfl, rfl⟩ := p218
                                  have rg_r219 := l_rng r219
                                  show hw sk base _ _ _ _ _ [.long (r219), .ref (base + 48)] _ _
                                  refine hw_callV (Bs := [.long (r219)]) (rest := []) (aX9_operate 121 rfl) wc_RX9_158 (by decide) rfl wi_yX9_push wv_yX9_push (c48 hS) (s48 hS) rfl rfl rfl (Nat.le_of_ble_eq_true rfl) (Nat.le_of_ble_eq_true rfl) (k_X9_push (d := d + 55) hS hF hI208 hR (48) (c48 hS) (s48 hS) (Or.inl (by decide)) (r219) ) (fun v225 sv226 p227 => ?_)
                                  obtain ⟨r228, rfl, FI229, FL230, rfl, hI231, f232, f233⟩ := p227
                                  have rg_r228 := i_rng r228
                                  show hw sk base _ _ _ _ _ [.int (r228)] _ _
                                  refine xw_iret (aX9_operate 122 rfl) rfl rfl ?_
                                  exact ⟨r228, rfl, FI229, FL230, FR, rfl, hI231, (gf_tr ex_rf (gf_tr ex_rf (gf_tr ex_rf gf_rf f198 rfl rfl rfl) f209 rfl rfl rfl) f232 rfl rfl rfl), (gf_tr ex_rf gf_rf f233 rfl rfl rfl), gf_rf, hF, hR⟩
                                · refine hw_bp (v := (6 : Int32)) (aX9_operate 114 rfl) (by decide) ?_
                                  refine xw_goto (tgt := 226) (aX9_operate 115 rfl) (by decide) ?_
                                  refine xw_iret (aX9_operate 122 rfl) rfl rfl ?_
                                  have e238 : ((6 : Int32)).toInt = 6 := (by decide : (6 : Int32).toInt = 6)
                                  exact ⟨(6 : Int32), rfl, FI207, FL, FR, rfl, hI208, (gf_tr ex_rf (gf_tr ex_rf gf_rf f198 rfl rfl rfl) f209 rfl rfl rfl), gf_rf, gf_rf, hF, hR⟩
                              · refine xw_iloadn (aX9_operate 107 rfl) rfl ?_
                                refine hw_bp (v := (29 : Int32)) (aX9_operate 108 rfl) (by decide) ?_
                                refine hw_icne (tgt := 214) (aX9_operate 109 rfl) (by decide) rfl (by decide : (29 : Int32).toInt = 29) (fun cd239 => ?_) (fun cd239 => ?_)
                                · refine hw_aloadn (aX9_operate 116 rfl) rfl ?_
                                  refine xw_iloadn (aX9_operate 117 rfl) rfl ?_
                                  refine xw_lload (aX9_operate 118 rfl) rfl ?_
                                  refine xw_lload (aX9_operate 119 rfl) rfl ?_
                                  refine hw_callS (As := [.int (a1), .long (r206), .long (r195)]) (rest := [.ref (base + 48)]) (aX9_operate 120 rfl) wc_RX9_173 (by decide) rfl wt_yX9_joined rfl rfl (Nat.le_of_ble_eq_true rfl) (Nat.le_of_ble_eq_true rfl) (k_X9_joined (d := d + 54) hS hF hI208 hR (a1) (r206) (r195) ) (fun v240 sv241 p242 => ?_)
                                  obtain ⟨r243, rfl, rfl⟩ := p242
                                  have rg_r243 := l_rng r243
                                  show hw sk base _ _ _ _ _ [.long (r243), .ref (base + 48)] _ _
                                  refine hw_callV (Bs := [.long (r243)]) (rest := []) (aX9_operate 121 rfl) wc_RX9_158 (by decide) rfl wi_yX9_push wv_yX9_push (c48 hS) (s48 hS) rfl rfl rfl (Nat.le_of_ble_eq_true rfl) (Nat.le_of_ble_eq_true rfl) (k_X9_push (d := d + 55) hS hF hI208 hR (48) (c48 hS) (s48 hS) (Or.inl (by decide)) (r243) ) (fun v249 sv250 p251 => ?_)
                                  obtain ⟨r252, rfl, FI253, FL254, rfl, hI255, f256, f257⟩ := p251
                                  have rg_r252 := i_rng r252
                                  show hw sk base _ _ _ _ _ [.int (r252)] _ _
                                  refine xw_iret (aX9_operate 122 rfl) rfl rfl ?_
                                  exact ⟨r252, rfl, FI253, FL254, FR, rfl, hI255, (gf_tr ex_rf (gf_tr ex_rf (gf_tr ex_rf gf_rf f198 rfl rfl rfl) f209 rfl rfl rfl) f256 rfl rfl rfl), (gf_tr ex_rf gf_rf f257 rfl rfl rfl), gf_rf, hF, hR⟩
                                · refine xw_lload (aX9_operate 110 rfl) rfl ?_
                                  refine hw_lc (v := (0 : Int64)) (aX9_operate 111 rfl) (by decide) ?_
                                  refine hw_lcne (tgt := 214) (aX9_operate 112 rfl) (aX9_operate 113 rfl) (by decide) rfl (by decide : (0 : Int64).toInt = 0) (fun cd262 => ?_) (fun cd262 => ?_)
                                  · refine hw_aloadn (aX9_operate 116 rfl) rfl ?_
                                    refine xw_iloadn (aX9_operate 117 rfl) rfl ?_
                                    refine xw_lload (aX9_operate 118 rfl) rfl ?_
                                    refine xw_lload (aX9_operate 119 rfl) rfl ?_
                                    refine hw_callS (As := [.int (a1), .long (r206), .long (r195)]) (rest := [.ref (base + 48)]) (aX9_operate 120 rfl) wc_RX9_173 (by decide) rfl wt_yX9_joined rfl rfl (Nat.le_of_ble_eq_true rfl) (Nat.le_of_ble_eq_true rfl) (k_X9_joined (d := d + 54) hS hF hI208 hR (a1) (r206) (r195) ) (fun v263 sv264 p265 => ?_)
                                    obtain ⟨r266, rfl, rfl⟩ := p265
                                    have rg_r266 := l_rng r266
                                    show hw sk base _ _ _ _ _ [.long (r266), .ref (base + 48)] _ _
                                    refine hw_callV (Bs := [.long (r266)]) (rest := []) (aX9_operate 121 rfl) wc_RX9_158 (by decide) rfl wi_yX9_push wv_yX9_push (c48 hS) (s48 hS) rfl rfl rfl (Nat.le_of_ble_eq_true rfl) (Nat.le_of_ble_eq_true rfl) (k_X9_push (d := d + 55) hS hF hI208 hR (48) (c48 hS) (s48 hS) (Or.inl (by decide)) (r266) ) (fun v272 sv273 p274 => ?_)
                                    obtain ⟨r275, rfl, FI276, FL277, rfl, hI278, f279, f280⟩ := p274
                                    have rg_r275 := i_rng r275
                                    show hw sk base _ _ _ _ _ [.int (r275)] _ _
                                    refine xw_iret (aX9_operate 122 rfl) rfl rfl ?_
                                    exact ⟨r275, rfl, FI276, FL277, FR, rfl, hI278, (gf_tr ex_rf (gf_tr ex_rf (gf_tr ex_rf gf_rf f198 rfl rfl rfl) f209 rfl rfl rfl) f279 rfl rfl rfl), (gf_tr ex_rf gf_rf f280 rfl rfl rfl), gf_rf, hF, hR⟩
                                  · refine hw_bp (v := (6 : Int32)) (aX9_operate 114 rfl) (by decide) ?_
                                    refine xw_goto (tgt := 226) (aX9_operate 115 rfl) (by decide) ?_
                                    refine xw_iret (aX9_operate 122 rfl) rfl rfl ?_
                                    have e285 : ((6 : Int32)).toInt = 6 := (by decide : (6 : Int32).toInt = 6)
                                    exact ⟨(6 : Int32), rfl, FI207, FL, FR, rfl, hI208, (gf_tr ex_rf (gf_tr ex_rf gf_rf f198 rfl rfl rfl) f209 rfl rfl rfl), gf_rf, gf_rf, hF, hR⟩
                        · refine hw_aloadn (aX9_operate 84 rfl) rfl ?_
                          refine hw_aloadn (aX9_operate 85 rfl) rfl ?_
                          refine xw_iloadn (aX9_operate 86 rfl) rfl ?_
                          refine hw_aloadn (aX9_operate 87 rfl) rfl ?_
                          refine hw_callV (Bs := []) (rest := [.int (a1), .ref (base + 48), .ref (base + 48)]) (aX9_operate 88 rfl) wc_RX9_92 (by decide) rfl wi_yX9_pop wv_yX9_pop (c48 hS) (s48 hS) rfl rfl rfl (Nat.le_of_ble_eq_true rfl) (Nat.le_of_ble_eq_true rfl) (k_X9_pop (d := d + 56) hS hF hI hR (48) (c48 hS) (s48 hS) (Or.inl (by decide)) ) (fun v286 sv287 p288 => ?_)
                          obtain ⟨r289, rfl, FI290, rfl, hI291, f292⟩ := p288
                          have rg_r289 := l_rng r289
                          show hw sk base _ _ _ _ _ [.long (r289), .int (a1), .ref (base + 48), .ref (base + 48)] _ _
                          refine hw_callV (Bs := [.int (a1), .long (r289)]) (rest := [.ref (base + 48)]) (aX9_operate 89 rfl) wc_RX9_169 (by decide) rfl wi_yX9_changed wv_yX9_changed (c48 hS) (s48 hS) rfl rfl rfl (Nat.le_of_ble_eq_true rfl) (Nat.le_of_ble_eq_true rfl) (k_X9_changed (d := d + 56) hS hF hI291 hR (48) (c48 hS) (s48 hS) (Or.inl (by decide)) (a1) (r289) ) (fun v297 sv298 p299 => ?_)
                          obtain ⟨r300, rfl, rfl⟩ := p299
                          have rg_r300 := l_rng r300
                          show hw sk base _ _ _ _ _ [.long (r300), .ref (base + 48)] _ _
                          refine hw_callV (Bs := [.long (r300)]) (rest := []) (aX9_operate 90 rfl) wc_RX9_158 (by decide) rfl wi_yX9_push wv_yX9_push (c48 hS) (s48 hS) rfl rfl rfl (Nat.le_of_ble_eq_true rfl) (Nat.le_of_ble_eq_true rfl) (k_X9_push (d := d + 55) hS hF hI291 hR (48) (c48 hS) (s48 hS) (Or.inl (by decide)) (r300) ) (fun v306 sv307 p308 => ?_)
                          obtain ⟨r309, rfl, FI310, FL311, rfl, hI312, f313, f314⟩ := p308
                          have rg_r309 := i_rng r309
                          show hw sk base _ _ _ _ _ [.int (r309)] _ _
                          refine xw_iret (aX9_operate 91 rfl) rfl rfl ?_
                          exact ⟨r309, rfl, FI310, FL311, FR, rfl, hI312, (gf_tr ex_rf (gf_tr ex_rf gf_rf f292 rfl rfl rfl) f313 rfl rfl rfl), (gf_tr ex_rf gf_rf f314 rfl rfl rfl), gf_rf, hF, hR⟩
                · refine hw_aloadn (aX9_operate 68 rfl) rfl ?_
                  refine xw_iloadn (aX9_operate 69 rfl) rfl ?_
                  refine hw_callV (Bs := [.int (a1)]) (rest := []) (aX9_operate 70 rfl) wc_RX9_166 (by decide) rfl wi_yX9_shuffle wv_yX9_shuffle (c48 hS) (s48 hS) rfl rfl rfl (Nat.le_of_ble_eq_true rfl) (Nat.le_of_ble_eq_true rfl) (k_X9_shuffle (d := d + 54) hS hF hI hR (48) (c48 hS) (s48 hS) (Or.inl (by decide)) (a1) ) (fun v319 sv320 p321 => ?_)
                  obtain ⟨r322, rfl, FI323, FL324, rfl, hI325, f326, f327⟩ := p321
                  have rg_r322 := i_rng r322
                  show hw sk base _ _ _ _ _ [.int (r322)] _ _
                  refine xw_iret (aX9_operate 71 rfl) rfl rfl ?_
                  exact ⟨r322, rfl, FI323, FL324, FR, rfl, hI325, (gf_tr ex_rf gf_rf f326 rfl rfl rfl), (gf_tr ex_rf gf_rf f327 rfl rfl rfl), gf_rf, hF, hR⟩
            · refine hw_aloadn (aX9_operate 57 rfl) rfl ?_
              refine hw_aloadn (aX9_operate 58 rfl) rfl ?_
              obtain ⟨x332, h333⟩ : ∃ y, FL 48 12 = y := ⟨_, rfl⟩
              have h333l := congrArg Int64.toInt h333
              have := l_rng x332
              refine hw_get (v := .long (x332)) (aX9_operate 59 rfl) wf_RX9_96 (c48 hS) (s48 hS) (by decide) (congrArg Value.long (show FL 48 12 = x332 from h333)) ?_
              refine hw_callV (Bs := [.long (x332)]) (rest := []) (aX9_operate 60 rfl) wc_RX9_158 (by decide) rfl wi_yX9_push wv_yX9_push (c48 hS) (s48 hS) rfl rfl rfl (Nat.le_of_ble_eq_true rfl) (Nat.le_of_ble_eq_true rfl) (k_X9_push (d := d + 55) hS hF hI hR (48) (c48 hS) (s48 hS) (Or.inl (by decide)) (x332) ) (fun v334 sv335 p336 => ?_)
              obtain ⟨r337, rfl, FI338, FL339, rfl, hI340, f341, f342⟩ := p336
              have rg_r337 := i_rng r337
              show hw sk base _ _ _ _ _ [.int (r337)] _ _
              refine xw_iret (aX9_operate 61 rfl) rfl rfl ?_
              exact ⟨r337, rfl, FI338, FL339, FR, rfl, hI340, (gf_tr ex_rf gf_rf f341 rfl rfl rfl), (gf_tr ex_rf gf_rf f342 rfl rfl rfl), gf_rf, hF, hR⟩
      · omega
    · omega
  · refine xw_iloadn (aX9_operate 3 rfl) rfl ?_
    refine hw_bp (v := (79 : Int32)) (aX9_operate 4 rfl) (by decide) ?_
    refine hw_icgt (tgt := 22) (aX9_operate 5 rfl) (by decide) rfl (by decide : (79 : Int32).toInt = 79) (fun cd347 => ?_) (fun cd347 => ?_)
    · refine xw_iloadn (aX9_operate 13 rfl) rfl ?_
      refine hw_bp (v := (80 : Int32)) (aX9_operate 14 rfl) (by decide) ?_
      refine hw_iclt (tgt := 49) (aX9_operate 15 rfl) (by decide) rfl (by decide : (80 : Int32).toInt = 80) (fun cd348 => ?_) (fun cd348 => ?_)
      · omega
      · refine xw_iloadn (aX9_operate 16 rfl) rfl ?_
        refine hw_bp (v := (111 : Int32)) (aX9_operate 17 rfl) (by decide) ?_
        refine hw_icgt (tgt := 49) (aX9_operate 18 rfl) (by decide) rfl (by decide : (111 : Int32).toInt = 111) (fun cd349 => ?_) (fun cd349 => ?_)
        · refine xw_iloadn (aX9_operate 29 rfl) rfl ?_
          refine hw_bp (v := (112 : Int32)) (aX9_operate 30 rfl) (by decide) ?_
          refine hw_iclt (tgt := 84) (aX9_operate 31 rfl) (by decide) rfl (by decide : (112 : Int32).toInt = 112) (fun cd350 => ?_) (fun cd350 => ?_)
          · omega
          · refine xw_iloadn (aX9_operate 32 rfl) rfl ?_
            refine hw_sp (v := (143 : Int32)) (aX9_operate 33 rfl) (by decide) ?_
            refine hw_icgt (tgt := 84) (aX9_operate 34 rfl) (by decide) rfl (by decide : (143 : Int32).toInt = 143) (fun cd351 => ?_) (fun cd351 => ?_)
            · refine xw_iloadn (aX9_operate 48 rfl) rfl ?_
              refine hw_ic (v := (3 : Int32)) (aX9_operate 49 rfl) (by decide) ?_
              refine hw_iceq (tgt := 101) (aX9_operate 50 rfl) (by decide) rfl (by decide : (3 : Int32).toInt = 3) (fun cd352 => ?_) (fun cd352 => ?_)
              · omega
              · refine xw_iloadn (aX9_operate 51 rfl) rfl ?_
                refine hw_bp (v := (8 : Int32)) (aX9_operate 52 rfl) (by decide) ?_
                refine hw_iclt (tgt := 110) (aX9_operate 53 rfl) (by decide) rfl (by decide : (8 : Int32).toInt = 8) (fun cd353 => ?_) (fun cd353 => ?_)
                · omega
                · refine xw_iloadn (aX9_operate 54 rfl) rfl ?_
                  refine hw_bp (v := (17 : Int32)) (aX9_operate 55 rfl) (by decide) ?_
                  refine hw_icgt (tgt := 110) (aX9_operate 56 rfl) (by decide) rfl (by decide : (17 : Int32).toInt = 17) (fun cd354 => ?_) (fun cd354 => ?_)
                  · refine xw_iloadn (aX9_operate 62 rfl) rfl ?_
                    refine hw_bp (v := (18 : Int32)) (aX9_operate 63 rfl) (by decide) ?_
                    refine hw_iclt (tgt := 128) (aX9_operate 64 rfl) (by decide) rfl (by decide : (18 : Int32).toInt = 18) (fun cd355 => ?_) (fun cd355 => ?_)
                    · omega
                    · refine xw_iloadn (aX9_operate 65 rfl) rfl ?_
                      refine hw_bp (v := (23 : Int32)) (aX9_operate 66 rfl) (by decide) ?_
                      refine hw_icgt (tgt := 128) (aX9_operate 67 rfl) (by decide) rfl (by decide : (23 : Int32).toInt = 23) (fun cd356 => ?_) (fun cd356 => ?_)
                      · refine xw_iloadn (aX9_operate 72 rfl) rfl ?_
                        refine hw_bp (v := (25 : Int32)) (aX9_operate 73 rfl) (by decide) ?_
                        refine hw_iceq (tgt := 152) (aX9_operate 74 rfl) (by decide) rfl (by decide : (25 : Int32).toInt = 25) (fun cd357 => ?_) (fun cd357 => ?_)
                        · omega
                        · refine xw_iloadn (aX9_operate 75 rfl) rfl ?_
                          refine hw_bp (v := (31 : Int32)) (aX9_operate 76 rfl) (by decide) ?_
                          refine hw_iceq (tgt := 152) (aX9_operate 77 rfl) (by decide) rfl (by decide : (31 : Int32).toInt = 31) (fun cd358 => ?_) (fun cd358 => ?_)
                          · omega
                          · refine xw_iloadn (aX9_operate 78 rfl) rfl ?_
                            refine hw_bp (v := (32 : Int32)) (aX9_operate 79 rfl) (by decide) ?_
                            refine hw_iceq (tgt := 152) (aX9_operate 80 rfl) (by decide) rfl (by decide : (32 : Int32).toInt = 32) (fun cd359 => ?_) (fun cd359 => ?_)
                            · omega
                            · refine xw_iloadn (aX9_operate 81 rfl) rfl ?_
                              refine hw_bp (v := (35 : Int32)) (aX9_operate 82 rfl) (by decide) ?_
                              refine hw_icne (tgt := 166) (aX9_operate 83 rfl) (by decide) rfl (by decide : (35 : Int32).toInt = 35) (fun cd360 => ?_) (fun cd360 => ?_)
                              · refine xw_iloadn (aX9_operate 92 rfl) rfl ?_
                                refine hw_bp (v := (26 : Int32)) (aX9_operate 93 rfl) (by decide) ?_
                                refine hw_iclt (tgt := 227) (aX9_operate 94 rfl) (by decide) rfl (by decide : (26 : Int32).toInt = 26) (fun cd361 => ?_) (fun cd361 => ?_)
                                · omega
                                · refine xw_iloadn (aX9_operate 95 rfl) rfl ?_
                                  refine hw_bp (v := (46 : Int32)) (aX9_operate 96 rfl) (by decide) ?_
                                  refine hw_icgt (tgt := 227) (aX9_operate 97 rfl) (by decide) rfl (by decide : (46 : Int32).toInt = 46) (fun cd362 => ?_) (fun cd362 => ?_)
                                  · refine xw_iloadn (aX9_operate 123 rfl) rfl ?_
                                    refine hw_sp (v := (147 : Int32)) (aX9_operate 124 rfl) (by decide) ?_
                                    refine hw_iceq (tgt := 241) (aX9_operate 125 rfl) (by decide) rfl (by decide : (147 : Int32).toInt = 147) (fun cd363 => ?_) (fun cd363 => ?_)
                                    · refine xw_iloadn (aX9_operate 129 rfl) rfl ?_
                                      refine hw_sp (v := (147 : Int32)) (aX9_operate 130 rfl) (by decide) ?_
                                      refine hw_icne (tgt := 264) (aX9_operate 131 rfl) (by decide) rfl (by decide : (147 : Int32).toInt = 147) (fun cd364 => ?_) (fun cd364 => ?_)
                                      · omega
                                      · refine hw_aloadn (aX9_operate 132 rfl) rfl ?_
                                        refine hw_aloadn (aX9_operate 133 rfl) rfl ?_
                                        obtain ⟨x365, h366⟩ : ∃ y, FL 48 12 = y := ⟨_, rfl⟩
                                        have h366l := congrArg Int64.toInt h366
                                        have := l_rng x365
                                        refine hw_get (v := .long (x365)) (aX9_operate 134 rfl) wf_RX9_96 (c48 hS) (s48 hS) (by decide) (congrArg Value.long (show FL 48 12 = x365 from h366)) ?_
                                        refine xw_l2i (aX9_operate 135 rfl) ?_
                                        refine hw_ti (fun x367 => ?_)
                                        have b368 := i_rng x367
                                        refine hw_bp (v := (8 : Int32)) (aX9_operate 136 rfl) (by decide) ?_
                                        refine xw_imul (aX9_operate 137 rfl) ?_
                                        refine hw_ti (fun x369 => ?_)
                                        have b370 := i_rng x369
                                        refine hw_ic (v := (0 : Int32)) (aX9_operate 138 rfl) (by decide) ?_
                                        refine hw_callV (Bs := [.int (x369), .int ((0 : Int32))]) (rest := []) (aX9_operate 139 rfl) wc_RX9_177 (by decide) rfl wi_yX9_addPiece wv_yX9_addPiece (c48 hS) (s48 hS) rfl rfl rfl (Nat.le_of_ble_eq_true rfl) (Nat.le_of_ble_eq_true rfl) (k_X9_addPiece (d := d + 54) hS hF hI hR (48) (c48 hS) (s48 hS) (Or.inl (by decide)) (x369) ((0 : Int32)) ) (fun v371 sv372 p373 => ?_)
                                        obtain ⟨r374, rfl, FI375, FL376, FR377, rfl, hI378, f379, f380, f381, hF382, hR383⟩ := p373
                                        have rg_r374 := i_rng r374
                                        show hw sk base _ _ _ _ _ [.int (r374)] _ _
                                        refine xw_goto (tgt := 278) (aX9_operate 140 rfl) (by decide) ?_
                                        refine xw_iret (aX9_operate 149 rfl) rfl rfl ?_
                                        exact ⟨r374, rfl, FI375, FL376, FR377, rfl, hI378, (gf_tr ex_rf gf_rf f379 rfl rfl rfl), (gf_tr ex_rf gf_rf f380 rfl rfl rfl), (gf_tr ex_rf gf_rf f381 rfl rfl rfl), hF382, hR383⟩
                                    · refine xw_iloadn (aX9_operate 126 rfl) rfl ?_
                                      refine hw_sp (v := (157 : Int32)) (aX9_operate 127 rfl) (by decide) ?_
                                      refine hw_icne (tgt := 279) (aX9_operate 128 rfl) (by decide) rfl (by decide : (157 : Int32).toInt = 157) (fun cd386 => ?_) (fun cd386 => ?_)
                                      · refine xw_iloadn (aX9_operate 150 rfl) rfl ?_
                                        refine hw_sp (v := (158 : Int32)) (aX9_operate 151 rfl) (by decide) ?_
                                        refine hw_iceq (tgt := 293) (aX9_operate 152 rfl) (by decide) rfl (by decide : (158 : Int32).toInt = 158) (fun cd387 => ?_) (fun cd387 => ?_)
                                        · refine hw_aloadn (aX9_operate 156 rfl) rfl ?_
                                          refine xw_iloadn (aX9_operate 157 rfl) rfl ?_
                                          refine hw_aloadn (aX9_operate 158 rfl) rfl ?_
                                          refine hw_callV (Bs := [.int (a1), .ref (base + a2)]) (rest := []) (aX9_operate 159 rfl) wc_RX9_181 (by decide) rfl wi_yX9_keep wv_yX9_keep (c48 hS) (s48 hS) rfl rfl rfl (Nat.le_of_ble_eq_true rfl) (Nat.le_of_ble_eq_true rfl) (k_X9_keep (d := d + 54) hS hF hI hR (48) (c48 hS) (s48 hS) (Or.inl (by decide)) (a1) (a2) ha2l ha2s ha2o ) (fun v388 sv389 p390 => ?_)
                                          obtain ⟨r391, rfl, FI392, FL393, FR394, rfl, hI395, f396, f397, f398, hF399, hR400⟩ := p390
                                          have rg_r391 := i_rng r391
                                          show hw sk base _ _ _ _ _ [.int (r391)] _ _
                                          refine xw_goto (tgt := 308) (aX9_operate 160 rfl) (by decide) ?_
                                          refine xw_iret (aX9_operate 165 rfl) rfl rfl ?_
                                          exact ⟨r391, rfl, FI392, FL393, FR394, rfl, hI395, (gf_tr ex_rf gf_rf f396 rfl rfl rfl), (gf_tr ex_rf gf_rf f397 rfl rfl rfl), (gf_tr ex_rf gf_rf f398 rfl rfl rfl), hF399, hR400⟩
                                        · refine xw_iloadn (aX9_operate 153 rfl) rfl ?_
                                          refine hw_sp (v := (159 : Int32)) (aX9_operate 154 rfl) (by decide) ?_
                                          refine hw_icne (tgt := 302) (aX9_operate 155 rfl) (by decide) rfl (by decide : (159 : Int32).toInt = 159) (fun cd403 => ?_) (fun cd403 => ?_)
                                          · refine hw_aloadn (aX9_operate 161 rfl) rfl ?_
                                            refine xw_iloadn (aX9_operate 162 rfl) rfl ?_
                                            refine xw_iloadn (aX9_operate 163 rfl) rfl ?_
                                            refine hw_callV (Bs := [.int (a1), .int (a3)]) (rest := []) (aX9_operate 164 rfl) wc_RX9_185 (by decide) rfl wi_yX9_ask wv_yX9_ask (c48 hS) (s48 hS) rfl rfl rfl (Nat.le_of_ble_eq_true rfl) (Nat.le_of_ble_eq_true rfl) (k_ask48 (d := d) hS hF hI hR (a1) (a3) (by omega)) (fun v404 sv405 p406 => ?_)
                                            obtain ⟨r407, rfl, FI408, FL409, FR410, rfl, hI411, f412, f413, f414, hF415, hR416⟩ := p406
                                            have rg_r407 := i_rng r407
                                            show hw sk base _ _ _ _ _ [.int (r407)] _ _
                                            refine xw_iret (aX9_operate 165 rfl) rfl rfl ?_
                                            exact ⟨r407, rfl, FI408, FL409, FR410, rfl, hI411, (gf_tr ex_rf gf_rf f412 rfl rfl rfl), (gf_tr ex_rf gf_rf f413 rfl rfl rfl), (gf_tr ex_rf gf_rf f414 rfl rfl rfl), hF415, hR416⟩
                                          · refine hw_aloadn (aX9_operate 156 rfl) rfl ?_
                                            refine xw_iloadn (aX9_operate 157 rfl) rfl ?_
                                            refine hw_aloadn (aX9_operate 158 rfl) rfl ?_
                                            refine hw_callV (Bs := [.int (a1), .ref (base + a2)]) (rest := []) (aX9_operate 159 rfl) wc_RX9_181 (by decide) rfl wi_yX9_keep wv_yX9_keep (c48 hS) (s48 hS) rfl rfl rfl (Nat.le_of_ble_eq_true rfl) (Nat.le_of_ble_eq_true rfl) (k_X9_keep (d := d + 54) hS hF hI hR (48) (c48 hS) (s48 hS) (Or.inl (by decide)) (a1) (a2) ha2l ha2s ha2o ) (fun v419 sv420 p421 => ?_)
                                            obtain ⟨r422, rfl, FI423, FL424, FR425, rfl, hI426, f427, f428, f429, hF430, hR431⟩ := p421
                                            have rg_r422 := i_rng r422
                                            show hw sk base _ _ _ _ _ [.int (r422)] _ _
                                            refine xw_goto (tgt := 308) (aX9_operate 160 rfl) (by decide) ?_
                                            refine xw_iret (aX9_operate 165 rfl) rfl rfl ?_
                                            exact ⟨r422, rfl, FI423, FL424, FR425, rfl, hI426, (gf_tr ex_rf gf_rf f427 rfl rfl rfl), (gf_tr ex_rf gf_rf f428 rfl rfl rfl), (gf_tr ex_rf gf_rf f429 rfl rfl rfl), hF430, hR431⟩
                                      · refine xw_iloadn (aX9_operate 129 rfl) rfl ?_
                                        refine hw_sp (v := (147 : Int32)) (aX9_operate 130 rfl) (by decide) ?_
                                        refine hw_icne (tgt := 264) (aX9_operate 131 rfl) (by decide) rfl (by decide : (147 : Int32).toInt = 147) (fun cd434 => ?_) (fun cd434 => ?_)
                                        · refine hw_aloadn (aX9_operate 141 rfl) rfl ?_
                                          refine hw_aloadn (aX9_operate 142 rfl) rfl ?_
                                          obtain ⟨x435, h436⟩ : ∃ y, FL 48 12 = y := ⟨_, rfl⟩
                                          have h436l := congrArg Int64.toInt h436
                                          have := l_rng x435
                                          refine hw_get (v := .long (x435)) (aX9_operate 143 rfl) wf_RX9_96 (c48 hS) (s48 hS) (by decide) (congrArg Value.long (show FL 48 12 = x435 from h436)) ?_
                                          refine xw_l2i (aX9_operate 144 rfl) ?_
                                          refine hw_ti (fun x437 => ?_)
                                          have b438 := i_rng x437
                                          refine hw_aloadn (aX9_operate 145 rfl) rfl ?_
                                          obtain ⟨x439, h440⟩ : ∃ y, FL 48 13 = y := ⟨_, rfl⟩
                                          have h440l := congrArg Int64.toInt h440
                                          have := l_rng x439
                                          refine hw_get (v := .long (x439)) (aX9_operate 146 rfl) wf_RX9_118 (c48 hS) (s48 hS) (by decide) (congrArg Value.long (show FL 48 13 = x439 from h440)) ?_
                                          refine xw_l2i (aX9_operate 147 rfl) ?_
                                          refine hw_ti (fun x441 => ?_)
                                          have b442 := i_rng x441
                                          refine hw_callV (Bs := [.int (x437), .int (x441)]) (rest := []) (aX9_operate 148 rfl) wc_RX9_177 (by decide) rfl wi_yX9_addPiece wv_yX9_addPiece (c48 hS) (s48 hS) rfl rfl rfl (Nat.le_of_ble_eq_true rfl) (Nat.le_of_ble_eq_true rfl) (k_X9_addPiece (d := d + 54) hS hF hI hR (48) (c48 hS) (s48 hS) (Or.inl (by decide)) (x437) (x441) ) (fun v443 sv444 p445 => ?_)
                                          obtain ⟨r446, rfl, FI447, FL448, FR449, rfl, hI450, f451, f452, f453, hF454, hR455⟩ := p445
                                          have rg_r446 := i_rng r446
                                          show hw sk base _ _ _ _ _ [.int (r446)] _ _
                                          refine xw_iret (aX9_operate 149 rfl) rfl rfl ?_
                                          exact ⟨r446, rfl, FI447, FL448, FR449, rfl, hI450, (gf_tr ex_rf gf_rf f451 rfl rfl rfl), (gf_tr ex_rf gf_rf f452 rfl rfl rfl), (gf_tr ex_rf gf_rf f453 rfl rfl rfl), hF454, hR455⟩
                                        · omega
                                  · omega
                              · omega
                      · omega
                  · omega
            · refine hw_aloadn (aX9_operate 35 rfl) rfl ?_
              refine hw_aloadn (aX9_operate 36 rfl) rfl ?_
              refine hw_get (v := .ref (base + 23)) (aX9_operate 37 rfl) wf_RX9_29 (c48 hS) (s48 hS) (by decide) (congrArg (fun r => va_rf (h_rf base r)) (r48_0 hF)) ?_
              refine xw_iloadn (aX9_operate 38 rfl) rfl ?_
              refine hw_bp (v := (112 : Int32)) (aX9_operate 39 rfl) (by decide) ?_
              refine xw_isub (aX9_operate 40 rfl) ?_
              refine hw_tie (A := ((a1).toInt) - (112)) (i_sub rfl (by decide : (112 : Int32).toInt = 112) (by omega) (by omega)) (fun x458 e459 => ?_)
              refine xw_i2l (aX9_operate 41 rfl) ?_
              refine hw_tle (A := ((a1).toInt) - (112)) (i_2l e459) (fun x460 e461 => ?_)
              refine hw_callV (Bs := [.long (x460)]) (rest := [.ref (base + 48)]) (aX9_operate 42 rfl) wc_RX9_162 (by decide) rfl wi_yX1_registerValue wv_yX1_registerValue (c23 hS) (s23 hS) rfl rfl rfl (Nat.le_of_ble_eq_true rfl) (Nat.le_of_ble_eq_true rfl) (k_X1_registerValue (d := d + 56) hS hF hI hR (x460) ) (fun v462 sv463 p464 => ?_)
              obtain ⟨r465, rfl, rfl⟩ := p464
              have rg_r465 := l_rng r465
              show hw sk base _ _ _ _ _ [.long (r465), .ref (base + 48)] _ _
              refine hw_aloadn (aX9_operate 43 rfl) rfl ?_
              obtain ⟨x471, h472⟩ : ∃ y, FL 48 12 = y := ⟨_, rfl⟩
              have h472l := congrArg Int64.toInt h472
              have := l_rng x471
              refine hw_get (v := .long (x471)) (aX9_operate 44 rfl) wf_RX9_96 (c48 hS) (s48 hS) (by decide) (congrArg Value.long (show FL 48 12 = x471 from h472)) ?_
              refine xw_ladd (aX9_operate 45 rfl) ?_
              refine hw_tl (fun x473 => ?_)
              have b474 := l_rng x473
              refine hw_callV (Bs := [.long (x473)]) (rest := []) (aX9_operate 46 rfl) wc_RX9_158 (by decide) rfl wi_yX9_push wv_yX9_push (c48 hS) (s48 hS) rfl rfl rfl (Nat.le_of_ble_eq_true rfl) (Nat.le_of_ble_eq_true rfl) (k_X9_push (d := d + 55) hS hF hI hR (48) (c48 hS) (s48 hS) (Or.inl (by decide)) (x473) ) (fun v475 sv476 p477 => ?_)
              obtain ⟨r478, rfl, FI479, FL480, rfl, hI481, f482, f483⟩ := p477
              have rg_r478 := i_rng r478
              show hw sk base _ _ _ _ _ [.int (r478)] _ _
              refine xw_iret (aX9_operate 47 rfl) rfl rfl ?_
              exact ⟨r478, rfl, FI479, FL480, FR, rfl, hI481, (gf_tr ex_rf gf_rf f482 rfl rfl rfl), (gf_tr ex_rf gf_rf f483 rfl rfl rfl), gf_rf, hF, hR⟩
        · refine hw_aloadn (aX9_operate 19 rfl) rfl ?_
          refine hw_get (v := .ref (base + 71)) (aX9_operate 20 rfl) wf_RX9_18 (c48 hS) (s48 hS) (by decide) (congrArg (fun r => va_rf (h_rf base r)) (r48_3 hF)) ?_
          refine hw_ic (v := (2 : Int32)) (aX9_operate 21 rfl) (by decide) ?_
          refine xw_iloadn (aX9_operate 22 rfl) rfl ?_
          refine hw_bp (v := (80 : Int32)) (aX9_operate 23 rfl) (by decide) ?_
          refine xw_isub (aX9_operate 24 rfl) ?_
          refine hw_tie (A := ((a1).toInt) - (80)) (i_sub rfl (by decide : (80 : Int32).toInt = 80) (by omega) (by omega)) (fun x488 e489 => ?_)
          refine xw_i2l (aX9_operate 25 rfl) ?_
          refine hw_tle (A := ((a1).toInt) - (80)) (i_2l e489) (fun x490 e491 => ?_)
          refine hw_callV (Bs := [.int ((2 : Int32)), .long (x490)]) (rest := []) (aX9_operate 26 rfl) wc_RX9_65 (by decide) rfl wi_yX5_become wv_yX5_become (c71 hS) (s71 hS) rfl rfl rfl (Nat.le_of_ble_eq_true rfl) (Nat.le_of_ble_eq_true rfl) (k_X5_become (d := d + 56) hS hF hI hR (71) (c71 hS) (s71 hS) (Or.inl (by decide)) ((2 : Int32)) (x490) ) (fun v492 sv493 p494 => ?_)
          obtain ⟨rfl, FI496, FL497, rfl, hI498, f499, f500⟩ := p494
          show hw sk base _ _ _ _ _ [] _ _
          refine hw_ic (v := (0 : Int32)) (aX9_operate 27 rfl) (by decide) ?_
          refine xw_iret (aX9_operate 28 rfl) rfl rfl ?_
          have e505 : ((0 : Int32)).toInt = 0 := (by decide : (0 : Int32).toInt = 0)
          exact ⟨(0 : Int32), rfl, FI496, FL497, FR, rfl, hI498, (gf_tr ex_rf gf_rf f499 rfl rfl rfl), (gf_tr ex_rf gf_rf f500 rfl rfl rfl), gf_rf, hF, hR⟩
    · refine hw_aloadn (aX9_operate 6 rfl) rfl ?_
      refine xw_iloadn (aX9_operate 7 rfl) rfl ?_
      refine hw_bp (v := (48 : Int32)) (aX9_operate 8 rfl) (by decide) ?_
      refine xw_isub (aX9_operate 9 rfl) ?_
      refine hw_tie (A := ((a1).toInt) - (48)) (i_sub rfl (by decide : (48 : Int32).toInt = 48) (by omega) (by omega)) (fun x506 e507 => ?_)
      refine xw_i2l (aX9_operate 10 rfl) ?_
      refine hw_tle (A := ((a1).toInt) - (48)) (i_2l e507) (fun x508 e509 => ?_)
      refine hw_callV (Bs := [.long (x508)]) (rest := []) (aX9_operate 11 rfl) wc_RX9_158 (by decide) rfl wi_yX9_push wv_yX9_push (c48 hS) (s48 hS) rfl rfl rfl (Nat.le_of_ble_eq_true rfl) (Nat.le_of_ble_eq_true rfl) (k_X9_push (d := d + 55) hS hF hI hR (48) (c48 hS) (s48 hS) (Or.inl (by decide)) (x508) ) (fun v510 sv511 p512 => ?_)
      obtain ⟨r513, rfl, FI514, FL515, rfl, hI516, f517, f518⟩ := p512
      have rg_r513 := i_rng r513
      show hw sk base _ _ _ _ _ [.int (r513)] _ _
      refine xw_iret (aX9_operate 12 rfl) rfl rfl ?_
      exact ⟨r513, rfl, FI514, FL515, FR, rfl, hI516, (gf_tr ex_rf gf_rf f517 rfl rfl rfl), (gf_tr ex_rf gf_rf f518 rfl rfl rfl), gf_rf, hF, hR⟩
set_option maxHeartbeats 4000000 in
set_option maxRecDepth 100000 in
theorem k_call48 {sk : xK} {base d n sl : Nat} {SH : Nat → Nat × Nat} {FI : Nat → Nat → Int32} {FL : Nat → Nat → Int64} {FR : Nat → Nat → Option Nat} {E e : Nat} (ihR : ∀ (base d n sl : Nat) (SH : Nat → Nat × Nat) (FI : Nat → Nat → Int32) (FL : Nat → Nat → Int64) (FR : Nat → Nat → Option Nat) (hS : h_S n SH) (hF : h_FR FR) (hI : g_I FI) (hR : g_R n SH FR) (a1 : Nat) {z1 : Nat} (ha1l : a1 < n) (ha1s : SH a1 = (100, z1)) (ha1o : own a1) (a2 : Int32) (a3 : Int32) (a4 : Int32) (g0 : 8 - (a4).toInt < (e : Int)) (g1 : 0 ≤ (a4).toInt ∧ (a4).toInt ≤ 8) , hw sk base (E + d) none 87 0 [(0, .ref (base + 48)), (1, .ref (base + a1)), (2, .int (a2)), (3, .int (a3)), (4, .int (a4))] [] (n, sl, SH, FI, FL, FR) (h_I (fun r s => ∃ FI' FL' FR', s = (n, sl, SH, FI', FL', FR') ∧ g_I FI' ∧ g_fr n (shd SH) [(48, 5), (48, 6), (48, 7), (48, 8), (48, 9), (48, 10), (48, 11), (49, 5), (49, 6), (49, 7), (49, 8), (49, 9), (49, 10), (49, 11)] [] [5, 8, 9] FI FI' ∧ g_fr n (shd SH) [(48, 12), (48, 13), (48, 14), (48, 15), (49, 12), (49, 13), (49, 14), (49, 15)] [] [5, 9, 101] FL FL' ∧ g_fr n (shd SH) [] [] [5] FR FR' ∧ h_FR FR' ∧ g_R n SH FR'))) (hS : h_S n SH) (hF : h_FR FR) (hI : g_I FI) (hR : g_R n SH FR) (a1 : Int64) (a2 : Int32) (g0 : 8 - (a2).toInt < (e : Int) + 1) (g1 : 0 ≤ (a2).toInt ∧ (a2).toInt ≤ 8) : hw sk base (E + d + 1) none 97 0 [(0, .ref (base + 48)), (1, .long (a1)), (3, .int (a2))] [] (n, sl, SH, FI, FL, FR) (h_I (fun r s => ∃ FI' FL' FR', s = (n, sl, SH, FI', FL', FR') ∧ g_I FI' ∧ g_fr n (shd SH) [(48, 5), (48, 6), (48, 7), (48, 8), (48, 9), (48, 10), (48, 11), (49, 5), (49, 6), (49, 7), (49, 8), (49, 9), (49, 10), (49, 11)] [] [5, 8, 9] FI FI' ∧ g_fr n (shd SH) [(48, 12), (48, 13), (48, 14), (48, 15), (49, 12), (49, 13), (49, 14), (49, 15)] [] [5, 9, 101] FL FL' ∧ g_fr n (shd SH) [] [] [5] FR FR' ∧ h_FR FR' ∧ g_R n SH FR')) := by
  have rg_a1 := l_rng a1
  have rg_a2 := i_rng a2
  refine xw_lloadn (aX9_call 0 rfl) rfl ?_
  refine hw_lc (v := (0 : Int64)) (aX9_call 1 rfl) (by decide) ?_
  refine hw_lclt (tgt := 26) (aX9_call 2 rfl) (aX9_call 3 rfl) (by decide) rfl (by decide : (0 : Int64).toInt = 0) (fun cd1 => ?_) (fun cd1 => ?_)
  · refine hw_bp (v := (8 : Int32)) (aX9_call 15 rfl) (by decide) ?_
    refine xw_iret (aX9_call 16 rfl) rfl rfl ?_
    have e2 : ((8 : Int32)).toInt = 8 := (by decide : (8 : Int32).toInt = 8)
    exact ⟨(8 : Int32), rfl, FI, FL, FR, rfl, hI, gf_rf, gf_rf, gf_rf, hF, hR⟩
  · refine xw_lloadn (aX9_call 4 rfl) rfl ?_
    refine hw_aloadn (aX9_call 5 rfl) rfl ?_
    refine hw_get (v := .ref (base + 23)) (aX9_call 6 rfl) wf_RX9_29 (c48 hS) (s48 hS) (by decide) (congrArg (fun r => va_rf (h_rf base r)) (r48_0 hF)) ?_
    refine hw_get (v := .ref (base + 26)) (aX9_call 7 rfl) wf_RX9_154 (c23 hS) (s23 hS) (by decide) (congrArg (fun r => va_rf (h_rf base r)) (r23_2 hF)) ?_
    refine hw_alen (k := 6) (z := 16) (v := (16 : Int32)) (aX9_call 8 rfl) (c26 hS) (s26 hS) (by decide) (by decide) ?_
    refine xw_i2l (aX9_call 9 rfl) ?_
    refine hw_tle (A := 16) (i_2l (by decide : (16 : Int32).toInt = 16)) (fun x3 e4 => ?_)
    refine hw_lcge (tgt := 26) (aX9_call 10 rfl) (aX9_call 11 rfl) (by decide) rfl e4 (fun cd5 => ?_) (fun cd5 => ?_)
    · refine hw_bp (v := (8 : Int32)) (aX9_call 15 rfl) (by decide) ?_
      refine xw_iret (aX9_call 16 rfl) rfl rfl ?_
      have e6 : ((8 : Int32)).toInt = 8 := (by decide : (8 : Int32).toInt = 8)
      exact ⟨(8 : Int32), rfl, FI, FL, FR, rfl, hI, gf_rf, gf_rf, gf_rf, hF, hR⟩
    · refine xw_iloadn (aX9_call 12 rfl) rfl ?_
      refine hw_bp (v := (8 : Int32)) (aX9_call 13 rfl) (by decide) ?_
      refine hw_iclt (tgt := 29) (aX9_call 14 rfl) (by decide) rfl (by decide : (8 : Int32).toInt = 8) (fun cd7 => ?_) (fun cd7 => ?_)
      · refine hw_aloadn (aX9_call 17 rfl) rfl ?_
        refine hw_get (v := .ref (base + 23)) (aX9_call 18 rfl) wf_RX9_29 (c48 hS) (s48 hS) (by decide) (congrArg (fun r => va_rf (h_rf base r)) (r48_0 hF)) ?_
        refine hw_get (v := .ref (base + 26)) (aX9_call 19 rfl) wf_RX9_154 (c23 hS) (s23 hS) (by decide) (congrArg (fun r => va_rf (h_rf base r)) (r23_2 hF)) ?_
        refine xw_lloadn (aX9_call 20 rfl) rfl ?_
        refine xw_l2i (aX9_call 21 rfl) ?_
        refine hw_tie (A := (a1).toInt) (l_2i rfl (by omega) (by omega)) (fun x8 e9 => ?_)
        obtain ⟨o10, h11⟩ : ∃ y, FR 26 (x8).toNatClampNeg = y := ⟨_, rfl⟩
        have ht12 : ∀ r, o10 = some r → r < n ∧ own r ∧ SH r = (100, (SH r).2) := fun r e => gR_get hR (c26 hS) (Or.inl (by decide)) (s26 hS) (h11.trans e)
        obtain ⟨r13, rfl⟩ := gR_nn hR (show g_nn 26 _ by have := i_lt (x := x8) (N := 16) e9 (by omega) (by omega); unfold g_nn; omega) h11
        obtain ⟨lt14, ow15, sh16⟩ := ht12 r13 rfl
        refine hw_aald (k := 6) (v := some (r13)) (aX9_call 22 rfl) (c26 hS) (s26 hS) (by decide) (by decide) (h_in e9 (by omega) (by omega)) (show FR 26 (x8).toNatClampNeg = some (r13) from h11) ?_
        refine hw_astore (L2 := [(4, .ref (base + r13)), (0, .ref (base + 48)), (1, .long (a1)), (3, .int (a2))]) (aX9_call 23 rfl) (by decide) rfl ?_
        refine hw_aloadn (aX9_call 24 rfl) rfl ?_
        refine hw_aload (aX9_call 25 rfl) rfl ?_
        refine hw_ic (v := (0 : Int32)) (aX9_call 26 rfl) (by decide) ?_
        refine hw_aload (aX9_call 27 rfl) rfl ?_
        obtain ⟨x17, h18⟩ : ∃ y, Int32.ofNat (SH r13).2 = y := ⟨_, rfl⟩
        have b19 : (x17).toInt ≤ (((SH r13).2 : Nat) : Int) := by rw [← h18]; exact i_len
        have := i_rng x17
        refine hw_alen (k := 0) (v := x17) (aX9_call 28 rfl) lt14 sh16 (by decide) h18 ?_
        refine xw_iloadn (aX9_call 29 rfl) rfl ?_
        refine hw_ic (v := (1 : Int32)) (aX9_call 30 rfl) (by decide) ?_
        refine xw_iadd (aX9_call 31 rfl) ?_
        refine hw_tie (A := ((a2).toInt) + (1)) (i_add rfl (by decide : (1 : Int32).toInt = 1) (by omega) (by omega)) (fun x20 e21 => ?_)
        refine hw_callV (Bs := [.ref (base + r13), .int ((0 : Int32)), .int (x17), .int (x20)]) (rest := []) (aX9_call 32 rfl) wc_RX9_41 (by decide) rfl wi_yX9_perform wv_yX9_perform (c48 hS) (s48 hS) rfl rfl rfl (Nat.le_of_ble_eq_true rfl) (Nat.le_of_ble_eq_true rfl) (ihR _ (d) _ _ _ _ _ _ hS hF hI hR (r13) lt14 sh16 ow15 ((0 : Int32)) (x17) (x20) (by have := (e21 : (x20).toInt = ((a2).toInt) + (1)); omega) (by have := (e21 : (x20).toInt = ((a2).toInt) + (1)); have := (e21 : (x20).toInt = ((a2).toInt) + (1)); omega)) (fun v22 sv23 p24 => ?_)
        obtain ⟨r25, rfl, FI26, FL27, FR28, rfl, hI29, f30, f31, f32, hF33, hR34⟩ := p24
        have rg_r25 := i_rng r25
        show hw sk base _ _ _ _ _ [.int (r25)] _ _
        refine xw_iret (aX9_call 33 rfl) rfl rfl ?_
        exact ⟨r25, rfl, FI26, FL27, FR28, rfl, hI29, (gf_tr ex_rf gf_rf f30 rfl rfl rfl), (gf_tr ex_rf gf_rf f31 rfl rfl rfl), (gf_tr ex_rf gf_rf f32 rfl rfl rfl), hF33, hR34⟩
      · refine hw_bp (v := (8 : Int32)) (aX9_call 15 rfl) (by decide) ?_
        refine xw_iret (aX9_call 16 rfl) rfl rfl ?_
        have e37 : ((8 : Int32)).toInt = 8 := (by decide : (8 : Int32).toInt = 8)
        exact ⟨(8 : Int32), rfl, FI, FL, FR, rfl, hI, gf_rf, gf_rf, gf_rf, hF, hR⟩
set_option maxHeartbeats 4000000 in
set_option maxRecDepth 100000 in
theorem k_step48 {sk : xK} {base d n sl : Nat} {SH : Nat → Nat × Nat} {FI : Nat → Nat → Int32} {FL : Nat → Nat → Int64} {FR : Nat → Nat → Option Nat} {E e : Nat} (ihR : ∀ (base d n sl : Nat) (SH : Nat → Nat × Nat) (FI : Nat → Nat → Int32) (FL : Nat → Nat → Int64) (FR : Nat → Nat → Option Nat) (hS : h_S n SH) (hF : h_FR FR) (hI : g_I FI) (hR : g_R n SH FR) (a1 : Nat) {z1 : Nat} (ha1l : a1 < n) (ha1s : SH a1 = (100, z1)) (ha1o : own a1) (a2 : Int32) (a3 : Int32) (a4 : Int32) (g0 : 8 - (a4).toInt < (e : Int)) (g1 : 0 ≤ (a4).toInt ∧ (a4).toInt ≤ 8) , hw sk base (E + d) none 87 0 [(0, .ref (base + 48)), (1, .ref (base + a1)), (2, .int (a2)), (3, .int (a3)), (4, .int (a4))] [] (n, sl, SH, FI, FL, FR) (h_I (fun r s => ∃ FI' FL' FR', s = (n, sl, SH, FI', FL', FR') ∧ g_I FI' ∧ g_fr n (shd SH) [(48, 5), (48, 6), (48, 7), (48, 8), (48, 9), (48, 10), (48, 11), (49, 5), (49, 6), (49, 7), (49, 8), (49, 9), (49, 10), (49, 11)] [] [5, 8, 9] FI FI' ∧ g_fr n (shd SH) [(48, 12), (48, 13), (48, 14), (48, 15), (49, 12), (49, 13), (49, 14), (49, 15)] [] [5, 9, 101] FL FL' ∧ g_fr n (shd SH) [] [] [5] FR FR' ∧ h_FR FR' ∧ g_R n SH FR'))) (hS : h_S n SH) (hF : h_FR FR) (hI : g_I FI) (hR : g_R n SH FR) (a1 : Nat) {z1 : Nat} (ha1l : a1 < n) (ha1s : SH a1 = (100, z1)) (ha1o : own a1) (a2 : Int32) (a3 : Int32) (a4 : Int32) (g0 : 8 - (a4).toInt < (e : Int) + 1) (g1 : 0 ≤ (a4).toInt ∧ (a4).toInt ≤ 8) (gg0 : 0 ≤ (a2).toInt ∧ (a2).toInt < (z1 : Int)) : hw sk base (E + d + 58) none 88 0 [(0, .ref (base + 48)), (1, .ref (base + a1)), (2, .int (a2)), (3, .int (a3)), (4, .int (a4))] [] (n, sl, SH, FI, FL, FR) (h_I (fun r s => ∃ FI' FL' FR', s = (n, sl, SH, FI', FL', FR') ∧ g_I FI' ∧ g_fr n (shd SH) [(48, 5), (48, 6), (48, 7), (48, 8), (48, 9), (48, 10), (48, 11), (49, 5), (49, 6), (49, 7), (49, 8), (49, 9), (49, 10), (49, 11)] [] [5, 8, 9] FI FI' ∧ g_fr n (shd SH) [(48, 12), (48, 13), (48, 14), (48, 15), (49, 12), (49, 13), (49, 14), (49, 15)] [] [5, 9, 101] FL FL' ∧ g_fr n (shd SH) [] [] [5] FR FR' ∧ h_FR FR' ∧ g_R n SH FR')) := by
  have rg_a2 := i_rng a2
  have rg_a3 := i_rng a3
  have rg_a4 := i_rng a4
  refine hw_aloadn (aX9_step 0 rfl) rfl ?_
  obtain ⟨x1, h2⟩ : ∃ y, FI 48 7 = y := ⟨_, rfl⟩
  have h2l := congrArg Int32.toInt h2
  have := i_rng x1
  refine hw_get (v := .int (x1)) (aX9_step 1 rfl) wf_RX9_56 (c48 hS) (s48 hS) (by decide) (congrArg Value.int (show FI 48 7 = x1 from h2)) ?_
  refine hw_aloadn (aX9_step 2 rfl) rfl ?_
  obtain ⟨x3, h4⟩ : ∃ y, FI 48 6 = y := ⟨_, rfl⟩
  have h4l := congrArg Int32.toInt h4
  have := i_rng x3
  refine hw_get (v := .int (x3)) (aX9_step 3 rfl) wf_RX9_53 (c48 hS) (s48 hS) (by decide) (congrArg Value.int (show FI 48 6 = x3 from h4)) ?_
  refine hw_iclt (tgt := 14) (aX9_step 4 rfl) (by decide) rfl rfl (fun cd5 => ?_) (fun cd5 => ?_)
  · refine hw_aloadn (aX9_step 7 rfl) rfl ?_
    refine xw_dup (aX9_step 8 rfl) rfl ?_
    refine hw_get (v := .int (x1)) (aX9_step 9 rfl) wf_RX9_56 (c48 hS) (s48 hS) (by decide) (congrArg Value.int (show FI 48 7 = x1 from h2)) ?_
    refine hw_ic (v := (1 : Int32)) (aX9_step 10 rfl) (by decide) ?_
    refine xw_iadd (aX9_step 11 rfl) ?_
    refine hw_tie (A := ((x1).toInt) + (1)) (i_add rfl (by decide : (1 : Int32).toInt = 1) (by omega) (by omega)) (fun x6 e7 => ?_)
    refine hv_puti (aX9_step 12 rfl) wf_RX9_56 (c48 hS) (s48 hS) (by decide) rfl rfl (fun FI8 u9 => ?_)
    have hI10 : g_I FI8 := gU_F hI u9 rfl
    refine hw_aloadn (aX9_step 13 rfl) rfl ?_
    refine xw_iloadn (aX9_step 14 rfl) rfl ?_
    obtain ⟨x11, h12⟩ : ∃ y, FI8 a1 (a2).toNatClampNeg = y := ⟨_, rfl⟩
    have h12l := congrArg Int32.toInt h12
    have := i_rng x11
    refine hw_iald (v := x11) (aX9_step 15 rfl) ha1l ha1s (h_in rfl (by omega) (by omega)) (show FI8 a1 (a2).toNatClampNeg = x11 from h12) ?_
    refine xw_istore (L2 := [(5, .int (x11)), (0, .ref (base + 48)), (1, .ref (base + a1)), (2, .int (a2)), (3, .int (a3)), (4, .int (a4))]) (aX9_step 16 rfl) (by decide) rfl ?_
    refine hw_aloadn (aX9_step 17 rfl) rfl ?_
    refine xw_iloadn (aX9_step 18 rfl) rfl ?_
    refine hw_ic (v := (1 : Int32)) (aX9_step 19 rfl) (by decide) ?_
    refine xw_iadd (aX9_step 20 rfl) ?_
    have := i_rng ((a2) + ((1 : Int32)))
    refine hv_puti (aX9_step 21 rfl) wf_RX9_78 (c48 hS) (s48 hS) (by decide) rfl rfl (fun FI13 u14 => ?_)
    have hI15 : g_I FI13 := gU_F hI10 u14 rfl
    refine hw_aloadn (aX9_step 22 rfl) rfl ?_
    refine hw_aloadn (aX9_step 23 rfl) rfl ?_
    refine xw_iloadn (aX9_step 24 rfl) rfl ?_
    refine xw_iload (aX9_step 25 rfl) rfl ?_
    refine hw_callS (As := [.int (x11)]) (rest := [.int (a3), .ref (base + a1), .ref (base + 48)]) (aX9_step 26 rfl) wc_RX9_81 (by decide) rfl wt_yX9_shape rfl rfl (Nat.le_of_ble_eq_true rfl) (Nat.le_of_ble_eq_true rfl) (k_X9_shape (d := E + d + 57) hS hF hI15 hR (x11) ) (fun v16 sv17 p18 => ?_)
    obtain ⟨r19, rfl, rfl⟩ := p18
    have rg_r19 := i_rng r19
    show hw sk base _ _ _ _ _ [.int (r19), .int (a3), .ref (base + a1), .ref (base + 48)] _ _
    refine hw_callV (Bs := [.ref (base + a1), .int (a3), .int (r19)]) (rest := []) (aX9_step 27 rfl) wc_RX9_85 (by decide) rfl wi_yX9_readOperands wv_yX9_readOperands (c48 hS) (s48 hS) rfl rfl rfl (Nat.le_of_ble_eq_true rfl) (Nat.le_of_ble_eq_true rfl) (k_X9_readOperands (d := E + d + 55) hS hF hI15 hR (48) (c48 hS) (s48 hS) (Or.inl (by decide)) (a1) ha1l ha1s ha1o (a3) (r19) ) (fun v25 sv26 p27 => ?_)
    obtain ⟨r28, rfl, FI29, FL30, rfl, hI31, f32, f33⟩ := p27
    have rg_r28 := i_rng r28
    show hw sk base _ _ _ _ _ [.int (r28)] _ _
    refine xw_istore (L2 := [(6, .int (r28)), (5, .int (x11)), (0, .ref (base + 48)), (1, .ref (base + a1)), (2, .int (a2)), (3, .int (a3)), (4, .int (a4))]) (aX9_step 28 rfl) (by decide) rfl ?_
    refine xw_iload (aX9_step 29 rfl) rfl ?_
    have j129 : ∀ (g48 : Int32), hw sk base (E + d + 58) none 88 62 [(0, .ref (base + 48)), (1, .ref (base + a1)), (4, .int (a4)), (5, .int (x11)), (6, .int (g48))] [] (n, sl, SH, FI29, FL30, FR) (h_I (fun r s => ∃ FI' FL' FR', s = (n, sl, SH, FI', FL', FR') ∧ g_I FI' ∧ g_fr n (shd SH) [(48, 5), (48, 6), (48, 7), (48, 8), (48, 9), (48, 10), (48, 11), (49, 5), (49, 6), (49, 7), (49, 8), (49, 9), (49, 10), (49, 11)] [] [5, 8, 9] FI FI' ∧ g_fr n (shd SH) [(48, 12), (48, 13), (48, 14), (48, 15), (49, 12), (49, 13), (49, 14), (49, 15)] [] [5, 9, 101] FL FL' ∧ g_fr n (shd SH) [] [] [5] FR FR' ∧ h_FR FR' ∧ g_R n SH FR')) := by
      intro g48
      have rg_g48 := i_rng g48
      refine xw_iload (aX9_step 35 rfl) rfl ?_
      refine hw_ifeq (tgt := 70) (aX9_step 36 rfl) (by decide) rfl (fun cd130 => ?_) (fun cd130 => ?_)
      · refine hw_aloadn (aX9_step 39 rfl) rfl ?_
        obtain ⟨x131, h132⟩ : ∃ y, FI29 48 10 = y := ⟨_, rfl⟩
        have h132l := congrArg Int32.toInt h132
        have := i_rng x131
        refine hw_get (v := .int (x131)) (aX9_step 40 rfl) wf_RX9_78 (c48 hS) (s48 hS) (by decide) (congrArg Value.int (show FI29 48 10 = x131 from h132)) ?_
        refine xw_istore (L2 := [(7, .int (x131)), (0, .ref (base + 48)), (1, .ref (base + a1)), (4, .int (a4)), (5, .int (x11)), (6, .int (g48))]) (aX9_step 41 rfl) (by decide) rfl ?_
        refine xw_iload (aX9_step 42 rfl) rfl ?_
        refine hw_bp (v := (47 : Int32)) (aX9_step 43 rfl) (by decide) ?_
        have j210 : (40 ≤ (x11).toInt ∧ (x11).toInt ≤ 47) → hw sk base (E + d + 58) none 88 90 [(0, .ref (base + 48)), (5, .int (x11)), (7, .int (x131))] [] (n, sl, SH, FI29, FL30, FR) (h_I (fun r s => ∃ FI' FL' FR', s = (n, sl, SH, FI', FL', FR') ∧ g_I FI' ∧ g_fr n (shd SH) [(48, 5), (48, 6), (48, 7), (48, 8), (48, 9), (48, 10), (48, 11), (49, 5), (49, 6), (49, 7), (49, 8), (49, 9), (49, 10), (49, 11)] [] [5, 8, 9] FI FI' ∧ g_fr n (shd SH) [(48, 12), (48, 13), (48, 14), (48, 15), (49, 12), (49, 13), (49, 14), (49, 15)] [] [5, 9, 101] FL FL' ∧ g_fr n (shd SH) [] [] [5] FR FR' ∧ h_FR FR' ∧ g_R n SH FR')) := by
          intro q211
          refine hw_aloadn (aX9_step 48 rfl) rfl ?_
          refine xw_iload (aX9_step 49 rfl) rfl ?_
          refine hw_bp (v := (47 : Int32)) (aX9_step 50 rfl) (by decide) ?_
          have j240 : ∀ (g232 : Int32) (FIj233 : Nat → Nat → Int32), (g_fr n (shd SH) [(48, 5), (48, 6), (48, 7), (48, 8), (48, 9), (48, 10), (48, 11), (49, 5), (49, 6), (49, 7), (49, 8), (49, 9), (49, 10), (49, 11)] [] [5, 8, 9] FI FIj233) → (g_I FIj233) → hw sk base (E + d + 58) none 88 120 [(0, .ref (base + 48))] [.int (g232), .ref (base + 48)] (n, sl, SH, FIj233, FL30, FR) (h_I (fun r s => ∃ FI' FL' FR', s = (n, sl, SH, FI', FL', FR') ∧ g_I FI' ∧ g_fr n (shd SH) [(48, 5), (48, 6), (48, 7), (48, 8), (48, 9), (48, 10), (48, 11), (49, 5), (49, 6), (49, 7), (49, 8), (49, 9), (49, 10), (49, 11)] [] [5, 8, 9] FI FI' ∧ g_fr n (shd SH) [(48, 12), (48, 13), (48, 14), (48, 15), (49, 12), (49, 13), (49, 14), (49, 15)] [] [5, 9, 101] FL FL' ∧ g_fr n (shd SH) [] [] [5] FR FR' ∧ h_FR FR' ∧ g_R n SH FR')) := by
            intro g232 FIj233 fr234 hI235
            have rg_g232 := i_rng g232
            refine hv_puti (aX9_step 64 rfl) wf_RX9_75 (c48 hS) (s48 hS) (by decide) rfl rfl (fun FI241 u242 => ?_)
            have hI243 : g_I FI241 := gU_F hI235 u242 rfl
            refine hw_ic (v := (0 : Int32)) (aX9_step 65 rfl) (by decide) ?_
            refine xw_iret (aX9_step 66 rfl) rfl rfl ?_
            have e244 : ((0 : Int32)).toInt = 0 := (by decide : (0 : Int32).toInt = 0)
            exact ⟨(0 : Int32), rfl, FI241, FL30, FR, rfl, hI243, (gf_f fr234 u242 (by decide)), (gf_tr ex_rf gf_rf f33 rfl rfl rfl), gf_rf, hF, hR⟩
          have j245 : ∀  (FIj225 : Nat → Nat → Int32), (g_fr n (shd SH) [(48, 5), (48, 6), (48, 7), (48, 8), (48, 9), (48, 10), (48, 11), (49, 5), (49, 6), (49, 7), (49, 8), (49, 9), (49, 10), (49, 11)] [] [5, 8, 9] FI FIj225) → (g_I FIj225) → hw sk base (E + d + 58) none 88 107 [(0, .ref (base + 48)), (7, .int (x131))] [.ref (base + 48)] (n, sl, SH, FIj225, FL30, FR) (h_I (fun r s => ∃ FI' FL' FR', s = (n, sl, SH, FI', FL', FR') ∧ g_I FI' ∧ g_fr n (shd SH) [(48, 5), (48, 6), (48, 7), (48, 8), (48, 9), (48, 10), (48, 11), (49, 5), (49, 6), (49, 7), (49, 8), (49, 9), (49, 10), (49, 11)] [] [5, 8, 9] FI FI' ∧ g_fr n (shd SH) [(48, 12), (48, 13), (48, 14), (48, 15), (49, 12), (49, 13), (49, 14), (49, 15)] [] [5, 9, 101] FL FL' ∧ g_fr n (shd SH) [] [] [5] FR FR' ∧ h_FR FR' ∧ g_R n SH FR')) := by
            intro FIj225 fr226 hI227
            refine xw_iload (aX9_step 57 rfl) rfl ?_
            refine hw_aloadn (aX9_step 58 rfl) rfl ?_
            obtain ⟨x246, h247⟩ : ∃ y, FL30 48 12 = y := ⟨_, rfl⟩
            have h247l := congrArg Int64.toInt h247
            have := l_rng x246
            refine hw_get (v := .long (x246)) (aX9_step 59 rfl) wf_RX9_96 (c48 hS) (s48 hS) (by decide) (congrArg Value.long (show FL30 48 12 = x246 from h247)) ?_
            refine xw_l2i (aX9_step 60 rfl) ?_
            refine hw_ti (fun x248 => ?_)
            have b249 := i_rng x248
            refine xw_iadd (aX9_step 61 rfl) ?_
            have := i_rng ((x131) + (x248))
            refine xw_goto (tgt := 120) (aX9_step 62 rfl) (by decide) ?_
            exact hw_L (j240 (((x131) + (x248))) FIj225 fr226 hI227) ⟨rfl, trivial⟩
          refine hw_iceq (tgt := 107) (aX9_step 51 rfl) (by decide) rfl (by decide : (47 : Int32).toInt = 47) (fun cd250 => ?_) (fun cd250 => ?_)
          · exact hw_L (j245 FI29 (gf_tr ex_rf (gf_f (gf_f gf_rf u9 (by decide)) u14 (by decide)) f32 rfl rfl rfl) hI31) ⟨rfl, rfl, trivial⟩
          · refine hw_aloadn (aX9_step 52 rfl) rfl ?_
            refine hw_callV (Bs := []) (rest := [.ref (base + 48)]) (aX9_step 53 rfl) wc_RX9_92 (by decide) rfl wi_yX9_pop wv_yX9_pop (c48 hS) (s48 hS) rfl rfl rfl (Nat.le_of_ble_eq_true rfl) (Nat.le_of_ble_eq_true rfl) (k_X9_pop (d := E + d + 57) hS hF hI31 hR (48) (c48 hS) (s48 hS) (Or.inl (by decide)) ) (fun v251 sv252 p253 => ?_)
            obtain ⟨r254, rfl, FI255, rfl, hI256, f257⟩ := p253
            have rg_r254 := l_rng r254
            show hw sk base _ _ _ _ _ [.long (r254), .ref (base + 48)] _ _
            refine hw_lc (v := (0 : Int64)) (aX9_step 54 rfl) (by decide) ?_
            refine hw_lceq (tgt := 118) (aX9_step 55 rfl) (aX9_step 56 rfl) (by decide) rfl (by decide : (0 : Int64).toInt = 0) (fun cd262 => ?_) (fun cd262 => ?_)
            · refine xw_iload (aX9_step 63 rfl) rfl ?_
              exact hw_L (j240 (x131) FI255 (gf_tr ex_rf (gf_tr ex_rf (gf_f (gf_f gf_rf u9 (by decide)) u14 (by decide)) f32 rfl rfl rfl) f257 rfl rfl rfl) hI256) ⟨rfl, trivial⟩
            · exact hw_L (j245 FI255 (gf_tr ex_rf (gf_tr ex_rf (gf_f (gf_f gf_rf u9 (by decide)) u14 (by decide)) f32 rfl rfl rfl) f257 rfl rfl rfl) hI256) ⟨rfl, rfl, trivial⟩
        refine hw_iceq (tgt := 90) (aX9_step 44 rfl) (by decide) rfl (by decide : (47 : Int32).toInt = 47) (fun cd263 => ?_) (fun cd263 => ?_)
        · exact hw_L (j210 (by omega)) ⟨rfl, rfl, rfl, trivial⟩
        · refine xw_iload (aX9_step 45 rfl) rfl ?_
          refine hw_bp (v := (40 : Int32)) (aX9_step 46 rfl) (by decide) ?_
          refine hw_icne (tgt := 125) (aX9_step 47 rfl) (by decide) rfl (by decide : (40 : Int32).toInt = 40) (fun cd264 => ?_) (fun cd264 => ?_)
          · refine xw_iload (aX9_step 67 rfl) rfl ?_
            refine hw_sp (v := (152 : Int32)) (aX9_step 68 rfl) (by decide) ?_
            have j312 : ∀ (g299 : Int32) (FIj300 : Nat → Nat → Int32) (FLj303 : Nat → Nat → Int64) (FRj305 : Nat → Nat → Option Nat), (g_fr n (shd SH) [(48, 5), (48, 6), (48, 7), (48, 8), (48, 9), (48, 10), (48, 11), (49, 5), (49, 6), (49, 7), (49, 8), (49, 9), (49, 10), (49, 11)] [] [5, 8, 9] FI FIj300) → (g_I FIj300) → (g_fr n (shd SH) [(48, 12), (48, 13), (48, 14), (48, 15), (49, 12), (49, 13), (49, 14), (49, 15)] [] [5, 9, 101] FL FLj303) → (g_fr n (shd SH) [] [] [5] FR FRj305) → (h_FR FRj305) → (g_R n SH FRj305) → hw sk base (E + d + 58) none 88 163 [(0, .ref (base + 48)), (7, .int (x131))] [.int (g299)] (n, sl, SH, FIj300, FLj303, FRj305) (h_I (fun r s => ∃ FI' FL' FR', s = (n, sl, SH, FI', FL', FR') ∧ g_I FI' ∧ g_fr n (shd SH) [(48, 5), (48, 6), (48, 7), (48, 8), (48, 9), (48, 10), (48, 11), (49, 5), (49, 6), (49, 7), (49, 8), (49, 9), (49, 10), (49, 11)] [] [5, 8, 9] FI FI' ∧ g_fr n (shd SH) [(48, 12), (48, 13), (48, 14), (48, 15), (49, 12), (49, 13), (49, 14), (49, 15)] [] [5, 9, 101] FL FL' ∧ g_fr n (shd SH) [] [] [5] FR FR' ∧ h_FR FR' ∧ g_R n SH FR')) := by
              intro g299 FIj300 FLj303 FRj305 fr301 hI302 fr304 fr306 hF307 hR308
              have rg_g299 := i_rng g299
              refine xw_istore (L2 := [(6, .int (g299)), (0, .ref (base + 48)), (7, .int (x131))]) (aX9_step 84 rfl) (by decide) rfl ?_
              refine hw_aloadn (aX9_step 85 rfl) rfl ?_
              refine xw_iload (aX9_step 86 rfl) rfl ?_
              refine hv_puti (aX9_step 87 rfl) wf_RX9_75 (c48 hS) (s48 hS) (by decide) rfl rfl (fun FI313 u314 => ?_)
              have hI315 : g_I FI313 := gU_F hI302 u314 rfl
              refine xw_iload (aX9_step 88 rfl) rfl ?_
              refine xw_iret (aX9_step 89 rfl) rfl rfl ?_
              exact ⟨g299, rfl, FI313, FLj303, FRj305, rfl, hI315, (gf_f fr301 u314 (by decide)), fr304, fr306, hF307, hR308⟩
            have j316 : hw sk base (E + d + 58) none 88 141 [(0, .ref (base + 48)), (4, .int (a4)), (7, .int (x131))] [] (n, sl, SH, FI29, FL30, FR) (h_I (fun r s => ∃ FI' FL' FR', s = (n, sl, SH, FI', FL', FR') ∧ g_I FI' ∧ g_fr n (shd SH) [(48, 5), (48, 6), (48, 7), (48, 8), (48, 9), (48, 10), (48, 11), (49, 5), (49, 6), (49, 7), (49, 8), (49, 9), (49, 10), (49, 11)] [] [5, 8, 9] FI FI' ∧ g_fr n (shd SH) [(48, 12), (48, 13), (48, 14), (48, 15), (49, 12), (49, 13), (49, 14), (49, 15)] [] [5, 9, 101] FL FL' ∧ g_fr n (shd SH) [] [] [5] FR FR' ∧ h_FR FR' ∧ g_R n SH FR')) := by
              refine hw_aloadn (aX9_step 73 rfl) rfl ?_
              refine hw_aloadn (aX9_step 74 rfl) rfl ?_
              obtain ⟨x317, h318⟩ : ∃ y, FL30 48 12 = y := ⟨_, rfl⟩
              have h318l := congrArg Int64.toInt h318
              have := l_rng x317
              refine hw_get (v := .long (x317)) (aX9_step 75 rfl) wf_RX9_96 (c48 hS) (s48 hS) (by decide) (congrArg Value.long (show FL30 48 12 = x317 from h318)) ?_
              refine xw_iload (aX9_step 76 rfl) rfl ?_
              refine hw_callV (Bs := [.long (x317), .int (a4)]) (rest := []) (aX9_step 77 rfl) wc_RX9_100 (by decide) rfl wi_yX9_call wv_yX9_call (c48 hS) (s48 hS) rfl rfl rfl (Nat.le_of_ble_eq_true rfl) (Nat.le_of_ble_eq_true rfl) (k_call48 (d := d + 56) ihR hS hF hI31 hR (x317) (a4) (by omega) (by omega)) (fun v319 sv320 p321 => ?_)
              obtain ⟨r322, rfl, FI323, FL324, FR325, rfl, hI326, f327, f328, f329, hF330, hR331⟩ := p321
              have rg_r322 := i_rng r322
              show hw sk base _ _ _ _ _ [.int (r322)] _ _
              refine xw_goto (tgt := 163) (aX9_step 78 rfl) (by decide) ?_
              exact hw_L (j312 (r322) FI323 FL324 FR325 (gf_tr ex_rf (gf_tr ex_rf (gf_f (gf_f gf_rf u9 (by decide)) u14 (by decide)) f32 rfl rfl rfl) f327 rfl rfl rfl) hI326 (gf_tr ex_rf (gf_tr ex_rf gf_rf f33 rfl rfl rfl) f328 rfl rfl rfl) (gf_tr ex_rf gf_rf f329 rfl rfl rfl) hF330 hR331) ⟨rfl, rfl, trivial⟩
            refine hw_iceq (tgt := 141) (aX9_step 69 rfl) (by decide) rfl (by decide : (152 : Int32).toInt = 152) (fun cd334 => ?_) (fun cd334 => ?_)
            · exact hw_L (j316) ⟨rfl, rfl, rfl, trivial⟩
            · refine xw_iload (aX9_step 70 rfl) rfl ?_
              refine hw_sp (v := (153 : Int32)) (aX9_step 71 rfl) (by decide) ?_
              refine hw_icne (tgt := 154) (aX9_step 72 rfl) (by decide) rfl (by decide : (153 : Int32).toInt = 153) (fun cd335 => ?_) (fun cd335 => ?_)
              · refine hw_aloadn (aX9_step 79 rfl) rfl ?_
                refine xw_iload (aX9_step 80 rfl) rfl ?_
                refine hw_aloadn (aX9_step 81 rfl) rfl ?_
                refine xw_iload (aX9_step 82 rfl) rfl ?_
                refine hw_callV (Bs := [.int (x11), .ref (base + a1), .int (a4)]) (rest := []) (aX9_step 83 rfl) wc_RX9_104 (by decide) rfl wi_yX9_operate wv_yX9_operate (c48 hS) (s48 hS) rfl rfl rfl (Nat.le_of_ble_eq_true rfl) (Nat.le_of_ble_eq_true rfl) (k_operate48 (d := E + d) hS hF hI31 hR (x11) (a1) ha1l ha1s ha1o (a4) (by omega)) (fun v336 sv337 p338 => ?_)
                obtain ⟨r339, rfl, FI340, FL341, FR342, rfl, hI343, f344, f345, f346, hF347, hR348⟩ := p338
                have rg_r339 := i_rng r339
                show hw sk base _ _ _ _ _ [.int (r339)] _ _
                exact hw_L (j312 (r339) FI340 FL341 FR342 (gf_tr ex_rf (gf_tr ex_rf (gf_f (gf_f gf_rf u9 (by decide)) u14 (by decide)) f32 rfl rfl rfl) f344 rfl rfl rfl) hI343 (gf_tr ex_rf (gf_tr ex_rf gf_rf f33 rfl rfl rfl) f345 rfl rfl rfl) (gf_tr ex_rf gf_rf f346 rfl rfl rfl) hF347 hR348) ⟨rfl, rfl, trivial⟩
              · exact hw_L (j316) ⟨rfl, rfl, rfl, trivial⟩
          · exact hw_L (j210 (by omega)) ⟨rfl, rfl, rfl, trivial⟩
      · refine xw_iload (aX9_step 37 rfl) rfl ?_
        refine xw_iret (aX9_step 38 rfl) rfl rfl ?_
        exact ⟨g48, rfl, FI29, FL30, FR, rfl, hI31, (gf_tr ex_rf (gf_f (gf_f gf_rf u9 (by decide)) u14 (by decide)) f32 rfl rfl rfl), (gf_tr ex_rf gf_rf f33 rfl rfl rfl), gf_rf, hF, hR⟩
    refine hw_ifne (tgt := 62) (aX9_step 30 rfl) (by decide) rfl (fun cd351 => ?_) (fun cd351 => ?_)
    · exact hw_L (j129 (r28)) ⟨rfl, rfl, rfl, rfl, rfl, trivial⟩
    · refine hw_aloadn (aX9_step 31 rfl) rfl ?_
      refine xw_iload (aX9_step 32 rfl) rfl ?_
      refine hw_callV (Bs := [.int (x11)]) (rest := []) (aX9_step 33 rfl) wc_RX9_89 (by decide) rfl wi_yX9_check wv_yX9_check (c48 hS) (s48 hS) rfl rfl rfl (Nat.le_of_ble_eq_true rfl) (Nat.le_of_ble_eq_true rfl) (k_X9_check (d := E + d + 56) hS hF hI31 hR (48) (c48 hS) (s48 hS) (Or.inl (by decide)) (x11) ) (fun v352 sv353 p354 => ?_)
      obtain ⟨r355, rfl, rfl⟩ := p354
      have rg_r355 := i_rng r355
      show hw sk base _ _ _ _ _ [.int (r355)] _ _
      refine xw_istore (L2 := [(6, .int (r355)), (5, .int (x11)), (0, .ref (base + 48)), (1, .ref (base + a1)), (2, .int (a2)), (3, .int (a3)), (4, .int (a4))]) (aX9_step 34 rfl) (by decide) rfl ?_
      exact hw_L (j129 (r355)) ⟨rfl, rfl, rfl, rfl, rfl, trivial⟩
  · refine hw_bp (v := (12 : Int32)) (aX9_step 5 rfl) (by decide) ?_
    refine xw_iret (aX9_step 6 rfl) rfl rfl ?_
    have e361 : ((12 : Int32)).toInt = 12 := (by decide : (12 : Int32).toInt = 12)
    exact ⟨(12 : Int32), rfl, FI, FL, FR, rfl, hI, gf_rf, gf_rf, gf_rf, hF, hR⟩
set_option maxHeartbeats 4000000 in
set_option maxRecDepth 100000 in
theorem k_performS48 {sk : xK} {base d n sl : Nat} {SH : Nat → Nat × Nat} {FI : Nat → Nat → Int32} {FL : Nat → Nat → Int64} {FR : Nat → Nat → Option Nat} {E e : Nat} (ihR : ∀ (base d n sl : Nat) (SH : Nat → Nat × Nat) (FI : Nat → Nat → Int32) (FL : Nat → Nat → Int64) (FR : Nat → Nat → Option Nat) (hS : h_S n SH) (hF : h_FR FR) (hI : g_I FI) (hR : g_R n SH FR) (a1 : Nat) {z1 : Nat} (ha1l : a1 < n) (ha1s : SH a1 = (100, z1)) (ha1o : own a1) (a2 : Int32) (a3 : Int32) (a4 : Int32) (g0 : 8 - (a4).toInt < (e : Int)) (g1 : 0 ≤ (a4).toInt ∧ (a4).toInt ≤ 8) , hw sk base (E + d) none 87 0 [(0, .ref (base + 48)), (1, .ref (base + a1)), (2, .int (a2)), (3, .int (a3)), (4, .int (a4))] [] (n, sl, SH, FI, FL, FR) (h_I (fun r s => ∃ FI' FL' FR', s = (n, sl, SH, FI', FL', FR') ∧ g_I FI' ∧ g_fr n (shd SH) [(48, 5), (48, 6), (48, 7), (48, 8), (48, 9), (48, 10), (48, 11), (49, 5), (49, 6), (49, 7), (49, 8), (49, 9), (49, 10), (49, 11)] [] [5, 8, 9] FI FI' ∧ g_fr n (shd SH) [(48, 12), (48, 13), (48, 14), (48, 15), (49, 12), (49, 13), (49, 14), (49, 15)] [] [5, 9, 101] FL FL' ∧ g_fr n (shd SH) [] [] [5] FR FR' ∧ h_FR FR' ∧ g_R n SH FR'))) (hS : h_S n SH) (hF : h_FR FR) (hI : g_I FI) (hR : g_R n SH FR) (a1 : Nat) {z1 : Nat} (ha1l : a1 < n) (ha1s : SH a1 = (100, z1)) (ha1o : own a1) (a2 : Int32) (a3 : Int32) (a4 : Int32) (g0 : 8 - (a4).toInt < (e : Int) + 1) (g1 : 0 ≤ (a4).toInt ∧ (a4).toInt ≤ 8) : hw sk base (E + d + 59) none 87 0 [(0, .ref (base + 48)), (1, .ref (base + a1)), (2, .int (a2)), (3, .int (a3)), (4, .int (a4))] [] (n, sl, SH, FI, FL, FR) (h_I (fun r s => ∃ FI' FL' FR', s = (n, sl, SH, FI', FL', FR') ∧ g_I FI' ∧ g_fr n (shd SH) [(48, 5), (48, 6), (48, 7), (48, 8), (48, 9), (48, 10), (48, 11), (49, 5), (49, 6), (49, 7), (49, 8), (49, 9), (49, 10), (49, 11)] [] [5, 8, 9] FI FI' ∧ g_fr n (shd SH) [(48, 12), (48, 13), (48, 14), (48, 15), (49, 12), (49, 13), (49, 14), (49, 15)] [] [5, 9, 101] FL FL' ∧ g_fr n (shd SH) [] [] [5] FR FR' ∧ h_FR FR' ∧ g_R n SH FR')) := by
  have rg_a2 := i_rng a2
  have rg_a3 := i_rng a3
  have rg_a4 := i_rng a4
  refine xw_iloadn (aX9_perform 0 rfl) rfl ?_
  refine xw_istore (L2 := [(5, .int (a2)), (0, .ref (base + 48)), (1, .ref (base + a1)), (2, .int (a2)), (3, .int (a3)), (4, .int (a4))]) (aX9_perform 1 rfl) (by decide) rfl ?_
  refine hw_ic (v := (0 : Int32)) (aX9_perform 2 rfl) (by decide) ?_
  refine xw_istore (L2 := [(6, .int ((0 : Int32))), (5, .int (a2)), (0, .ref (base + 48)), (1, .ref (base + a1)), (2, .int (a2)), (3, .int (a3)), (4, .int (a4))]) (aX9_perform 3 rfl) (by decide) rfl ?_
  have lp11 : ∀ (m : Nat) (y6 : Int32) (y5 : Int32) (FIv1 : Nat → Nat → Int32) (FLv2 : Nat → Nat → Int64) (FRv3 : Nat → Nat → Option Nat), (g_fr n (shd SH) [(48, 5), (48, 6), (48, 7), (48, 8), (48, 9), (48, 10), (48, 11), (49, 5), (49, 6), (49, 7), (49, 8), (49, 9), (49, 10), (49, 11)] [] [5, 8, 9] FI FIv1) → (g_fr n (shd SH) [(48, 12), (48, 13), (48, 14), (48, 15), (49, 12), (49, 13), (49, 14), (49, 15)] [] [5, 9, 101] FL FLv2) → (g_fr n (shd SH) [] [] [5] FR FRv3) → (g_I FIv1) → (h_FR FRv3) → (g_R n SH FRv3) → (0 ≤ (y6).toInt ∧ (y6).toInt ≤ 1001) → 1001 - (y6).toInt < m → hw sk base (E + d + 59) none 87 6 [(6, .int (y6)), (5, .int (y5)), (0, .ref (base + 48)), (1, .ref (base + a1)), (2, .int (a2)), (3, .int (a3)), (4, .int (a4))] [] (n, sl, SH, FIv1, FLv2, FRv3) (h_I (fun r s => ∃ FI' FL' FR', s = (n, sl, SH, FI', FL', FR') ∧ g_I FI' ∧ g_fr n (shd SH) [(48, 5), (48, 6), (48, 7), (48, 8), (48, 9), (48, 10), (48, 11), (49, 5), (49, 6), (49, 7), (49, 8), (49, 9), (49, 10), (49, 11)] [] [5, 8, 9] FI FI' ∧ g_fr n (shd SH) [(48, 12), (48, 13), (48, 14), (48, 15), (49, 12), (49, 13), (49, 14), (49, 15)] [] [5, 9, 101] FL FL' ∧ g_fr n (shd SH) [] [] [5] FR FR' ∧ h_FR FR' ∧ g_R n SH FR')) := by
    intro m
    induction m with
    | zero => intro y6 y5 FIv1 FLv2 FRv3 fr4 fr5 fr6 hI7 hF8 hR9 iv10 hm; omega
    | succ m ih =>
      intro y6 y5 FIv1 FLv2 FRv3 fr4 fr5 fr6 hI7 hF8 hR9 iv10 hm
      have rg_y6 := i_rng y6
      have rg_y5 := i_rng y5
      refine xw_iload (aX9_perform 4 rfl) rfl ?_
      refine hw_sp (v := (1000 : Int32)) (aX9_perform 5 rfl) (by decide) ?_
      refine hw_icgt (tgt := 97) (aX9_perform 6 rfl) (by decide) rfl (by decide : (1000 : Int32).toInt = 1000) (fun cd12 => ?_) (fun cd12 => ?_)
      · refine hw_ic (v := (0 : Int32)) (aX9_perform 49 rfl) (by decide) ?_
        refine xw_iret (aX9_perform 50 rfl) rfl rfl ?_
        have e13 : ((0 : Int32)).toInt = 0 := (by decide : (0 : Int32).toInt = 0)
        exact ⟨(0 : Int32), rfl, FIv1, FLv2, FRv3, rfl, hI7, fr4, fr5, fr6, hF8, hR9⟩
      · refine xw_iload (aX9_perform 7 rfl) rfl ?_
        refine hw_iflt (tgt := 97) (aX9_perform 8 rfl) (by decide) rfl (fun cd14 => ?_) (fun cd14 => ?_)
        · refine hw_ic (v := (0 : Int32)) (aX9_perform 49 rfl) (by decide) ?_
          refine xw_iret (aX9_perform 50 rfl) rfl rfl ?_
          have e15 : ((0 : Int32)).toInt = 0 := (by decide : (0 : Int32).toInt = 0)
          exact ⟨(0 : Int32), rfl, FIv1, FLv2, FRv3, rfl, hI7, fr4, fr5, fr6, hF8, hR9⟩
        · refine xw_iload (aX9_perform 9 rfl) rfl ?_
          refine xw_iloadn (aX9_perform 10 rfl) rfl ?_
          refine hw_icge (tgt := 97) (aX9_perform 11 rfl) (by decide) rfl rfl (fun cd16 => ?_) (fun cd16 => ?_)
          · refine hw_ic (v := (0 : Int32)) (aX9_perform 49 rfl) (by decide) ?_
            refine xw_iret (aX9_perform 50 rfl) rfl rfl ?_
            have e17 : ((0 : Int32)).toInt = 0 := (by decide : (0 : Int32).toInt = 0)
            exact ⟨(0 : Int32), rfl, FIv1, FLv2, FRv3, rfl, hI7, fr4, fr5, fr6, hF8, hR9⟩
          · refine xw_iload (aX9_perform 12 rfl) rfl ?_
            refine hw_aloadn (aX9_perform 13 rfl) rfl ?_
            obtain ⟨x18, h19⟩ : ∃ y, Int32.ofNat z1 = y := ⟨_, rfl⟩
            have b20 : (x18).toInt ≤ ((z1 : Nat) : Int) := by rw [← h19]; exact i_len
            have := i_rng x18
            refine hw_alen (k := 0) (v := x18) (aX9_perform 14 rfl) ha1l ha1s (by decide) h19 ?_
            refine hw_icge (tgt := 97) (aX9_perform 15 rfl) (by decide) rfl rfl (fun cd21 => ?_) (fun cd21 => ?_)
            · refine hw_ic (v := (0 : Int32)) (aX9_perform 49 rfl) (by decide) ?_
              refine xw_iret (aX9_perform 50 rfl) rfl rfl ?_
              have e22 : ((0 : Int32)).toInt = 0 := (by decide : (0 : Int32).toInt = 0)
              exact ⟨(0 : Int32), rfl, FIv1, FLv2, FRv3, rfl, hI7, fr4, fr5, fr6, hF8, hR9⟩
            · refine hw_aloadn (aX9_perform 16 rfl) rfl ?_
              refine hw_aloadn (aX9_perform 17 rfl) rfl ?_
              refine xw_iload (aX9_perform 18 rfl) rfl ?_
              refine xw_iloadn (aX9_perform 19 rfl) rfl ?_
              refine xw_iload (aX9_perform 20 rfl) rfl ?_
              refine hw_callV (Bs := [.ref (base + a1), .int (y5), .int (a3), .int (a4)]) (rest := []) (aX9_perform 21 rfl) wc_RX9_72 (by decide) rfl wi_yX9_step wv_yX9_step (c48 hS) (s48 hS) rfl rfl rfl (Nat.le_of_ble_eq_true rfl) (Nat.le_of_ble_eq_true rfl) (k_step48 (d := d) ihR hS hF8 hI7 hR9 (a1) ha1l ha1s ha1o (y5) (a3) (a4) (by omega) (by omega) (by omega)) (fun v23 sv24 p25 => ?_)
              obtain ⟨r26, rfl, FI27, FL28, FR29, rfl, hI30, f31, f32, f33, hF34, hR35⟩ := p25
              have rg_r26 := i_rng r26
              show hw sk base _ _ _ _ _ [.int (r26)] _ _
              refine xw_istore (L2 := [(7, .int (r26)), (6, .int (y6)), (5, .int (y5)), (0, .ref (base + 48)), (1, .ref (base + a1)), (2, .int (a2)), (3, .int (a3)), (4, .int (a4))]) (aX9_perform 22 rfl) (by decide) rfl ?_
              refine xw_iload (aX9_perform 23 rfl) rfl ?_
              refine hw_ifne (tgt := 69) (aX9_perform 24 rfl) (by decide) rfl (fun cd38 => ?_) (fun cd38 => ?_)
              · refine xw_iload (aX9_perform 35 rfl) rfl ?_
                refine hw_ifeq (tgt := 85) (aX9_perform 36 rfl) (by decide) rfl (fun cd39 => ?_) (fun cd39 => ?_)
                · refine hw_aloadn (aX9_perform 44 rfl) rfl ?_
                  obtain ⟨x40, h41⟩ : ∃ y, FI27 48 11 = y := ⟨_, rfl⟩
                  have h41l := congrArg Int32.toInt h41
                  have := i_rng x40
                  refine hw_get (v := .int (x40)) (aX9_perform 45 rfl) wf_RX9_75 (c48 hS) (s48 hS) (by decide) (congrArg Value.int (show FI27 48 11 = x40 from h41)) ?_
                  refine xw_istore (L2 := [(5, .int (x40)), (7, .int (r26)), (6, .int (y6)), (0, .ref (base + 48)), (1, .ref (base + a1)), (2, .int (a2)), (3, .int (a3)), (4, .int (a4))]) (aX9_perform 46 rfl) (by decide) rfl ?_
                  obtain ⟨x42, q44⟩ : ∃ y : Int32, (y6) + Int32.ofInt (1) = y := ⟨_, rfl⟩
                  have e43 : (x42).toInt = (y6).toInt + (1) := by rw [← q44]; exact i_add rfl (by decide) (by omega) (by omega)
                  refine xw_iinc (L2 := [(6, .int (x42)), (5, .int (x40)), (7, .int (r26)), (0, .ref (base + 48)), (1, .ref (base + a1)), (2, .int (a2)), (3, .int (a3)), (4, .int (a4))]) (aX9_perform 47 rfl) rfl (by decide) (by rw [q44]; rfl) ?_
                  refine xw_goto (tgt := 6) (aX9_perform 48 rfl) (by decide) ?_
                  exact hw_L (ih (x42) (x40) FI27 FL28 FR29 (gf_tr ex_rf fr4 f31 rfl rfl rfl) (gf_tr ex_rf fr5 f32 rfl rfl rfl) (gf_tr ex_rf fr6 f33 rfl rfl rfl) hI30 hF34 hR35 (by have := (e43 : (x42).toInt = (y6).toInt + (1)); omega) (by have := (e43 : (x42).toInt = (y6).toInt + (1)); omega)) ⟨rfl, rfl, rfl, rfl, rfl, rfl, rfl, trivial⟩
                · refine hw_aloadn (aX9_perform 37 rfl) rfl ?_
                  refine xw_iload (aX9_perform 38 rfl) rfl ?_
                  refine xw_iloadn (aX9_perform 39 rfl) rfl ?_
                  refine xw_isub (aX9_perform 40 rfl) ?_
                  have := i_rng ((y5) - (a2))
                  refine hv_puti (aX9_perform 41 rfl) wf_RX9_49 (c48 hS) (s48 hS) (by decide) rfl rfl (fun FI45 u46 => ?_)
                  have hI47 : g_I FI45 := gU_F hI30 u46 rfl
                  refine xw_iload (aX9_perform 42 rfl) rfl ?_
                  refine xw_iret (aX9_perform 43 rfl) rfl rfl ?_
                  exact ⟨r26, rfl, FI45, FL28, FR29, rfl, hI47, (gf_f (gf_tr ex_rf fr4 f31 rfl rfl rfl) u46 (by decide)), (gf_tr ex_rf fr5 f32 rfl rfl rfl), (gf_tr ex_rf fr6 f33 rfl rfl rfl), hF34, hR35⟩
              · refine hw_aloadn (aX9_perform 25 rfl) rfl ?_
                obtain ⟨x48, h49⟩ : ∃ y, FI27 48 11 = y := ⟨_, rfl⟩
                have h49l := congrArg Int32.toInt h49
                have := i_rng x48
                refine hw_get (v := .int (x48)) (aX9_perform 26 rfl) wf_RX9_75 (c48 hS) (s48 hS) (by decide) (congrArg Value.int (show FI27 48 11 = x48 from h49)) ?_
                refine xw_iloadn (aX9_perform 27 rfl) rfl ?_
                refine hw_iclt (tgt := 65) (aX9_perform 28 rfl) (by decide) rfl rfl (fun cd50 => ?_) (fun cd50 => ?_)
                · refine hw_bp (v := (7 : Int32)) (aX9_perform 33 rfl) (by decide) ?_
                  refine xw_istore (L2 := [(7, .int ((7 : Int32))), (6, .int (y6)), (5, .int (y5)), (0, .ref (base + 48)), (1, .ref (base + a1)), (2, .int (a2)), (3, .int (a3)), (4, .int (a4))]) (aX9_perform 34 rfl) (by decide) rfl ?_
                  refine xw_iload (aX9_perform 35 rfl) rfl ?_
                  refine hw_ifeq (tgt := 85) (aX9_perform 36 rfl) (by decide) (by decide : (7 : Int32).toInt = 7) (fun cd51 => ?_) (fun cd51 => ?_)
                  · omega
                  · refine hw_aloadn (aX9_perform 37 rfl) rfl ?_
                    refine xw_iload (aX9_perform 38 rfl) rfl ?_
                    refine xw_iloadn (aX9_perform 39 rfl) rfl ?_
                    refine xw_isub (aX9_perform 40 rfl) ?_
                    have := i_rng ((y5) - (a2))
                    refine hv_puti (aX9_perform 41 rfl) wf_RX9_49 (c48 hS) (s48 hS) (by decide) rfl rfl (fun FI52 u53 => ?_)
                    have hI54 : g_I FI52 := gU_F hI30 u53 rfl
                    refine xw_iload (aX9_perform 42 rfl) rfl ?_
                    refine xw_iret (aX9_perform 43 rfl) rfl rfl ?_
                    have e55 : ((7 : Int32)).toInt = 7 := (by decide : (7 : Int32).toInt = 7)
                    exact ⟨(7 : Int32), rfl, FI52, FL28, FR29, rfl, hI54, (gf_f (gf_tr ex_rf fr4 f31 rfl rfl rfl) u53 (by decide)), (gf_tr ex_rf fr5 f32 rfl rfl rfl), (gf_tr ex_rf fr6 f33 rfl rfl rfl), hF34, hR35⟩
                · refine hw_aloadn (aX9_perform 29 rfl) rfl ?_
                  refine hw_get (v := .int (x48)) (aX9_perform 30 rfl) wf_RX9_75 (c48 hS) (s48 hS) (by decide) (congrArg Value.int (show FI27 48 11 = x48 from h49)) ?_
                  refine xw_iloadn (aX9_perform 31 rfl) rfl ?_
                  refine hw_icle (tgt := 69) (aX9_perform 32 rfl) (by decide) rfl rfl (fun cd56 => ?_) (fun cd56 => ?_)
                  · refine xw_iload (aX9_perform 35 rfl) rfl ?_
                    refine hw_ifeq (tgt := 85) (aX9_perform 36 rfl) (by decide) rfl (fun cd57 => ?_) (fun cd57 => ?_)
                    · refine hw_aloadn (aX9_perform 44 rfl) rfl ?_
                      refine hw_get (v := .int (x48)) (aX9_perform 45 rfl) wf_RX9_75 (c48 hS) (s48 hS) (by decide) (congrArg Value.int (show FI27 48 11 = x48 from h49)) ?_
                      refine xw_istore (L2 := [(5, .int (x48)), (7, .int (r26)), (6, .int (y6)), (0, .ref (base + 48)), (1, .ref (base + a1)), (2, .int (a2)), (3, .int (a3)), (4, .int (a4))]) (aX9_perform 46 rfl) (by decide) rfl ?_
                      obtain ⟨x58, q60⟩ : ∃ y : Int32, (y6) + Int32.ofInt (1) = y := ⟨_, rfl⟩
                      have e59 : (x58).toInt = (y6).toInt + (1) := by rw [← q60]; exact i_add rfl (by decide) (by omega) (by omega)
                      refine xw_iinc (L2 := [(6, .int (x58)), (5, .int (x48)), (7, .int (r26)), (0, .ref (base + 48)), (1, .ref (base + a1)), (2, .int (a2)), (3, .int (a3)), (4, .int (a4))]) (aX9_perform 47 rfl) rfl (by decide) (by rw [q60]; rfl) ?_
                      refine xw_goto (tgt := 6) (aX9_perform 48 rfl) (by decide) ?_
                      exact hw_L (ih (x58) (x48) FI27 FL28 FR29 (gf_tr ex_rf fr4 f31 rfl rfl rfl) (gf_tr ex_rf fr5 f32 rfl rfl rfl) (gf_tr ex_rf fr6 f33 rfl rfl rfl) hI30 hF34 hR35 (by have := (e59 : (x58).toInt = (y6).toInt + (1)); omega) (by have := (e59 : (x58).toInt = (y6).toInt + (1)); omega)) ⟨rfl, rfl, rfl, rfl, rfl, rfl, rfl, trivial⟩
                    · omega
                  · refine hw_bp (v := (7 : Int32)) (aX9_perform 33 rfl) (by decide) ?_
                    refine xw_istore (L2 := [(7, .int ((7 : Int32))), (6, .int (y6)), (5, .int (y5)), (0, .ref (base + 48)), (1, .ref (base + a1)), (2, .int (a2)), (3, .int (a3)), (4, .int (a4))]) (aX9_perform 34 rfl) (by decide) rfl ?_
                    refine xw_iload (aX9_perform 35 rfl) rfl ?_
                    refine hw_ifeq (tgt := 85) (aX9_perform 36 rfl) (by decide) (by decide : (7 : Int32).toInt = 7) (fun cd61 => ?_) (fun cd61 => ?_)
                    · omega
                    · refine hw_aloadn (aX9_perform 37 rfl) rfl ?_
                      refine xw_iload (aX9_perform 38 rfl) rfl ?_
                      refine xw_iloadn (aX9_perform 39 rfl) rfl ?_
                      refine xw_isub (aX9_perform 40 rfl) ?_
                      have := i_rng ((y5) - (a2))
                      refine hv_puti (aX9_perform 41 rfl) wf_RX9_49 (c48 hS) (s48 hS) (by decide) rfl rfl (fun FI62 u63 => ?_)
                      have hI64 : g_I FI62 := gU_F hI30 u63 rfl
                      refine xw_iload (aX9_perform 42 rfl) rfl ?_
                      refine xw_iret (aX9_perform 43 rfl) rfl rfl ?_
                      have e65 : ((7 : Int32)).toInt = 7 := (by decide : (7 : Int32).toInt = 7)
                      exact ⟨(7 : Int32), rfl, FI62, FL28, FR29, rfl, hI64, (gf_f (gf_tr ex_rf fr4 f31 rfl rfl rfl) u63 (by decide)), (gf_tr ex_rf fr5 f32 rfl rfl rfl), (gf_tr ex_rf fr6 f33 rfl rfl rfl), hF34, hR35⟩
  exact hw_L (lp11 ((1001 - 0 : Int).toNat + 1) ((0 : Int32)) (a2) FI FL FR gf_rf gf_rf gf_rf hI hF hR (by have := ((by decide : (0 : Int32).toInt = 0) : ((0 : Int32)).toInt = 0); omega) (by have := ((by decide : (0 : Int32).toInt = 0) : ((0 : Int32)).toInt = 0); omega)) ⟨rfl, rfl, rfl, rfl, rfl, rfl, rfl, trivial⟩
theorem k_performA48 {sk : xK} : ∀ e : Nat, ∀ (base d n sl : Nat) (SH : Nat → Nat × Nat) (FI : Nat → Nat → Int32) (FL : Nat → Nat → Int64) (FR : Nat → Nat → Option Nat) (hS : h_S n SH) (hF : h_FR FR) (hI : g_I FI) (hR : g_R n SH FR) (a1 : Nat) {z1 : Nat} (ha1l : a1 < n) (ha1s : SH a1 = (100, z1)) (ha1o : own a1) (a2 : Int32) (a3 : Int32) (a4 : Int32) (g0 : 8 - (a4).toInt < (e : Int)) (g1 : 0 ≤ (a4).toInt ∧ (a4).toInt ≤ 8) , hw sk base (59 * e + d) none 87 0 [(0, .ref (base + 48)), (1, .ref (base + a1)), (2, .int (a2)), (3, .int (a3)), (4, .int (a4))] [] (n, sl, SH, FI, FL, FR) (h_I (fun r s => ∃ FI' FL' FR', s = (n, sl, SH, FI', FL', FR') ∧ g_I FI' ∧ g_fr n (shd SH) [(48, 5), (48, 6), (48, 7), (48, 8), (48, 9), (48, 10), (48, 11), (49, 5), (49, 6), (49, 7), (49, 8), (49, 9), (49, 10), (49, 11)] [] [5, 8, 9] FI FI' ∧ g_fr n (shd SH) [(48, 12), (48, 13), (48, 14), (48, 15), (49, 12), (49, 13), (49, 14), (49, 15)] [] [5, 9, 101] FL FL' ∧ g_fr n (shd SH) [] [] [5] FR FR' ∧ h_FR FR' ∧ g_R n SH FR')) := by
  intro e
  induction e with
  | zero => intros; omega
  | succ e ih => intro base d n sl SH FI FL FR hS hF hI hR a1 z1 ha1l ha1s ha1o a2 a3 a4 g0 g1; rw [show 59 * (e + 1) + d = 59 * e + d + 59 by omega]; exact k_performS48 ih hS hF hI hR a1 ha1l ha1s ha1o a2 a3 a4 (by omega) g1
set_option maxHeartbeats 4000000 in
set_option maxRecDepth 100000 in
theorem k_perform48 {sk : xK} {base d n sl : Nat} {SH : Nat → Nat × Nat} {FI : Nat → Nat → Int32} {FL : Nat → Nat → Int64} {FR : Nat → Nat → Option Nat} (hS : h_S n SH) (hF : h_FR FR) (hI : g_I FI) (hR : g_R n SH FR) (a1 : Nat) {z1 : Nat} (ha1l : a1 < n) (ha1s : SH a1 = (100, z1)) (ha1o : own a1) (a2 : Int32) (a3 : Int32) (a4 : Int32) (g0 : 0 ≤ (a4).toInt ∧ (a4).toInt ≤ 8) : hw sk base (d + 531) none 87 0 [(0, .ref (base + 48)), (1, .ref (base + a1)), (2, .int (a2)), (3, .int (a3)), (4, .int (a4))] [] (n, sl, SH, FI, FL, FR) (h_I (fun r s => ∃ FI' FL' FR', s = (n, sl, SH, FI', FL', FR') ∧ g_I FI' ∧ g_fr n (shd SH) [(48, 5), (48, 6), (48, 7), (48, 8), (48, 9), (48, 10), (48, 11), (49, 5), (49, 6), (49, 7), (49, 8), (49, 9), (49, 10), (49, 11)] [] [5, 8, 9] FI FI' ∧ g_fr n (shd SH) [(48, 12), (48, 13), (48, 14), (48, 15), (49, 12), (49, 13), (49, 14), (49, 15)] [] [5, 9, 101] FL FL' ∧ g_fr n (shd SH) [] [] [5] FR FR' ∧ h_FR FR' ∧ g_R n SH FR')) := by
  have h := k_performA48 (sk := sk) 9 base d n sl SH FI FL FR hS hF hI hR a1 ha1l ha1s ha1o a2 a3 a4 (by omega) g0
  rwa [show 59 * 9 + d = d + 531 by omega] at h
end
section
def nX9_start : Nat := 0xac05153100b5641c1d2a05362d00b62a10009a051505362900b6031d1c2b2a2500b60304152a
theorem bX9_start : cX9_start.data.toList.map UInt8.toNat = x_un nX9_start 38 := by decide +kernel
def iX9_start : List (Nat × Jvm.ClassFile.Instr × Nat) := [(0, .aload_n 0, 1), (1, .iload 4, 2), (3, .iconst 0, 1), (4, .invokevirtual 37, 3), (7, .aload_n 0, 1), (8, .aload_n 1, 1), (9, .iload_n 2, 1), (10, .iload_n 3, 1), (11, .iconst 0, 1), (12, .invokevirtual 41, 3), (15, .istore 5, 2), (17, .iload 5, 2), (19, .ifCond .ne 16, 3), (22, .aload_n 0, 1), (23, .invokevirtual 45, 3), (26, .istore 5, 2), (28, .aload_n 0, 1), (29, .iload_n 3, 1), (30, .iload_n 2, 1), (31, .isub, 1), (32, .putfield 49, 3), (35, .iload 5, 2), (37, .ireturn, 1)]
theorem dX9_start : x_il nX9_start 38 iX9_start = true := by decide +kernel
theorem aX9_start (k : Nat) {pc : Nat} {i : Jvm.ClassFile.Instr} {len : Nat} (hk : iX9_start[k]? = some (pc, i, len)) : x_at xMM 85 pc i len yX9_start 6 (some .int) := ⟨cX9_start, rfl, x_il_ok bX9_start dX9_start k hk⟩
set_option maxHeartbeats 4000000 in
set_option maxRecDepth 100000 in
theorem k_X9_start {sk : xK} {base d n sl : Nat} {SH : Nat → Nat × Nat} {FI : Nat → Nat → Int32} {FL : Nat → Nat → Int64} {FR : Nat → Nat → Option Nat} (hS : h_S n SH) (hF : h_FR FR) (hI : g_I FI) (hR : g_R n SH FR) (a1 : Nat) {z1 : Nat} (ha1l : a1 < n) (ha1s : SH a1 = (100, z1)) (ha1o : own a1) (a2 : Int32) (a3 : Int32) (a4 : Int32) : hw sk base (d + 532) none 85 0 [(0, .ref (base + 48)), (1, .ref (base + a1)), (2, .int (a2)), (3, .int (a3)), (4, .int (a4))] [] (n, sl, SH, FI, FL, FR) (h_I (fun r s => ∃ FI' FL' FR', s = (n, sl, SH, FI', FL', FR') ∧ g_I FI' ∧ g_fr n (shd SH) [(48, 5), (48, 6), (48, 7), (48, 8), (48, 9), (48, 10), (48, 11), (49, 5), (49, 6), (49, 7), (49, 8), (49, 9), (49, 10), (49, 11)] [] [5, 8, 9] FI FI' ∧ g_fr n (shd SH) [(48, 12), (48, 13), (48, 14), (48, 15), (49, 12), (49, 13), (49, 14), (49, 15)] [] [5, 9, 101] FL FL' ∧ g_fr n (shd SH) [] [] [5] FR FR' ∧ h_FR FR' ∧ g_R n SH FR')) := by
  have rg_a2 := i_rng a2
  have rg_a3 := i_rng a3
  have rg_a4 := i_rng a4
  refine hw_aloadn (aX9_start 0 rfl) rfl ?_
  refine xw_iload (aX9_start 1 rfl) rfl ?_
  refine hw_ic (v := (0 : Int32)) (aX9_start 2 rfl) (by decide) ?_
  refine hw_callV (Bs := [.int (a4), .int ((0 : Int32))]) (rest := []) (aX9_start 3 rfl) wc_RX9_37 (by decide) rfl wi_yX9_reset wv_yX9_reset (c48 hS) (s48 hS) rfl rfl rfl (Nat.le_of_ble_eq_true rfl) (Nat.le_of_ble_eq_true rfl) (k_X9_reset (d := d + 529) hS hF hI hR (48) (c48 hS) (s48 hS) (Or.inl (by decide)) (a4) ((0 : Int32)) ) (fun v1 sv2 p3 => ?_)
  obtain ⟨rfl, FI5, FL6, rfl, hI7, f8, f9⟩ := p3
  show hw sk base _ _ _ _ _ [] _ _
  refine hw_aloadn (aX9_start 4 rfl) rfl ?_
  refine hw_aloadn (aX9_start 5 rfl) rfl ?_
  refine xw_iloadn (aX9_start 6 rfl) rfl ?_
  refine xw_iloadn (aX9_start 7 rfl) rfl ?_
  refine hw_ic (v := (0 : Int32)) (aX9_start 8 rfl) (by decide) ?_
  refine hw_callV (Bs := [.ref (base + a1), .int (a2), .int (a3), .int ((0 : Int32))]) (rest := []) (aX9_start 9 rfl) wc_RX9_41 (by decide) rfl wi_yX9_perform wv_yX9_perform (c48 hS) (s48 hS) rfl rfl rfl (Nat.le_of_ble_eq_true rfl) (Nat.le_of_ble_eq_true rfl) (k_perform48 (d := d) hS hF hI7 hR (a1) ha1l ha1s ha1o (a2) (a3) ((0 : Int32)) (by have := ((by decide : (0 : Int32).toInt = 0) : ((0 : Int32)).toInt = 0); have := ((by decide : (0 : Int32).toInt = 0) : ((0 : Int32)).toInt = 0); omega)) (fun v14 sv15 p16 => ?_)
  obtain ⟨r17, rfl, FI18, FL19, FR20, rfl, hI21, f22, f23, f24, hF25, hR26⟩ := p16
  have rg_r17 := i_rng r17
  show hw sk base _ _ _ _ _ [.int (r17)] _ _
  refine xw_istore (L2 := [(5, .int (r17)), (0, .ref (base + 48)), (1, .ref (base + a1)), (2, .int (a2)), (3, .int (a3)), (4, .int (a4))]) (aX9_start 10 rfl) (by decide) rfl ?_
  refine xw_iload (aX9_start 11 rfl) rfl ?_
  refine hw_ifne (tgt := 35) (aX9_start 12 rfl) (by decide) rfl (fun cd29 => ?_) (fun cd29 => ?_)
  · refine xw_iload (aX9_start 21 rfl) rfl ?_
    refine xw_iret (aX9_start 22 rfl) rfl rfl ?_
    exact ⟨r17, rfl, FI18, FL19, FR20, rfl, hI21, (gf_tr ex_rf (gf_tr ex_rf gf_rf f8 rfl rfl rfl) f22 rfl rfl rfl), (gf_tr ex_rf (gf_tr ex_rf gf_rf f9 rfl rfl rfl) f23 rfl rfl rfl), (gf_tr ex_rf gf_rf f24 rfl rfl rfl), hF25, hR26⟩
  · refine hw_aloadn (aX9_start 13 rfl) rfl ?_
    refine hw_callV (Bs := []) (rest := []) (aX9_start 14 rfl) wc_RX9_45 (by decide) rfl wi_yX9_settle wv_yX9_settle (c48 hS) (s48 hS) rfl rfl rfl (Nat.le_of_ble_eq_true rfl) (Nat.le_of_ble_eq_true rfl) (k_X9_settle (d := d + 529) hS hF25 hI21 hR26 (48) (c48 hS) (s48 hS) (Or.inl (by decide)) ) (fun v30 sv31 p32 => ?_)
    obtain ⟨r33, rfl, FI34, FL35, FR36, rfl, hI37, f38, f39, f40, hF41, hR42⟩ := p32
    have rg_r33 := i_rng r33
    show hw sk base _ _ _ _ _ [.int (r33)] _ _
    refine xw_istore (L2 := [(5, .int (r33)), (0, .ref (base + 48)), (1, .ref (base + a1)), (2, .int (a2)), (3, .int (a3)), (4, .int (a4))]) (aX9_start 15 rfl) (by decide) rfl ?_
    refine hw_aloadn (aX9_start 16 rfl) rfl ?_
    refine xw_iloadn (aX9_start 17 rfl) rfl ?_
    refine xw_iloadn (aX9_start 18 rfl) rfl ?_
    refine xw_isub (aX9_start 19 rfl) ?_
    have := i_rng ((a3) - (a2))
    refine hv_puti (aX9_start 20 rfl) wf_RX9_49 (c48 hS) (s48 hS) (by decide) rfl rfl (fun FI45 u46 => ?_)
    have hI47 : g_I FI45 := gU_F hI37 u46 rfl
    refine xw_iload (aX9_start 21 rfl) rfl ?_
    refine xw_iret (aX9_start 22 rfl) rfl rfl ?_
    exact ⟨r33, rfl, FI45, FL35, FR36, rfl, hI47, (gf_f (gf_tr ex_rf (gf_tr ex_rf (gf_tr ex_rf gf_rf f8 rfl rfl rfl) f22 rfl rfl rfl) f38 rfl rfl rfl) u46 (by decide)), (gf_tr ex_rf (gf_tr ex_rf (gf_tr ex_rf gf_rf f9 rfl rfl rfl) f23 rfl rfl rfl) f39 rfl rfl rfl), (gf_tr ex_rf (gf_tr ex_rf gf_rf f24 rfl rfl rfl) f40 rfl rfl rfl), hF41, hR42⟩
end
