set_option maxHeartbeats 4000000 in
set_option maxRecDepth 100000 in
theorem k_letter2 {sk : xK} {base d n sl : Nat} {SH : Nat → Nat × Nat} {FI : Nat → Nat → Int32} {FL : Nat → Nat → Int64} {FR : Nat → Nat → Option Nat} (hS : h_S n SH) (hF : h_FR FR) (hI : g_I FI) (hR : g_R n SH FR) (a1 : Int32) : hw sk base d none 67 0 [(0, .ref (base + 111)), (1, .int (a1))] [] (n, sl, SH, FI, FL, FR) (h_I (fun r s => s = (n, sl, SH, FI, FL, FR) ∧ (r.toInt = -1 ∨ (0 ≤ (a1).toInt ∧ (a1).toInt < (FI 111 6).toInt)) ∧ (r = g_let SH FI FR a1))) := by
  have rg_a1 := i_rng a1
  obtain ⟨x1, h2⟩ : ∃ y, FI 111 6 = y := ⟨_, rfl⟩
  have h2l := congrArg Int32.toInt h2
  have b3 := gI_111_6 hI; rw [h2] at b3
  refine xw_iloadn (aX7_letter 0 rfl) rfl ?_
  refine hw_iflt (tgt := 21) (aX7_letter 1 rfl) (by decide) rfl (fun cd4 => ?_) (fun cd4 => ?_)
  · refine hw_ic (v := ((-1) : Int32)) (aX7_letter 11 rfl) (by decide) ?_
    refine xw_goto (tgt := 31) (aX7_letter 12 rfl) (by decide) ?_
    refine xw_iret (aX7_letter 17 rfl) rfl rfl ?_
    have e5 : (((-1) : Int32)).toInt = (-1) := (by decide : ((-1) : Int32).toInt = (-1))
    exact ⟨((-1) : Int32), rfl, rfl, (by have : (((-1) : Int32)).toInt = (-1) := (by decide); omega), (by obtain ⟨t9, e9⟩ := Option.ne_none_iff_exists'.mp (hR.2.2.1 111 5 (by unfold g_nn; omega)); refine (g_let_n e9 ?_).symm; have := congrArg Int32.toInt (show FI 111 6 = x1 from h2); skip; omega)⟩
  · refine xw_iloadn (aX7_letter 2 rfl) rfl ?_
    refine hw_aloadn (aX7_letter 3 rfl) rfl ?_
    refine hw_get (v := .int (x1)) (aX7_letter 4 rfl) wf_RX7_34 (c111 hS) (s111 hS) (by decide) (congrArg Value.int (show FI 111 6 = x1 from h2)) ?_
    refine hw_icge (tgt := 21) (aX7_letter 5 rfl) (by decide) rfl rfl (fun cd6 => ?_) (fun cd6 => ?_)
    · refine hw_ic (v := ((-1) : Int32)) (aX7_letter 11 rfl) (by decide) ?_
      refine xw_goto (tgt := 31) (aX7_letter 12 rfl) (by decide) ?_
      refine xw_iret (aX7_letter 17 rfl) rfl rfl ?_
      have e7 : (((-1) : Int32)).toInt = (-1) := (by decide : ((-1) : Int32).toInt = (-1))
      exact ⟨((-1) : Int32), rfl, rfl, (by have : (((-1) : Int32)).toInt = (-1) := (by decide); omega), (by obtain ⟨t9, e9⟩ := Option.ne_none_iff_exists'.mp (hR.2.2.1 111 5 (by unfold g_nn; omega)); refine (g_let_n e9 ?_).symm; have := congrArg Int32.toInt (show FI 111 6 = x1 from h2); skip; omega)⟩
    · refine xw_iloadn (aX7_letter 6 rfl) rfl ?_
      refine hw_aloadn (aX7_letter 7 rfl) rfl ?_
      obtain ⟨o8, h9⟩ : ∃ y, FR 111 5 = y := ⟨_, rfl⟩
      have ht10 : ∀ r, o8 = some r → r < n ∧ own r ∧ SH r = (100, (SH r).2) := fun r e => gR_get hR (c111 hS) (Or.inl (by decide)) (s111 hS) (h9.trans e)
      obtain ⟨r11, rfl⟩ := gR_nn hR (by unfold g_nn; omega) h9
      obtain ⟨lt12, ow13, sh14⟩ := ht10 r11 rfl
      refine hw_get (v := .ref (base + r11)) (aX7_letter 8 rfl) wf_RX7_25 (c111 hS) (s111 hS) (by decide) (congrArg (fun r => va_rf (h_rf base r)) (show FR 111 5 = some r11 from h9)) ?_
      obtain ⟨x15, h16⟩ : ∃ y, Int32.ofNat (SH r11).2 = y := ⟨_, rfl⟩
      have b17 : (x15).toInt ≤ (((SH r11).2 : Nat) : Int) := by rw [← h16]; exact i_len
      have := i_rng x15
      have h16l := congrArg Int32.toInt h16
      refine hw_alen (k := 0) (v := x15) (aX7_letter 9 rfl) lt12 sh14 (by decide) h16 ?_
      refine hw_iclt (tgt := 25) (aX7_letter 10 rfl) (by decide) rfl rfl (fun cd18 => ?_) (fun cd18 => ?_)
      · refine hw_aloadn (aX7_letter 13 rfl) rfl ?_
        refine hw_get (v := .ref (base + r11)) (aX7_letter 14 rfl) wf_RX7_25 (c111 hS) (s111 hS) (by decide) (congrArg (fun r => va_rf (h_rf base r)) (show FR 111 5 = some r11 from h9)) ?_
        refine xw_iloadn (aX7_letter 15 rfl) rfl ?_
        obtain ⟨x19, h20⟩ : ∃ y, FI r11 (a1).toNatClampNeg = y := ⟨_, rfl⟩
        have h20l := congrArg Int32.toInt h20
        have := i_rng x19
        refine hw_iald (v := x19) (aX7_letter 16 rfl) lt12 sh14 (h_in rfl (by omega) (by omega)) (show FI r11 (a1).toNatClampNeg = x19 from h20) ?_
        refine xw_iret (aX7_letter 17 rfl) rfl rfl ?_
        exact ⟨x19, rfl, rfl, (by omega), (by refine (g_let_s (show FR 111 5 = some (r11) from h9) ?_ (by assumption)).symm; have := congrArg Int32.toInt (show FI 111 6 = x1 from h2); skip; refine ⟨by omega, by omega, by omega⟩)⟩
      · refine hw_ic (v := ((-1) : Int32)) (aX7_letter 11 rfl) (by decide) ?_
        refine xw_goto (tgt := 31) (aX7_letter 12 rfl) (by decide) ?_
        refine xw_iret (aX7_letter 17 rfl) rfl rfl ?_
        have e21 : (((-1) : Int32)).toInt = (-1) := (by decide : ((-1) : Int32).toInt = (-1))
        exact ⟨((-1) : Int32), rfl, rfl, (by have : (((-1) : Int32)).toInt = (-1) := (by decide); omega), (by refine (g_let_n (show FR 111 5 = some (r11) from h9) ?_).symm; have := congrArg Int32.toInt (show FI 111 6 = x1 from h2); skip; omega)⟩
set_option maxHeartbeats 4000000 in
set_option maxRecDepth 100000 in
theorem k_isSmall2 {sk : xK} {base d n sl : Nat} {SH : Nat → Nat × Nat} {FI : Nat → Nat → Int32} {FL : Nat → Nat → Int64} {FR : Nat → Nat → Option Nat} (hS : h_S n SH) (hF : h_FR FR) (hI : g_I FI) (hR : g_R n SH FR) (a1 : Int32) : hw sk base d none 68 0 [(0, .int (a1))] [] (n, sl, SH, FI, FL, FR) (h_I (fun r s => s = (n, sl, SH, FI, FL, FR) ∧ (r.toInt = 1 → (97 ≤ (a1).toInt ∧ (a1).toInt ≤ 122)) ∧ (r.toInt = 0 → ((a1).toInt < 97 ∨ 122 < (a1).toInt)) ∧ (0 ≤ r.toInt ∧ r.toInt ≤ 1))) := by
  have rg_a1 := i_rng a1
  refine xw_iloadn (aX7_isSmall 0 rfl) rfl ?_
  refine hw_bp (v := (97 : Int32)) (aX7_isSmall 1 rfl) (by decide) ?_
  refine hw_iclt (tgt := 16) (aX7_isSmall 2 rfl) (by decide) rfl (by decide : (97 : Int32).toInt = 97) (fun cd1 => ?_) (fun cd1 => ?_)
  · refine hw_ic (v := (0 : Int32)) (aX7_isSmall 8 rfl) (by decide) ?_
    refine xw_iret (aX7_isSmall 9 rfl) rfl (by decide) ?_
    have e2 : ((0 : Int32)).toInt = 0 := (by decide : (0 : Int32).toInt = 0)
    exact ⟨(0 : Int32), rfl, rfl, (by have : ((0 : Int32)).toInt = 0 := (by decide); omega), (by have : ((0 : Int32)).toInt = 0 := (by decide); omega), (by have : ((0 : Int32)).toInt = 0 := (by decide); omega)⟩
  · refine xw_iloadn (aX7_isSmall 3 rfl) rfl ?_
    refine hw_bp (v := (122 : Int32)) (aX7_isSmall 4 rfl) (by decide) ?_
    refine hw_icgt (tgt := 16) (aX7_isSmall 5 rfl) (by decide) rfl (by decide : (122 : Int32).toInt = 122) (fun cd3 => ?_) (fun cd3 => ?_)
    · refine hw_ic (v := (0 : Int32)) (aX7_isSmall 8 rfl) (by decide) ?_
      refine xw_iret (aX7_isSmall 9 rfl) rfl (by decide) ?_
      have e4 : ((0 : Int32)).toInt = 0 := (by decide : (0 : Int32).toInt = 0)
      exact ⟨(0 : Int32), rfl, rfl, (by have : ((0 : Int32)).toInt = 0 := (by decide); omega), (by have : ((0 : Int32)).toInt = 0 := (by decide); omega), (by have : ((0 : Int32)).toInt = 0 := (by decide); omega)⟩
    · refine hw_ic (v := (1 : Int32)) (aX7_isSmall 6 rfl) (by decide) ?_
      refine xw_goto (tgt := 17) (aX7_isSmall 7 rfl) (by decide) ?_
      refine xw_iret (aX7_isSmall 9 rfl) rfl (by decide) ?_
      have e5 : ((1 : Int32)).toInt = 1 := (by decide : (1 : Int32).toInt = 1)
      exact ⟨(1 : Int32), rfl, rfl, (by have : ((1 : Int32)).toInt = 1 := (by decide); omega), (by have : ((1 : Int32)).toInt = 1 := (by decide); omega), (by have : ((1 : Int32)).toInt = 1 := (by decide); omega)⟩
set_option maxHeartbeats 4000000 in
set_option maxRecDepth 100000 in
theorem k_isDigit2 {sk : xK} {base d n sl : Nat} {SH : Nat → Nat × Nat} {FI : Nat → Nat → Int32} {FL : Nat → Nat → Int64} {FR : Nat → Nat → Option Nat} (hS : h_S n SH) (hF : h_FR FR) (hI : g_I FI) (hR : g_R n SH FR) (a1 : Int32) : hw sk base d none 69 0 [(0, .int (a1))] [] (n, sl, SH, FI, FL, FR) (h_I (fun r s => s = (n, sl, SH, FI, FL, FR) ∧ (r.toInt = 1 → (48 ≤ (a1).toInt ∧ (a1).toInt ≤ 57)) ∧ (r.toInt = 0 → ((a1).toInt < 48 ∨ 57 < (a1).toInt)) ∧ (0 ≤ r.toInt ∧ r.toInt ≤ 1))) := by
  have rg_a1 := i_rng a1
  refine xw_iloadn (aX7_isDigit 0 rfl) rfl ?_
  refine hw_bp (v := (48 : Int32)) (aX7_isDigit 1 rfl) (by decide) ?_
  refine hw_iclt (tgt := 16) (aX7_isDigit 2 rfl) (by decide) rfl (by decide : (48 : Int32).toInt = 48) (fun cd1 => ?_) (fun cd1 => ?_)
  · refine hw_ic (v := (0 : Int32)) (aX7_isDigit 8 rfl) (by decide) ?_
    refine xw_iret (aX7_isDigit 9 rfl) rfl (by decide) ?_
    have e2 : ((0 : Int32)).toInt = 0 := (by decide : (0 : Int32).toInt = 0)
    exact ⟨(0 : Int32), rfl, rfl, (by have : ((0 : Int32)).toInt = 0 := (by decide); omega), (by have : ((0 : Int32)).toInt = 0 := (by decide); omega), (by have : ((0 : Int32)).toInt = 0 := (by decide); omega)⟩
  · refine xw_iloadn (aX7_isDigit 3 rfl) rfl ?_
    refine hw_bp (v := (57 : Int32)) (aX7_isDigit 4 rfl) (by decide) ?_
    refine hw_icgt (tgt := 16) (aX7_isDigit 5 rfl) (by decide) rfl (by decide : (57 : Int32).toInt = 57) (fun cd3 => ?_) (fun cd3 => ?_)
    · refine hw_ic (v := (0 : Int32)) (aX7_isDigit 8 rfl) (by decide) ?_
      refine xw_iret (aX7_isDigit 9 rfl) rfl (by decide) ?_
      have e4 : ((0 : Int32)).toInt = 0 := (by decide : (0 : Int32).toInt = 0)
      exact ⟨(0 : Int32), rfl, rfl, (by have : ((0 : Int32)).toInt = 0 := (by decide); omega), (by have : ((0 : Int32)).toInt = 0 := (by decide); omega), (by have : ((0 : Int32)).toInt = 0 := (by decide); omega)⟩
    · refine hw_ic (v := (1 : Int32)) (aX7_isDigit 6 rfl) (by decide) ?_
      refine xw_goto (tgt := 17) (aX7_isDigit 7 rfl) (by decide) ?_
      refine xw_iret (aX7_isDigit 9 rfl) rfl (by decide) ?_
      have e5 : ((1 : Int32)).toInt = 1 := (by decide : (1 : Int32).toInt = 1)
      exact ⟨(1 : Int32), rfl, rfl, (by have : ((1 : Int32)).toInt = 1 := (by decide); omega), (by have : ((1 : Int32)).toInt = 1 := (by decide); omega), (by have : ((1 : Int32)).toInt = 1 := (by decide); omega)⟩
set_option maxHeartbeats 4000000 in
set_option maxRecDepth 100000 in
theorem k_wordKind {sk : xK} {base d n sl : Nat} {SH : Nat → Nat × Nat} {FI : Nat → Nat → Int32} {FL : Nat → Nat → Int64} {FR : Nat → Nat → Option Nat} (hS : h_S n SH) (hF : h_FR FR) (hI : g_I FI) (hR : g_R n SH FR) : hw sk base d none 71 0 [(0, .ref (base + 111))] [] (n, sl, SH, FI, FL, FR) (h_I (fun r s => s = (n, sl, SH, FI, FL, FR) ∧ (4 ≤ r.toInt ∧ r.toInt ≤ 16))) := by
  sorry
set_option maxHeartbeats 4000000 in
set_option maxRecDepth 100000 in
theorem k_readSign {sk : xK} {base d n sl : Nat} {SH : Nat → Nat × Nat} {FI : Nat → Nat → Int32} {FL : Nat → Nat → Int64} {FR : Nat → Nat → Option Nat} (hS : h_S n SH) (hF : h_FR FR) (hI : g_I FI) (hR : g_R n SH FR) (a1 : Int32) (g0 : (FI 111 7).toInt < (FI 111 6).toInt) : hw sk base d none 75 0 [(0, .ref (base + 111)), (1, .int (a1))] [] (n, sl, SH, FI, FL, FR) (h_V (fun s => ∃ FI', s = (n, sl, SH, FI', FL, FR) ∧ g_I FI' ∧ g_fr n (shd SH) [(111, 8), (111, 9)] [] [] FI FI' ∧ ((FI 111 7).toInt + 1 ≤ (FI' 111 8).toInt ∧ (FI' 111 8).toInt ≤ (FI 111 7).toInt + 3))) := by
  sorry
