section
set_option maxHeartbeats 4000000 in
set_option maxRecDepth 100000 in
theorem n_multiplies {zk : xK} {base d n sl : Nat} {SH : Nat → Nat × Nat} {FI : Nat → Nat → Int32} {FL : Nat → Nat → Int64} {FR : Nat → Nat → Option Nat} (hS : h_S n SH) (hF : h_FR FR) (hI : g_I FI) (a1 : Int32) (a2 : Int64) : hw zk base d none 248 0 [(0, .ref (base + 121)), (1, .int (a1)), (2, .long (a2))] [] (n, sl, SH, FI, FL, FR) (h_I (fun r s => s = (n, sl, SH, FI, FL, FR) ∧ (-1 ≤ r.toInt ∧ r.toInt ≤ 30) ∧ (hid (r.toInt ≠ -1 → ((a1).toInt = 5 ∧ (a2).toInt = 42) ∨ ((a1).toInt = 2 ∧ ((a2).toInt = 8 ∨ (a2).toInt = 9)))) ∧ (hid ((((a1).toInt = 5 ∧ (a2).toInt = 42) ∨ ((a1).toInt = 2 ∧ ((a2).toInt = 8 ∨ (a2).toInt = 9))) → r.toInt ≠ -1)))) := by
  have rg_a1 := i_rng a1
  have rg_a2 := l_rng a2
  refine xw_iloadn (aX12_multiplies 0 rfl) rfl ?_
  refine hw_ic (v := (5 : Int32)) (aX12_multiplies 1 rfl) (by decide) ?_
  refine hw_icne (tgt := 16) (aX12_multiplies 2 rfl) (by decide) rfl (by decide : (5 : Int32).toInt = 5) (fun cd1 => ?_) (fun cd1 => ?_)
  · refine xw_iloadn (aX12_multiplies 9 rfl) rfl ?_
    refine hw_ic (v := (2 : Int32)) (aX12_multiplies 10 rfl) (by decide) ?_
    refine hw_icne (tgt := 32) (aX12_multiplies 11 rfl) (by decide) rfl (by decide : (2 : Int32).toInt = 2) (fun cd2 => ?_) (fun cd2 => ?_)
    · refine xw_iloadn (aX12_multiplies 18 rfl) rfl ?_
      refine hw_ic (v := (2 : Int32)) (aX12_multiplies 19 rfl) (by decide) ?_
      refine hw_icne (tgt := 50) (aX12_multiplies 20 rfl) (by decide) rfl (by decide : (2 : Int32).toInt = 2) (fun cd3 => ?_) (fun cd3 => ?_)
      · refine hw_ic (v := ((-1) : Int32)) (aX12_multiplies 27 rfl) (by decide) ?_
        refine xw_iret (aX12_multiplies 28 rfl) rfl rfl ?_
        have e4 : (((-1) : Int32)).toInt = (-1) := (by decide : ((-1) : Int32).toInt = (-1))
        exact ⟨((-1) : Int32), rfl, rfl, (by have : (((-1) : Int32)).toInt = (-1) := (by decide); omega), (by unfold hid; have : (((-1) : Int32)).toInt = (-1) := (by decide); omega), (by unfold hid; have : (((-1) : Int32)).toInt = (-1) := (by decide); omega)⟩
      · refine xw_lloadn (aX12_multiplies 21 rfl) rfl ?_
        refine xw_ldc2 (aX12_multiplies 22 rfl) wk_RX12_649 ?_
        refine hw_lcne (tgt := 50) (aX12_multiplies 23 rfl) (aX12_multiplies 24 rfl) (by decide) rfl (by decide : (9 : Int64).toInt = 9) (fun cd5 => ?_) (fun cd5 => ?_)
        · refine hw_ic (v := ((-1) : Int32)) (aX12_multiplies 27 rfl) (by decide) ?_
          refine xw_iret (aX12_multiplies 28 rfl) rfl rfl ?_
          have e6 : (((-1) : Int32)).toInt = (-1) := (by decide : ((-1) : Int32).toInt = (-1))
          exact ⟨((-1) : Int32), rfl, rfl, (by have : (((-1) : Int32)).toInt = (-1) := (by decide); omega), (by unfold hid; have : (((-1) : Int32)).toInt = (-1) := (by decide); omega), (by unfold hid; have : (((-1) : Int32)).toInt = (-1) := (by decide); omega)⟩
        · refine hw_bp (v := (29 : Int32)) (aX12_multiplies 25 rfl) (by decide) ?_
          refine xw_goto (tgt := 51) (aX12_multiplies 26 rfl) (by decide) ?_
          refine xw_iret (aX12_multiplies 28 rfl) rfl rfl ?_
          have e7 : ((29 : Int32)).toInt = 29 := (by decide : (29 : Int32).toInt = 29)
          exact ⟨(29 : Int32), rfl, rfl, (by have : ((29 : Int32)).toInt = 29 := (by decide); omega), (by unfold hid; have : ((29 : Int32)).toInt = 29 := (by decide); omega), (by unfold hid; have : ((29 : Int32)).toInt = 29 := (by decide); omega)⟩
    · refine xw_lloadn (aX12_multiplies 12 rfl) rfl ?_
      refine xw_ldc2 (aX12_multiplies 13 rfl) wk_RX12_315 ?_
      refine hw_lcne (tgt := 32) (aX12_multiplies 14 rfl) (aX12_multiplies 15 rfl) (by decide) rfl (by decide : (8 : Int64).toInt = 8) (fun cd8 => ?_) (fun cd8 => ?_)
      · refine xw_iloadn (aX12_multiplies 18 rfl) rfl ?_
        refine hw_ic (v := (2 : Int32)) (aX12_multiplies 19 rfl) (by decide) ?_
        refine hw_icne (tgt := 50) (aX12_multiplies 20 rfl) (by decide) rfl (by decide : (2 : Int32).toInt = 2) (fun cd9 => ?_) (fun cd9 => ?_)
        · omega
        · refine xw_lloadn (aX12_multiplies 21 rfl) rfl ?_
          refine xw_ldc2 (aX12_multiplies 22 rfl) wk_RX12_649 ?_
          refine hw_lcne (tgt := 50) (aX12_multiplies 23 rfl) (aX12_multiplies 24 rfl) (by decide) rfl (by decide : (9 : Int64).toInt = 9) (fun cd10 => ?_) (fun cd10 => ?_)
          · refine hw_ic (v := ((-1) : Int32)) (aX12_multiplies 27 rfl) (by decide) ?_
            refine xw_iret (aX12_multiplies 28 rfl) rfl rfl ?_
            have e11 : (((-1) : Int32)).toInt = (-1) := (by decide : ((-1) : Int32).toInt = (-1))
            exact ⟨((-1) : Int32), rfl, rfl, (by have : (((-1) : Int32)).toInt = (-1) := (by decide); omega), (by unfold hid; have : (((-1) : Int32)).toInt = (-1) := (by decide); omega), (by unfold hid; have : (((-1) : Int32)).toInt = (-1) := (by decide); omega)⟩
          · refine hw_bp (v := (29 : Int32)) (aX12_multiplies 25 rfl) (by decide) ?_
            refine xw_goto (tgt := 51) (aX12_multiplies 26 rfl) (by decide) ?_
            refine xw_iret (aX12_multiplies 28 rfl) rfl rfl ?_
            have e12 : ((29 : Int32)).toInt = 29 := (by decide : (29 : Int32).toInt = 29)
            exact ⟨(29 : Int32), rfl, rfl, (by have : ((29 : Int32)).toInt = 29 := (by decide); omega), (by unfold hid; have : ((29 : Int32)).toInt = 29 := (by decide); omega), (by unfold hid; have : ((29 : Int32)).toInt = 29 := (by decide); omega)⟩
      · refine hw_bp (v := (27 : Int32)) (aX12_multiplies 16 rfl) (by decide) ?_
        refine xw_iret (aX12_multiplies 17 rfl) rfl rfl ?_
        have e13 : ((27 : Int32)).toInt = 27 := (by decide : (27 : Int32).toInt = 27)
        exact ⟨(27 : Int32), rfl, rfl, (by have : ((27 : Int32)).toInt = 27 := (by decide); omega), (by unfold hid; have : ((27 : Int32)).toInt = 27 := (by decide); omega), (by unfold hid; have : ((27 : Int32)).toInt = 27 := (by decide); omega)⟩
  · refine xw_lloadn (aX12_multiplies 3 rfl) rfl ?_
    refine xw_ldc2 (aX12_multiplies 4 rfl) wk_RX12_647 ?_
    refine hw_lcne (tgt := 16) (aX12_multiplies 5 rfl) (aX12_multiplies 6 rfl) (by decide) rfl (by decide : (42 : Int64).toInt = 42) (fun cd14 => ?_) (fun cd14 => ?_)
    · refine xw_iloadn (aX12_multiplies 9 rfl) rfl ?_
      refine hw_ic (v := (2 : Int32)) (aX12_multiplies 10 rfl) (by decide) ?_
      refine hw_icne (tgt := 32) (aX12_multiplies 11 rfl) (by decide) rfl (by decide : (2 : Int32).toInt = 2) (fun cd15 => ?_) (fun cd15 => ?_)
      · refine xw_iloadn (aX12_multiplies 18 rfl) rfl ?_
        refine hw_ic (v := (2 : Int32)) (aX12_multiplies 19 rfl) (by decide) ?_
        refine hw_icne (tgt := 50) (aX12_multiplies 20 rfl) (by decide) rfl (by decide : (2 : Int32).toInt = 2) (fun cd16 => ?_) (fun cd16 => ?_)
        · refine hw_ic (v := ((-1) : Int32)) (aX12_multiplies 27 rfl) (by decide) ?_
          refine xw_iret (aX12_multiplies 28 rfl) rfl rfl ?_
          have e17 : (((-1) : Int32)).toInt = (-1) := (by decide : ((-1) : Int32).toInt = (-1))
          exact ⟨((-1) : Int32), rfl, rfl, (by have : (((-1) : Int32)).toInt = (-1) := (by decide); omega), (by unfold hid; have : (((-1) : Int32)).toInt = (-1) := (by decide); omega), (by unfold hid; have : (((-1) : Int32)).toInt = (-1) := (by decide); omega)⟩
        · omega
      · omega
    · refine hw_bp (v := (30 : Int32)) (aX12_multiplies 7 rfl) (by decide) ?_
      refine xw_iret (aX12_multiplies 8 rfl) rfl rfl ?_
      have e18 : ((30 : Int32)).toInt = 30 := (by decide : (30 : Int32).toInt = 30)
      exact ⟨(30 : Int32), rfl, rfl, (by have : ((30 : Int32)).toInt = 30 := (by decide); omega), (by unfold hid; have : ((30 : Int32)).toInt = 30 := (by decide); omega), (by unfold hid; have : ((30 : Int32)).toInt = 30 := (by decide); omega)⟩
set_option maxHeartbeats 4000000 in
set_option maxRecDepth 100000 in
theorem n_shifts {zk : xK} {base d n sl : Nat} {SH : Nat → Nat × Nat} {FI : Nat → Nat → Int32} {FL : Nat → Nat → Int64} {FR : Nat → Nat → Option Nat} (hS : h_S n SH) (hF : h_FR FR) (hI : g_I FI) (a1 : Int32) (a2 : Int64) : hw zk base d none 247 0 [(0, .ref (base + 121)), (1, .int (a1)), (2, .long (a2))] [] (n, sl, SH, FI, FL, FR) (h_I (fun r s => s = (n, sl, SH, FI, FL, FR) ∧ (-1 ≤ r.toInt ∧ r.toInt ≤ 38) ∧ (hid (r.toInt ≠ -1 → (a1).toInt = 5 ∧ ((a2).toInt = 261 ∨ (a2).toInt = 262 ∨ (a2).toInt = 263))) ∧ (hid (((a1).toInt = 5 ∧ ((a2).toInt = 261 ∨ (a2).toInt = 262 ∨ (a2).toInt = 263)) → r.toInt ≠ -1)))) := by
  have rg_a1 := i_rng a1
  have rg_a2 := l_rng a2
  refine xw_iloadn (aX12_shifts 0 rfl) rfl ?_
  refine hw_ic (v := (5 : Int32)) (aX12_shifts 1 rfl) (by decide) ?_
  refine hw_iceq (tgt := 7) (aX12_shifts 2 rfl) (by decide) rfl (by decide : (5 : Int32).toInt = 5) (fun cd1 => ?_) (fun cd1 => ?_)
  · refine xw_lloadn (aX12_shifts 5 rfl) rfl ?_
    refine xw_ldc2 (aX12_shifts 6 rfl) wk_RX12_641 ?_
    refine hw_lcne (tgt := 18) (aX12_shifts 7 rfl) (aX12_shifts 8 rfl) (by decide) rfl (by decide : (261 : Int64).toInt = 261) (fun cd2 => ?_) (fun cd2 => ?_)
    · refine xw_lloadn (aX12_shifts 11 rfl) rfl ?_
      refine xw_ldc2 (aX12_shifts 12 rfl) wk_RX12_643 ?_
      refine hw_lcne (tgt := 29) (aX12_shifts 13 rfl) (aX12_shifts 14 rfl) (by decide) rfl (by decide : (262 : Int64).toInt = 262) (fun cd3 => ?_) (fun cd3 => ?_)
      · refine xw_lloadn (aX12_shifts 17 rfl) rfl ?_
        refine xw_ldc2 (aX12_shifts 18 rfl) wk_RX12_645 ?_
        refine hw_lcne (tgt := 42) (aX12_shifts 19 rfl) (aX12_shifts 20 rfl) (by decide) rfl (by decide : (263 : Int64).toInt = 263) (fun cd4 => ?_) (fun cd4 => ?_)
        · refine hw_ic (v := ((-1) : Int32)) (aX12_shifts 23 rfl) (by decide) ?_
          refine xw_iret (aX12_shifts 24 rfl) rfl rfl ?_
          have e5 : (((-1) : Int32)).toInt = (-1) := (by decide : ((-1) : Int32).toInt = (-1))
          exact ⟨((-1) : Int32), rfl, rfl, (by have : (((-1) : Int32)).toInt = (-1) := (by decide); omega), (by unfold hid; have : (((-1) : Int32)).toInt = (-1) := (by decide); omega), (by unfold hid; have : (((-1) : Int32)).toInt = (-1) := (by decide); omega)⟩
        · refine hw_bp (v := (37 : Int32)) (aX12_shifts 21 rfl) (by decide) ?_
          refine xw_goto (tgt := 43) (aX12_shifts 22 rfl) (by decide) ?_
          refine xw_iret (aX12_shifts 24 rfl) rfl rfl ?_
          have e6 : ((37 : Int32)).toInt = 37 := (by decide : (37 : Int32).toInt = 37)
          exact ⟨(37 : Int32), rfl, rfl, (by have : ((37 : Int32)).toInt = 37 := (by decide); omega), (by unfold hid; have : ((37 : Int32)).toInt = 37 := (by decide); omega), (by unfold hid; have : ((37 : Int32)).toInt = 37 := (by decide); omega)⟩
      · refine hw_bp (v := (38 : Int32)) (aX12_shifts 15 rfl) (by decide) ?_
        refine xw_iret (aX12_shifts 16 rfl) rfl rfl ?_
        have e7 : ((38 : Int32)).toInt = 38 := (by decide : (38 : Int32).toInt = 38)
        exact ⟨(38 : Int32), rfl, rfl, (by have : ((38 : Int32)).toInt = 38 := (by decide); omega), (by unfold hid; have : ((38 : Int32)).toInt = 38 := (by decide); omega), (by unfold hid; have : ((38 : Int32)).toInt = 38 := (by decide); omega)⟩
    · refine hw_bp (v := (36 : Int32)) (aX12_shifts 9 rfl) (by decide) ?_
      refine xw_iret (aX12_shifts 10 rfl) rfl rfl ?_
      have e8 : ((36 : Int32)).toInt = 36 := (by decide : (36 : Int32).toInt = 36)
      exact ⟨(36 : Int32), rfl, rfl, (by have : ((36 : Int32)).toInt = 36 := (by decide); omega), (by unfold hid; have : ((36 : Int32)).toInt = 36 := (by decide); omega), (by unfold hid; have : ((36 : Int32)).toInt = 36 := (by decide); omega)⟩
  · refine hw_ic (v := ((-1) : Int32)) (aX12_shifts 3 rfl) (by decide) ?_
    refine xw_iret (aX12_shifts 4 rfl) rfl rfl ?_
    have e9 : (((-1) : Int32)).toInt = (-1) := (by decide : ((-1) : Int32).toInt = (-1))
    exact ⟨((-1) : Int32), rfl, rfl, (by have : (((-1) : Int32)).toInt = (-1) := (by decide); omega), (by unfold hid; have : (((-1) : Int32)).toInt = (-1) := (by decide); omega), (by unfold hid; have : (((-1) : Int32)).toInt = (-1) := (by decide); omega)⟩
set_option maxHeartbeats 4000000 in
set_option maxRecDepth 100000 in
theorem n_compares {zk : xK} {base d n sl : Nat} {SH : Nat → Nat × Nat} {FI : Nat → Nat → Int32} {FL : Nat → Nat → Int64} {FR : Nat → Nat → Option Nat} (hS : h_S n SH) (hF : h_FR FR) (hI : g_I FI) (a1 : Int32) (a2 : Int64) : hw zk base d none 246 0 [(0, .ref (base + 121)), (1, .int (a1)), (2, .long (a2))] [] (n, sl, SH, FI, FL, FR) (h_I (fun r s => s = (n, sl, SH, FI, FL, FR) ∧ (-1 ≤ r.toInt ∧ r.toInt ≤ 46) ∧ (hid (r.toInt ≠ -1 → (a1).toInt = 5 ∧ ((a2).toInt = 257 ∨ (a2).toInt = 258 ∨ (a2).toInt = 60 ∨ (a2).toInt = 259 ∨ (a2).toInt = 62 ∨ (a2).toInt = 260))) ∧ (hid (((a1).toInt = 5 ∧ ((a2).toInt = 257 ∨ (a2).toInt = 258 ∨ (a2).toInt = 60 ∨ (a2).toInt = 259 ∨ (a2).toInt = 62 ∨ (a2).toInt = 260)) → r.toInt ≠ -1)))) := by
  have rg_a1 := i_rng a1
  have rg_a2 := l_rng a2
  refine xw_iloadn (aX12_compares 0 rfl) rfl ?_
  refine hw_ic (v := (5 : Int32)) (aX12_compares 1 rfl) (by decide) ?_
  refine hw_iceq (tgt := 7) (aX12_compares 2 rfl) (by decide) rfl (by decide : (5 : Int32).toInt = 5) (fun cd1 => ?_) (fun cd1 => ?_)
  · refine xw_lloadn (aX12_compares 5 rfl) rfl ?_
    refine xw_ldc2 (aX12_compares 6 rfl) wk_RX12_629 ?_
    refine hw_lcne (tgt := 18) (aX12_compares 7 rfl) (aX12_compares 8 rfl) (by decide) rfl (by decide : (257 : Int64).toInt = 257) (fun cd2 => ?_) (fun cd2 => ?_)
    · refine xw_lloadn (aX12_compares 11 rfl) rfl ?_
      refine xw_ldc2 (aX12_compares 12 rfl) wk_RX12_631 ?_
      refine hw_lcne (tgt := 29) (aX12_compares 13 rfl) (aX12_compares 14 rfl) (by decide) rfl (by decide : (258 : Int64).toInt = 258) (fun cd3 => ?_) (fun cd3 => ?_)
      · refine xw_lloadn (aX12_compares 17 rfl) rfl ?_
        refine xw_ldc2 (aX12_compares 18 rfl) wk_RX12_633 ?_
        refine hw_lcne (tgt := 40) (aX12_compares 19 rfl) (aX12_compares 20 rfl) (by decide) rfl (by decide : (60 : Int64).toInt = 60) (fun cd4 => ?_) (fun cd4 => ?_)
        · refine xw_lloadn (aX12_compares 23 rfl) rfl ?_
          refine xw_ldc2 (aX12_compares 24 rfl) wk_RX12_635 ?_
          refine hw_lcne (tgt := 51) (aX12_compares 25 rfl) (aX12_compares 26 rfl) (by decide) rfl (by decide : (259 : Int64).toInt = 259) (fun cd5 => ?_) (fun cd5 => ?_)
          · refine xw_lloadn (aX12_compares 29 rfl) rfl ?_
            refine xw_ldc2 (aX12_compares 30 rfl) wk_RX12_637 ?_
            refine hw_lcne (tgt := 62) (aX12_compares 31 rfl) (aX12_compares 32 rfl) (by decide) rfl (by decide : (62 : Int64).toInt = 62) (fun cd6 => ?_) (fun cd6 => ?_)
            · refine xw_lloadn (aX12_compares 35 rfl) rfl ?_
              refine xw_ldc2 (aX12_compares 36 rfl) wk_RX12_639 ?_
              refine hw_lcne (tgt := 75) (aX12_compares 37 rfl) (aX12_compares 38 rfl) (by decide) rfl (by decide : (260 : Int64).toInt = 260) (fun cd7 => ?_) (fun cd7 => ?_)
              · refine hw_ic (v := ((-1) : Int32)) (aX12_compares 41 rfl) (by decide) ?_
                refine xw_iret (aX12_compares 42 rfl) rfl rfl ?_
                have e8 : (((-1) : Int32)).toInt = (-1) := (by decide : ((-1) : Int32).toInt = (-1))
                exact ⟨((-1) : Int32), rfl, rfl, (by have : (((-1) : Int32)).toInt = (-1) := (by decide); omega), (by unfold hid; have : (((-1) : Int32)).toInt = (-1) := (by decide); omega), (by unfold hid; have : (((-1) : Int32)).toInt = (-1) := (by decide); omega)⟩
              · refine hw_bp (v := (42 : Int32)) (aX12_compares 39 rfl) (by decide) ?_
                refine xw_goto (tgt := 76) (aX12_compares 40 rfl) (by decide) ?_
                refine xw_iret (aX12_compares 42 rfl) rfl rfl ?_
                have e9 : ((42 : Int32)).toInt = 42 := (by decide : (42 : Int32).toInt = 42)
                exact ⟨(42 : Int32), rfl, rfl, (by have : ((42 : Int32)).toInt = 42 := (by decide); omega), (by unfold hid; have : ((42 : Int32)).toInt = 42 := (by decide); omega), (by unfold hid; have : ((42 : Int32)).toInt = 42 := (by decide); omega)⟩
            · refine hw_bp (v := (43 : Int32)) (aX12_compares 33 rfl) (by decide) ?_
              refine xw_iret (aX12_compares 34 rfl) rfl rfl ?_
              have e10 : ((43 : Int32)).toInt = 43 := (by decide : (43 : Int32).toInt = 43)
              exact ⟨(43 : Int32), rfl, rfl, (by have : ((43 : Int32)).toInt = 43 := (by decide); omega), (by unfold hid; have : ((43 : Int32)).toInt = 43 := (by decide); omega), (by unfold hid; have : ((43 : Int32)).toInt = 43 := (by decide); omega)⟩
          · refine hw_bp (v := (44 : Int32)) (aX12_compares 27 rfl) (by decide) ?_
            refine xw_iret (aX12_compares 28 rfl) rfl rfl ?_
            have e11 : ((44 : Int32)).toInt = 44 := (by decide : (44 : Int32).toInt = 44)
            exact ⟨(44 : Int32), rfl, rfl, (by have : ((44 : Int32)).toInt = 44 := (by decide); omega), (by unfold hid; have : ((44 : Int32)).toInt = 44 := (by decide); omega), (by unfold hid; have : ((44 : Int32)).toInt = 44 := (by decide); omega)⟩
        · refine hw_bp (v := (45 : Int32)) (aX12_compares 21 rfl) (by decide) ?_
          refine xw_iret (aX12_compares 22 rfl) rfl rfl ?_
          have e12 : ((45 : Int32)).toInt = 45 := (by decide : (45 : Int32).toInt = 45)
          exact ⟨(45 : Int32), rfl, rfl, (by have : ((45 : Int32)).toInt = 45 := (by decide); omega), (by unfold hid; have : ((45 : Int32)).toInt = 45 := (by decide); omega), (by unfold hid; have : ((45 : Int32)).toInt = 45 := (by decide); omega)⟩
      · refine hw_bp (v := (46 : Int32)) (aX12_compares 15 rfl) (by decide) ?_
        refine xw_iret (aX12_compares 16 rfl) rfl rfl ?_
        have e13 : ((46 : Int32)).toInt = 46 := (by decide : (46 : Int32).toInt = 46)
        exact ⟨(46 : Int32), rfl, rfl, (by have : ((46 : Int32)).toInt = 46 := (by decide); omega), (by unfold hid; have : ((46 : Int32)).toInt = 46 := (by decide); omega), (by unfold hid; have : ((46 : Int32)).toInt = 46 := (by decide); omega)⟩
    · refine hw_bp (v := (41 : Int32)) (aX12_compares 9 rfl) (by decide) ?_
      refine xw_iret (aX12_compares 10 rfl) rfl rfl ?_
      have e14 : ((41 : Int32)).toInt = 41 := (by decide : (41 : Int32).toInt = 41)
      exact ⟨(41 : Int32), rfl, rfl, (by have : ((41 : Int32)).toInt = 41 := (by decide); omega), (by unfold hid; have : ((41 : Int32)).toInt = 41 := (by decide); omega), (by unfold hid; have : ((41 : Int32)).toInt = 41 := (by decide); omega)⟩
  · refine hw_ic (v := ((-1) : Int32)) (aX12_compares 3 rfl) (by decide) ?_
    refine xw_iret (aX12_compares 4 rfl) rfl rfl ?_
    have e15 : (((-1) : Int32)).toInt = (-1) := (by decide : ((-1) : Int32).toInt = (-1))
    exact ⟨((-1) : Int32), rfl, rfl, (by have : (((-1) : Int32)).toInt = (-1) := (by decide); omega), (by unfold hid; have : (((-1) : Int32)).toInt = (-1) := (by decide); omega), (by unfold hid; have : (((-1) : Int32)).toInt = (-1) := (by decide); omega)⟩
set_option maxHeartbeats 4000000 in
set_option maxRecDepth 100000 in
theorem n_laterq {zk : xK} {base d n sl : Nat} {SH : Nat → Nat × Nat} {FI : Nat → Nat → Int32} {FL : Nat → Nat → Int64} {FR : Nat → Nat → Option Nat} (hS : h_S n SH) (hF : h_FR FR) (hI : g_I FI) (a1 : Int32) (g0 : (FI 121 90).toInt ≤ 255) : hw zk base d none 231 0 [(0, .ref (base + 121)), (1, .int (a1)), (2, .int (((-2) : Int32)))] [] (n, sl, SH, FI, FL, FR) (h_V (fun s => ∃ FI', s = (n, sl, SH, FI', FL, FR) ∧ g_I FI' ∧ g_fr n SH [(121, 90)] [165, 166] [] FI FI' ∧ ((FI' 121 90).toInt = (FI 121 90).toInt + 1) ∧ (FI' 166 = va_up (FI 166) (FI 121 90).toNatClampNeg (-2 : Int32)) ∧ (sk (FI' 166) (FI' 121 90).toInt.toNat = (-2 : Int) :: sk (FI 166) (FI 121 90).toInt.toNat))) := by
  have rg_a1 := i_rng a1
  obtain ⟨x1, h2⟩ : ∃ y, FI 121 90 = y := ⟨_, rfl⟩
  have h2l := congrArg Int32.toInt h2
  have b3 := gI_121_90 hI; rw [h2] at b3
  refine hw_aloadn (aX12_later 0 rfl) rfl ?_
  refine hw_get (v := .ref (base + 165)) (aX12_later 1 rfl) wf_RX12_154 (c121 hS) (s121 hS) (by decide) (congrArg (fun r => va_rf (h_rf base r)) (r121_86 hF)) ?_
  refine hw_aloadn (aX12_later 2 rfl) rfl ?_
  refine hw_get (v := .int (x1)) (aX12_later 3 rfl) wf_RX12_556 (c121 hS) (s121 hS) (by decide) (congrArg Value.int (show FI 121 90 = x1 from h2)) ?_
  refine xw_iloadn (aX12_later 4 rfl) rfl ?_
  refine hv_iast (k := (x1).toNatClampNeg) (aX12_later 5 rfl) (c165 hS) (s165 hS) (h_in rfl (by omega) (by omega)) rfl (fun FI4 u5 => ?_)
  have hI6 : g_I FI4 := gU_F hI u5 rfl
  refine hw_aloadn (aX12_later 6 rfl) rfl ?_
  refine hw_get (v := .ref (base + 166)) (aX12_later 7 rfl) wf_RX12_157 (c121 hS) (s121 hS) (by decide) (congrArg (fun r => va_rf (h_rf base r)) (r121_87 hF)) ?_
  refine hw_aloadn (aX12_later 8 rfl) rfl ?_
  refine hw_get (v := .int (x1)) (aX12_later 9 rfl) wf_RX12_556 (c121 hS) (s121 hS) (by decide) (congrArg Value.int (show FI4 121 90 = x1 from (up_c u5 (by decide) (h2)))) ?_
  refine xw_iloadn (aX12_later 10 rfl) rfl ?_
  refine hv_iast (k := (x1).toNatClampNeg) (aX12_later 11 rfl) (c166 hS) (s166 hS) (h_in rfl (by omega) (by omega)) rfl (fun FI7 u8 => ?_)
  have hI9 : g_I FI7 := gU_F hI6 u8 rfl
  refine hw_aloadn (aX12_later 12 rfl) rfl ?_
  refine hw_aloadn (aX12_later 13 rfl) rfl ?_
  refine hw_get (v := .int (x1)) (aX12_later 14 rfl) wf_RX12_556 (c121 hS) (s121 hS) (by decide) (congrArg Value.int (show FI7 121 90 = x1 from (up_c u8 (by decide) ((up_c u5 (by decide) (h2)))))) ?_
  refine hw_ic (v := (1 : Int32)) (aX12_later 15 rfl) (by decide) ?_
  refine xw_iadd (aX12_later 16 rfl) ?_
  refine hw_tie (A := ((x1).toInt) + (1)) (i_add rfl (by decide : (1 : Int32).toInt = 1) (by omega) (by omega)) (fun x10 e11 => ?_)
  refine hv_puti (aX12_later 17 rfl) wf_RX12_556 (c121 hS) (s121 hS) (by decide) rfl rfl (fun FI12 u13 => ?_)
  have hI14 : g_I FI12 := gU_121_90 hI9 u13 (by have := (e11 : (x10).toInt = ((x1).toInt) + (1)); omega) (by have := (e11 : (x10).toInt = ((x1).toInt) + (1)); omega)
  refine xw_vret (aX12_later 18 rfl) rfl ?_
  exact ⟨rfl, FI12, rfl, hI14, (gf_f (gf_a (gf_a gf_rf u5 (by decide)) u8 (by decide)) u13 (by decide)), (by have := congrArg Int32.toInt (show FI12 121 90 = x10 from up_eq u13); have := (e11 : (x10).toInt = ((x1).toInt) + (1)); omega), (by rw [show FI 121 90 = x1 from h2]; exact (up_row u13 (by decide) ((up_va u8 ((up_row u5 (by decide) (rfl))))))), (by have z0 := congrArg Int32.toInt (show FI12 121 90 = x10 from up_eq u13); have := (e11 : (x10).toInt = ((x1).toInt) + (1)); rw [show FI12 166 = va_up (FI 166) ((x1).toNatClampNeg) (((-2) : Int32)) from (up_row u13 (by decide) ((up_va u8 ((up_row u5 (by decide) (rfl)))))), show FI 121 90 = x1 from h2]; exact sk_push2 (by omega) (by omega))⟩
set_option maxHeartbeats 4000000 in
set_option maxRecDepth 100000 in
theorem n_later {zk : xK} {base d n sl : Nat} {SH : Nat → Nat × Nat} {FI : Nat → Nat → Int32} {FL : Nat → Nat → Int64} {FR : Nat → Nat → Option Nat} (hS : h_S n SH) (hF : h_FR FR) (hI : g_I FI) (a1 : Int32) (a2 : Int32) (g0 : (FI 121 90).toInt ≤ 255) (g1 : (a2).toInt ≠ -2 ∧ (a2).toInt ≠ -3) (rel_pm : rl_pm (FI 121 90) (FI 121 73) (FI 166) (FI 167) (FI 168)) : hw zk base d none 231 0 [(0, .ref (base + 121)), (1, .int (a1)), (2, .int (a2))] [] (n, sl, SH, FI, FL, FR) (h_V (fun s => ∃ FI', s = (n, sl, SH, FI', FL, FR) ∧ g_I FI' ∧ g_fr n SH [(121, 90)] [165, 166] [] FI FI' ∧ ((FI' 121 90).toInt = (FI 121 90).toInt + 1) ∧ (FI' 166 = va_up (FI 166) (FI 121 90).toNatClampNeg a2) ∧ (sk (FI' 166) (FI' 121 90).toInt.toNat = (a2).toInt :: sk (FI 166) (FI 121 90).toInt.toNat) ∧ (rl_pm (FI' 121 90) (FI' 121 73) (FI' 166) (FI' 167) (FI' 168)))) := by
  have rg_a1 := i_rng a1
  have rg_a2 := i_rng a2
  obtain ⟨x1, h2⟩ : ∃ y, FI 121 90 = y := ⟨_, rfl⟩
  have h2l := congrArg Int32.toInt h2
  have b3 := gI_121_90 hI; rw [h2] at b3
  obtain ⟨x4, h5⟩ : ∃ y, FI 121 73 = y := ⟨_, rfl⟩
  have h5l := congrArg Int32.toInt h5
  have b6 := gI_121_73 hI; rw [h5] at b6
  refine hw_aloadn (aX12_later 0 rfl) rfl ?_
  refine hw_get (v := .ref (base + 165)) (aX12_later 1 rfl) wf_RX12_154 (c121 hS) (s121 hS) (by decide) (congrArg (fun r => va_rf (h_rf base r)) (r121_86 hF)) ?_
  refine hw_aloadn (aX12_later 2 rfl) rfl ?_
  refine hw_get (v := .int (x1)) (aX12_later 3 rfl) wf_RX12_556 (c121 hS) (s121 hS) (by decide) (congrArg Value.int (show FI 121 90 = x1 from h2)) ?_
  refine xw_iloadn (aX12_later 4 rfl) rfl ?_
  refine hv_iast (k := (x1).toNatClampNeg) (aX12_later 5 rfl) (c165 hS) (s165 hS) (h_in rfl (by omega) (by omega)) rfl (fun FI7 u8 => ?_)
  have rl9 : rl_pm (FI7 121 90) (FI7 121 73) (FI7 166) (FI7 167) (FI7 168) := by rw [show FI7 166 = FI 166 from up_row u8 (by decide) rfl, show FI7 167 = FI 167 from up_row u8 (by decide) rfl, show FI7 168 = FI 168 from up_row u8 (by decide) rfl, show FI7 121 90 = FI 121 90 from up_c u8 (by decide) rfl, show FI7 121 73 = FI 121 73 from up_c u8 (by decide) rfl]; exact rel_pm
  have hI10 : g_I FI7 := gU_F hI u8 rfl
  refine hw_aloadn (aX12_later 6 rfl) rfl ?_
  refine hw_get (v := .ref (base + 166)) (aX12_later 7 rfl) wf_RX12_157 (c121 hS) (s121 hS) (by decide) (congrArg (fun r => va_rf (h_rf base r)) (r121_87 hF)) ?_
  refine hw_aloadn (aX12_later 8 rfl) rfl ?_
  refine hw_get (v := .int (x1)) (aX12_later 9 rfl) wf_RX12_556 (c121 hS) (s121 hS) (by decide) (congrArg Value.int (show FI7 121 90 = x1 from (up_c u8 (by decide) (h2)))) ?_
  refine xw_iloadn (aX12_later 10 rfl) rfl ?_
  refine hv_iast (k := (x1).toNatClampNeg) (aX12_later 11 rfl) (c166 hS) (s166 hS) (h_in rfl (by omega) (by omega)) rfl (fun FI11 u12 => ?_)
  have hI13 : g_I FI11 := gU_F hI10 u12 rfl
  refine hw_aloadn (aX12_later 12 rfl) rfl ?_
  refine hw_aloadn (aX12_later 13 rfl) rfl ?_
  refine hw_get (v := .int (x1)) (aX12_later 14 rfl) wf_RX12_556 (c121 hS) (s121 hS) (by decide) (congrArg Value.int (show FI11 121 90 = x1 from (up_c u12 (by decide) ((up_c u8 (by decide) (h2)))))) ?_
  refine hw_ic (v := (1 : Int32)) (aX12_later 15 rfl) (by decide) ?_
  refine xw_iadd (aX12_later 16 rfl) ?_
  refine hw_tie (A := ((x1).toInt) + (1)) (i_add rfl (by decide : (1 : Int32).toInt = 1) (by omega) (by omega)) (fun x14 e15 => ?_)
  refine hv_puti (aX12_later 17 rfl) wf_RX12_556 (c121 hS) (s121 hS) (by decide) rfl rfl (fun FI16 u17 => ?_)
  have hI18 : g_I FI16 := gU_121_90 hI13 u17 (by have := (e15 : (x14).toInt = ((x1).toInt) + (1)); omega) (by have := (e15 : (x14).toInt = ((x1).toInt) + (1)); omega)
  have rl19 : rl_pm (FI16 121 90) (FI16 121 73) (FI16 166) (FI16 167) (FI16 168) := by have z0 := congrArg Int32.toInt (show FI16 121 90 = x14 from up_eq u17); have := (e15 : (x14).toInt = ((x1).toInt) + (1)); have z1 := congrArg Int32.toInt (show FI 121 90 = x1 from h2); have := rel_pm; rw [show FI 121 90 = x1 from h2, show FI 121 73 = x4 from h5] at this; rw [show FI16 166 = va_up (FI 166) ((x1).toNatClampNeg) (a2) from (up_row u17 (by decide) ((up_va u12 ((up_row u8 (by decide) (rfl)))))), show FI16 167 = FI 167 from (up_row u17 (by decide) ((up_row u12 (by decide) ((up_row u8 (by decide) (rfl)))))), show FI16 168 = FI 168 from (up_row u17 (by decide) ((up_row u12 (by decide) ((up_row u8 (by decide) (rfl)))))), show FI16 121 73 = x4 from (up_k u17 (by decide) ((up_c u12 (by decide) ((up_c u8 (by decide) (h5)))))), show FI16 121 90 = x14 from up_eq u17]; exact rl_pm_push this (by omega) (by omega) (by omega)
  refine xw_vret (aX12_later 18 rfl) rfl ?_
  exact ⟨rfl, FI16, rfl, hI18, (gf_f (gf_a (gf_a gf_rf u8 (by decide)) u12 (by decide)) u17 (by decide)), (by have := congrArg Int32.toInt (show FI16 121 90 = x14 from up_eq u17); have := (e15 : (x14).toInt = ((x1).toInt) + (1)); omega), (by rw [show FI 121 90 = x1 from h2]; exact (up_row u17 (by decide) ((up_va u12 ((up_row u8 (by decide) (rfl))))))), (by have z0 := congrArg Int32.toInt (show FI16 121 90 = x14 from up_eq u17); have := (e15 : (x14).toInt = ((x1).toInt) + (1)); rw [show FI16 166 = va_up (FI 166) ((x1).toNatClampNeg) (a2) from (up_row u17 (by decide) ((up_va u12 ((up_row u8 (by decide) (rfl)))))), show FI 121 90 = x1 from h2]; exact sk_push2 (by omega) (by omega)), (show rl_pm (FI16 121 90) (FI16 121 73) (FI16 166) (FI16 167) (FI16 168) from rl19)⟩
set_option maxHeartbeats 4000000 in
set_option maxRecDepth 100000 in
theorem n_tops {zk : xK} {base d n sl : Nat} {SH : Nat → Nat × Nat} {FI : Nat → Nat → Int32} {FL : Nat → Nat → Int64} {FR : Nat → Nat → Option Nat} (hS : h_S n SH) (hF : h_FR FR) (hI : g_I FI) : hw zk base d none 232 0 [(0, .ref (base + 121))] [] (n, sl, SH, FI, FL, FR) (h_I (fun r s => s = (n, sl, SH, FI, FL, FR) ∧ ((FI 121 90).toInt = 0 → r.toInt = -11) ∧ (1 ≤ (FI 121 90).toInt → sk (FI 166) (FI 121 90).toInt.toNat = r.toInt :: sk (FI 166) ((FI 121 90).toInt - 1).toNat) ∧ (1 ≤ (FI 121 90).toInt → FI 166 ((FI 121 90).toInt - 1).toNat = r))) := by
  obtain ⟨x1, h2⟩ : ∃ y, FI 121 90 = y := ⟨_, rfl⟩
  have h2l := congrArg Int32.toInt h2
  have b3 := gI_121_90 hI; rw [h2] at b3
  refine hw_aloadn (aX12_tops 0 rfl) rfl ?_
  refine hw_get (v := .int (x1)) (aX12_tops 1 rfl) wf_RX12_556 (c121 hS) (s121 hS) (by decide) (congrArg Value.int (show FI 121 90 = x1 from h2)) ?_
  refine hw_ifne (tgt := 12) (aX12_tops 2 rfl) (by decide) rfl (fun cd4 => ?_) (fun cd4 => ?_)
  · refine hw_aloadn (aX12_tops 5 rfl) rfl ?_
    refine hw_get (v := .ref (base + 166)) (aX12_tops 6 rfl) wf_RX12_157 (c121 hS) (s121 hS) (by decide) (congrArg (fun r => va_rf (h_rf base r)) (r121_87 hF)) ?_
    refine hw_aloadn (aX12_tops 7 rfl) rfl ?_
    refine hw_get (v := .int (x1)) (aX12_tops 8 rfl) wf_RX12_556 (c121 hS) (s121 hS) (by decide) (congrArg Value.int (show FI 121 90 = x1 from h2)) ?_
    refine hw_ic (v := (1 : Int32)) (aX12_tops 9 rfl) (by decide) ?_
    refine xw_isub (aX12_tops 10 rfl) ?_
    refine hw_tie (A := ((x1).toInt) - (1)) (i_sub rfl (by decide : (1 : Int32).toInt = 1) (by omega) (by omega)) (fun x5 e6 => ?_)
    obtain ⟨x7, h8⟩ : ∃ y, FI 166 (x5).toNatClampNeg = y := ⟨_, rfl⟩
    have h8l := congrArg Int32.toInt h8
    have := i_rng x7
    refine hw_iald (v := x7) (aX12_tops 11 rfl) (c166 hS) (s166 hS) (h_in e6 (by omega) (by omega)) (show FI 166 (x5).toNatClampNeg = x7 from h8) ?_
    refine xw_iret (aX12_tops 12 rfl) rfl rfl ?_
    exact ⟨x7, rfl, rfl, (by omega), (by exact fun hh => by rw [sk_pop (i := x5) hh (by omega), show FI 166 (x5).toNatClampNeg = x7 from h8]), (by exact fun hh => by rw [← i_cl (x := x5) (A := (FI 121 90).toInt - 1) (by omega)]; exact h8)⟩
  · refine hw_bp (v := ((-11) : Int32)) (aX12_tops 3 rfl) (by decide) ?_
    refine xw_goto (tgt := 23) (aX12_tops 4 rfl) (by decide) ?_
    refine xw_iret (aX12_tops 12 rfl) rfl rfl ?_
    have e9 : (((-11) : Int32)).toInt = (-11) := (by decide : ((-11) : Int32).toInt = (-11))
    exact ⟨((-11) : Int32), rfl, rfl, (by have : (((-11) : Int32)).toInt = (-11) := (by decide); omega), (by exact fun h => absurd h (by omega)), (by exact fun h => absurd h (by omega))⟩
def nX12_finished : Nat := 0xb1d6ffa73302b62e2c02b42a9a00b42a2aea01b56404ea01b42a2a2c02b564042c02b42a2a2700a009102f02b62a
theorem bX12_finished : cX12_finished.data.toList.map UInt8.toNat = x_un nX12_finished 46 := by decide +kernel
def iX12_finished : List (Nat × Jvm.ClassFile.Instr × Nat) := [(0, .aload_n 0, 1), (1, .invokevirtual 559, 3), (4, .bipush 9, 2), (6, .if_icmp .ne 39, 3), (9, .aload_n 0, 1), (10, .aload_n 0, 1), (11, .getfield 556, 3), (14, .iconst 1, 1), (15, .isub, 1), (16, .putfield 556, 3), (19, .aload_n 0, 1), (20, .aload_n 0, 1), (21, .getfield 490, 3), (24, .iconst 1, 1), (25, .isub, 1), (26, .putfield 490, 3), (29, .aload_n 0, 1), (30, .aload_n 0, 1), (31, .getfield 154, 3), (34, .aload_n 0, 1), (35, .getfield 556, 3), (38, .iaload, 1), (39, .invokevirtual 563, 3), (42, .goto (-42), 3), (45, .return_, 1)]
theorem dX12_finished : x_il nX12_finished 46 iX12_finished = true := by decide +kernel
theorem aX12_finished (k : Nat) {pc : Nat} {i : Jvm.ClassFile.Instr} {len : Nat} (hk : iX12_finished[k]? = some (pc, i, len)) : x_at xMM 234 pc i len yX12_finished 1 none := ⟨cX12_finished, rfl, x_il_ok bX12_finished dX12_finished k hk⟩
set_option maxHeartbeats 4000000 in
set_option maxRecDepth 100000 in
theorem n_finished {zk : xK} {base d n sl : Nat} {SH : Nat → Nat × Nat} {FI : Nat → Nat → Int32} {FL : Nat → Nat → Int64} {FR : Nat → Nat → Option Nat} (hS : h_S n SH) (hF : h_FR FR) (hI : g_I FI) (g0 : (FI 121 73).toInt + 4 * (FI 121 90).toInt ≤ 28000) (g1 : -300 ≤ (FI 121 71).toInt ∧ (FI 121 71).toInt ≤ 100) (rel_pm : rl_pm (FI 121 90) (FI 121 73) (FI 166) (FI 167) (FI 168)) : hw zk base (d + 2) none 234 0 [(0, .ref (base + 121))] [] (n, sl, SH, FI, FL, FR) (h_V (fun s => ∃ FI', s = (n, sl, SH, FI', FL, FR) ∧ g_I FI' ∧ g_fr n SH [(121, 71), (121, 73), (121, 90)] [154] [] FI FI' ∧ ((FI' 121 90).toInt ≤ (FI 121 90).toInt) ∧ ((FI' 121 73).toInt + 4 * (FI' 121 90).toInt ≤ (FI 121 73).toInt + 4 * (FI 121 90).toInt) ∧ ((FI 121 73).toInt ≤ (FI' 121 73).toInt) ∧ ((FI' 121 71).toInt - (FI 121 71).toInt = (FI' 121 90).toInt - (FI 121 90).toInt) ∧ (sk (FI 166) (FI' 121 90).toInt.toNat = au_fin (sk (FI 166) (FI 121 90).toInt.toNat)) ∧ (rl_pm (FI' 121 90) (FI' 121 73) (FI' 166) (FI' 167) (FI' 168)))) := by
  obtain ⟨x1, h2⟩ : ∃ y, FI 121 73 = y := ⟨_, rfl⟩
  have h2l := congrArg Int32.toInt h2
  have b3 := gI_121_73 hI; rw [h2] at b3
  obtain ⟨x4, h5⟩ : ∃ y, FI 121 90 = y := ⟨_, rfl⟩
  have h5l := congrArg Int32.toInt h5
  have b6 := gI_121_90 hI; rw [h5] at b6
  obtain ⟨x7, h8⟩ : ∃ y, FI 121 71 = y := ⟨_, rfl⟩
  have h8l := congrArg Int32.toInt h8
  have := i_rng x7
  have lp20 : ∀ (m : Nat) (FIv9 : Nat → Nat → Int32), (g_fr n SH [(121, 71), (121, 73), (121, 90)] [154] [] FI FIv9) → (g_I FIv9) → (rl_pm (FIv9 121 90) (FIv9 121 73) (FIv9 166) (FIv9 167) (FIv9 168)) → (-600 ≤ (FIv9 121 71).toInt ∧ (FIv9 121 71).toInt ≤ 100) → (0 ≤ (FIv9 121 90).toInt ∧ (FIv9 121 90).toInt ≤ 256) → ((FIv9 121 90).toInt ≤ (FI 121 90).toInt) → ((FIv9 121 73).toInt + 4 * (FIv9 121 90).toInt ≤ (FI 121 73).toInt + 4 * (FI 121 90).toInt) → ((FI 121 73).toInt ≤ (FIv9 121 73).toInt) → ((FIv9 121 71).toInt - (FI 121 71).toInt = (FIv9 121 90).toInt - (FI 121 90).toInt) → (au_fin (sk (FI 166) ((FIv9 121 90).toInt).toNat) = au_fin (sk (FI 166) (FI 121 90).toInt.toNat)) → (FIv9 166 = FI 166) → (FIv9 121 90).toInt < m → hw zk base (d + 2) none 234 0 [(0, .ref (base + 121))] [] (n, sl, SH, FIv9, FL, FR) (h_V (fun s => ∃ FI', s = (n, sl, SH, FI', FL, FR) ∧ g_I FI' ∧ g_fr n SH [(121, 71), (121, 73), (121, 90)] [154] [] FI FI' ∧ ((FI' 121 90).toInt ≤ (FI 121 90).toInt) ∧ ((FI' 121 73).toInt + 4 * (FI' 121 90).toInt ≤ (FI 121 73).toInt + 4 * (FI 121 90).toInt) ∧ ((FI 121 73).toInt ≤ (FI' 121 73).toInt) ∧ ((FI' 121 71).toInt - (FI 121 71).toInt = (FI' 121 90).toInt - (FI 121 90).toInt) ∧ (sk (FI 166) (FI' 121 90).toInt.toNat = au_fin (sk (FI 166) (FI 121 90).toInt.toNat)) ∧ (rl_pm (FI' 121 90) (FI' 121 73) (FI' 166) (FI' 167) (FI' 168)))) := by
    intro m
    induction m with
    | zero => intro FIv9 fr10 hI11 rl12 iv13 iv14 iv15 iv16 iv17 iv18 xi0_0 rw19 hm; omega
    | succ m ih =>
      intro FIv9 fr10 hI11 rl12 iv13 iv14 iv15 iv16 iv17 iv18 xi0_0 rw19 hm
      obtain ⟨x21, h22⟩ : ∃ y, FIv9 121 71 = y := ⟨_, rfl⟩
      have h22l := congrArg Int32.toInt h22
      have := i_rng x21
      obtain ⟨x23, h24⟩ : ∃ y, FIv9 121 90 = y := ⟨_, rfl⟩
      have h24l := congrArg Int32.toInt h24
      have b25 := gI_121_90 hI11; rw [h24] at b25
      obtain ⟨x26, h27⟩ : ∃ y, FIv9 121 73 = y := ⟨_, rfl⟩
      have h27l := congrArg Int32.toInt h27
      have b28 := gI_121_73 hI11; rw [h27] at b28
      refine hw_aloadn (aX12_finished 0 rfl) rfl ?_
      refine hw_callV (Bs := []) (rest := []) (aX12_finished 1 rfl) wc_RX12_559 (by decide) rfl wi_yX12_tops wv_yX12_tops (c121 hS) (s121 hS) rfl rfl rfl (Nat.le_of_ble_eq_true rfl) (Nat.le_of_ble_eq_true rfl) (n_tops (d := d + 1) hS hF hI11 ) (fun v29 sv30 p31 => ?_)
      have := congrArg Int32.toInt (show FIv9 121 90 = x23 from h24)
      obtain ⟨r32, rfl, rfl, t34, u35, u36⟩ := p31
      have rg_r32 := i_rng r32
      show hw zk base _ _ _ _ _ [.int (r32)] _ _
      refine hw_bp (v := (9 : Int32)) (aX12_finished 2 rfl) (by decide) ?_
      refine hw_icne (tgt := 45) (aX12_finished 3 rfl) (by decide) rfl (by decide : (9 : Int32).toInt = 9) (fun cd37 => ?_) (fun cd37 => ?_)
      · refine xw_vret (aX12_finished 24 rfl) rfl ?_
        exact ⟨rfl, FIv9, rfl, hI11, fr10, (by have := congrArg Int32.toInt (show FIv9 121 90 = x23 from h24); omega), (by have := congrArg Int32.toInt (show FIv9 121 73 = x26 from h27); have := congrArg Int32.toInt (show FIv9 121 90 = x23 from h24); omega), (by have := congrArg Int32.toInt (show FIv9 121 73 = x26 from h27); omega), (by have := congrArg Int32.toInt (show FIv9 121 71 = x21 from h22); have := congrArg Int32.toInt (show FIv9 121 90 = x23 from h24); omega), (by have hi := xi0_0; rw [show FIv9 121 90 = x23 from h24] at hi; rw [show FIv9 121 90 = x23 from h24]; rcases Int.lt_or_le 0 (x23).toInt with h0 | h0; { have hh := u35 (by omega); rw [show FIv9 166 = FI 166 from rw19, show FIv9 121 90 = x23 from h24] at hh; rw [hh, au_fin_stop (by omega)] at hi; rw [← hi, ← hh] }; { rw [show (x23).toInt.toNat = 0 by omega] at hi ⊢; exact hi }), (show rl_pm (FIv9 121 90) (FIv9 121 73) (FIv9 166) (FIv9 167) (FIv9 168) from rl12)⟩
      · refine hw_aloadn (aX12_finished 4 rfl) rfl ?_
        refine hw_aloadn (aX12_finished 5 rfl) rfl ?_
        refine hw_get (v := .int (x23)) (aX12_finished 6 rfl) wf_RX12_556 (c121 hS) (s121 hS) (by decide) (congrArg Value.int (show FIv9 121 90 = x23 from h24)) ?_
        refine hw_ic (v := (1 : Int32)) (aX12_finished 7 rfl) (by decide) ?_
        refine xw_isub (aX12_finished 8 rfl) ?_
        refine hw_tie (A := ((x23).toInt) - (1)) (i_sub rfl (by decide : (1 : Int32).toInt = 1) (by omega) (by omega)) (fun x38 e39 => ?_)
        refine hv_puti (aX12_finished 9 rfl) wf_RX12_556 (c121 hS) (s121 hS) (by decide) rfl rfl (fun FI40 u41 => ?_)
        have rl42 : rl_pm (FI40 121 90) (FI40 121 73) (FI40 166) (FI40 167) (FI40 168) := by have z0 := congrArg Int32.toInt (show FIv9 121 90 = x23 from h24); have z1 := congrArg Int32.toInt (show FI40 121 90 = x38 from up_eq u41); have := (e39 : (x38).toInt = ((x23).toInt) - (1)); rw [show FI40 166 = FIv9 166 from up_row u41 (by decide) rfl, show FI40 167 = FIv9 167 from up_row u41 (by decide) rfl, show FI40 168 = FIv9 168 from up_row u41 (by decide) rfl, show FI40 121 73 = FIv9 121 73 from up_k u41 (by decide) rfl]; exact rl_pm_mono rl12 (by omega) (by omega)
        have hI43 : g_I FI40 := gU_121_90 hI11 u41 (by have := (e39 : (x38).toInt = ((x23).toInt) - (1)); omega) (by have := (e39 : (x38).toInt = ((x23).toInt) - (1)); omega)
        refine hw_aloadn (aX12_finished 10 rfl) rfl ?_
        refine hw_aloadn (aX12_finished 11 rfl) rfl ?_
        refine hw_get (v := .int (x21)) (aX12_finished 12 rfl) wf_RX12_490 (c121 hS) (s121 hS) (by decide) (congrArg Value.int (show FI40 121 71 = x21 from (up_k u41 (by decide) (h22)))) ?_
        refine hw_ic (v := (1 : Int32)) (aX12_finished 13 rfl) (by decide) ?_
        refine xw_isub (aX12_finished 14 rfl) ?_
        refine hw_tie (A := ((x21).toInt) - (1)) (i_sub rfl (by decide : (1 : Int32).toInt = 1) (by omega) (by omega)) (fun x44 e45 => ?_)
        refine hv_puti (aX12_finished 15 rfl) wf_RX12_490 (c121 hS) (s121 hS) (by decide) rfl rfl (fun FI46 u47 => ?_)
        have rl48 : rl_pm (FI46 121 90) (FI46 121 73) (FI46 166) (FI46 167) (FI46 168) := by rw [show FI46 166 = FI40 166 from up_row u47 (by decide) rfl, show FI46 167 = FI40 167 from up_row u47 (by decide) rfl, show FI46 168 = FI40 168 from up_row u47 (by decide) rfl, show FI46 121 90 = FI40 121 90 from up_k u47 (by decide) rfl, show FI46 121 73 = FI40 121 73 from up_k u47 (by decide) rfl]; exact rl42
        have hI49 : g_I FI46 := gU_F hI43 u47 rfl
        refine hw_aloadn (aX12_finished 16 rfl) rfl ?_
        refine hw_aloadn (aX12_finished 17 rfl) rfl ?_
        refine hw_get (v := .ref (base + 165)) (aX12_finished 18 rfl) wf_RX12_154 (c121 hS) (s121 hS) (by decide) (congrArg (fun r => va_rf (h_rf base r)) (r121_86 hF)) ?_
        refine hw_aloadn (aX12_finished 19 rfl) rfl ?_
        refine hw_get (v := .int (x38)) (aX12_finished 20 rfl) wf_RX12_556 (c121 hS) (s121 hS) (by decide) (congrArg Value.int (show FI46 121 90 = x38 from (up_k u47 (by decide) (up_eq u41)))) ?_
        obtain ⟨x50, h51⟩ : ∃ y, FI46 165 (x38).toNatClampNeg = y := ⟨_, rfl⟩
        have h51l := congrArg Int32.toInt h51
        have := i_rng x50
        refine hw_iald (v := x50) (aX12_finished 21 rfl) (c165 hS) (s165 hS) (h_in e39 (by omega) (by omega)) (show FI46 165 (x38).toNatClampNeg = x50 from h51) ?_
        refine hw_callV (Bs := [.int (x50)]) (rest := []) (aX12_finished 22 rfl) wc_RX12_563 (by decide) rfl wi_yX12_emitted wv_yX12_emitted (c121 hS) (s121 hS) rfl rfl rfl (Nat.le_of_ble_eq_true rfl) (Nat.le_of_ble_eq_true rfl) (n_emitted (d := d) hS hF hI49 (x50) (by have := congrArg Int32.toInt (show FI46 121 73 = x26 from (up_k u47 (by decide) ((up_k u41 (by decide) (h27))))); omega) (show rl_pm (FI46 121 90) (FI46 121 73) (FI46 166) (FI46 167) (FI46 168) from rl48)) (fun v52 sv53 p54 => ?_)
        have := congrArg Int32.toInt (show FI46 121 73 = x26 from (up_k u47 (by decide) ((up_k u41 (by decide) (h27)))))
        have := congrArg Int32.toInt (show FI46 121 73 = x26 from (up_k u47 (by decide) ((up_k u41 (by decide) (h27)))))
        obtain ⟨rfl, FI56, rfl, hI57, f58, t59, t60, rl61⟩ := p54
        obtain ⟨x62, h63⟩ : ∃ y, FI56 121 73 = y := ⟨_, rfl⟩
        have h63l := congrArg Int32.toInt h63
        have b64 := gI_121_73 hI57; rw [h63] at b64
        show hw zk base _ _ _ _ _ [] _ _
        refine xw_goto (tgt := 0) (aX12_finished 23 rfl) (by decide) ?_
        exact hw_L (ih FI56 (gf_tr ex_rf (gf_f (gf_f fr10 u41 (by decide)) u47 (by decide)) f58 rfl rfl rfl) hI57 (show rl_pm (FI56 121 90) (FI56 121 73) (FI56 166) (FI56 167) (FI56 168) from rl61) (by have := congrArg Int32.toInt (show FI56 121 71 = x44 from (gf_at f58 (c121 hS) (s121 hS) rfl (up_eq u47))); have := (e45 : (x44).toInt = ((x21).toInt) - (1)); omega) (by have := congrArg Int32.toInt (show FI56 121 90 = x38 from (gf_at f58 (c121 hS) (s121 hS) rfl ((up_k u47 (by decide) (up_eq u41))))); have := (e39 : (x38).toInt = ((x23).toInt) - (1)); omega) (by have := congrArg Int32.toInt (show FI56 121 90 = x38 from (gf_at f58 (c121 hS) (s121 hS) rfl ((up_k u47 (by decide) (up_eq u41))))); have := (e39 : (x38).toInt = ((x23).toInt) - (1)); omega) (by have := congrArg Int32.toInt (show FI56 121 73 = x62 from h63); have := congrArg Int32.toInt (show FI56 121 90 = x38 from (gf_at f58 (c121 hS) (s121 hS) rfl ((up_k u47 (by decide) (up_eq u41))))); have := (e39 : (x38).toInt = ((x23).toInt) - (1)); omega) (by have := congrArg Int32.toInt (show FI56 121 73 = x62 from h63); omega) (by have := congrArg Int32.toInt (show FI56 121 71 = x44 from (gf_at f58 (c121 hS) (s121 hS) rfl (up_eq u47))); have := (e45 : (x44).toInt = ((x21).toInt) - (1)); have := congrArg Int32.toInt (show FI56 121 90 = x38 from (gf_at f58 (c121 hS) (s121 hS) rfl ((up_k u47 (by decide) (up_eq u41))))); have := (e39 : (x38).toInt = ((x23).toInt) - (1)); omega) (show au_fin (sk (FI 166) ((FI56 121 90).toInt).toNat) = au_fin (sk (FI 166) (FI 121 90).toInt.toNat) from (by have := congrArg Int32.toInt (show FI56 121 90 = x38 from (gf_at f58 (c121 hS) (s121 hS) rfl ((up_k u47 (by decide) (up_eq u41))))); have := (e39 : (x38).toInt = ((x23).toInt) - (1)); exact (by have hh := u35 (by omega); rw [show FIv9 166 = FI 166 from rw19, show FIv9 121 90 = x23 from h24] at hh; have hi := xi0_0; rw [show FIv9 121 90 = x23 from h24, hh, show (r32).toInt = 9 by omega, au_fin_pop] at hi; rw [show ((FI56 121 90).toInt : Int) = (x23).toInt - 1 by omega]; exact hi))) (show FI56 166 = FI 166 from (gf_row f58 (c166 hS) (s166 hS) rfl ((up_row u47 (by decide) ((up_row u41 (by decide) (rw19))))))) (by have := congrArg Int32.toInt (show FI56 121 90 = x38 from (gf_at f58 (c121 hS) (s121 hS) rfl ((up_k u47 (by decide) (up_eq u41))))); have := (e39 : (x38).toInt = ((x23).toInt) - (1)); omega)) ⟨rfl, trivial⟩
  exact hw_L (lp20 (((x4).toInt : Int).toNat + 1) FI gf_rf hI (show rl_pm (FI 121 90) (FI 121 73) (FI 166) (FI 167) (FI 168) from rel_pm) (by have := congrArg Int32.toInt (show FI 121 71 = x7 from h8); omega) (by have := congrArg Int32.toInt (show FI 121 90 = x4 from h5); omega) (by have := congrArg Int32.toInt (show FI 121 90 = x4 from h5); omega) (by have := congrArg Int32.toInt (show FI 121 73 = x1 from h2); have := congrArg Int32.toInt (show FI 121 90 = x4 from h5); omega) (by have := congrArg Int32.toInt (show FI 121 73 = x1 from h2); omega) (by have := congrArg Int32.toInt (show FI 121 71 = x7 from h8); have := congrArg Int32.toInt (show FI 121 90 = x4 from h5); omega) (show au_fin (sk (FI 166) ((FI 121 90).toInt).toNat) = au_fin (sk (FI 166) (FI 121 90).toInt.toNat) from (by have := congrArg Int32.toInt (show FI 121 90 = x4 from h5); exact rfl)) (show FI 166 = FI 166 from rfl) (by have := congrArg Int32.toInt (show FI 121 90 = x4 from h5); omega)) ⟨rfl, trivial⟩
def nX12_reduced : Nat := 0xb1e1ffa7f001b62e2c02b42a9a00b42a2a2c02b564042c02b42a2a1d00a11b2f02b62a
theorem bX12_reduced : cX12_reduced.data.toList.map UInt8.toNat = x_un nX12_reduced 35 := by decide +kernel
def iX12_reduced : List (Nat × Jvm.ClassFile.Instr × Nat) := [(0, .aload_n 0, 1), (1, .invokevirtual 559, 3), (4, .iload_n 1, 1), (5, .if_icmp .lt 29, 3), (8, .aload_n 0, 1), (9, .aload_n 0, 1), (10, .getfield 556, 3), (13, .iconst 1, 1), (14, .isub, 1), (15, .putfield 556, 3), (18, .aload_n 0, 1), (19, .aload_n 0, 1), (20, .getfield 154, 3), (23, .aload_n 0, 1), (24, .getfield 556, 3), (27, .iaload, 1), (28, .invokevirtual 496, 3), (31, .goto (-31), 3), (34, .return_, 1)]
theorem dX12_reduced : x_il nX12_reduced 35 iX12_reduced = true := by decide +kernel
theorem aX12_reduced (k : Nat) {pc : Nat} {i : Jvm.ClassFile.Instr} {len : Nat} (hk : iX12_reduced[k]? = some (pc, i, len)) : x_at xMM 235 pc i len yX12_reduced 2 none := ⟨cX12_reduced, rfl, x_il_ok bX12_reduced dX12_reduced k hk⟩
set_option maxHeartbeats 4000000 in
set_option maxRecDepth 100000 in
theorem n_reduced {zk : xK} {base d n sl : Nat} {SH : Nat → Nat × Nat} {FI : Nat → Nat → Int32} {FL : Nat → Nat → Int64} {FR : Nat → Nat → Option Nat} (hS : h_S n SH) (hF : h_FR FR) (hI : g_I FI) (a1 : Int32) (g0 : (FI 121 73).toInt + 4 * (FI 121 90).toInt ≤ 28000) (g1 : 1 ≤ (a1).toInt ∧ (a1).toInt ≤ 7) (rel_pm : rl_pm (FI 121 90) (FI 121 73) (FI 166) (FI 167) (FI 168)) : hw zk base (d + 1) none 235 0 [(0, .ref (base + 121)), (1, .int (a1))] [] (n, sl, SH, FI, FL, FR) (h_V (fun s => ∃ FI', s = (n, sl, SH, FI', FL, FR) ∧ g_I FI' ∧ g_fr n SH [(121, 73), (121, 90)] [154] [] FI FI' ∧ ((FI' 121 90).toInt ≤ (FI 121 90).toInt) ∧ ((FI' 121 73).toInt + 4 * (FI' 121 90).toInt ≤ (FI 121 73).toInt + 4 * (FI 121 90).toInt) ∧ ((FI 121 73).toInt ≤ (FI' 121 73).toInt) ∧ (sk (FI 166) (FI' 121 90).toInt.toNat = au_red (a1).toInt (sk (FI 166) (FI 121 90).toInt.toNat)) ∧ (rl_pm (FI' 121 90) (FI' 121 73) (FI' 166) (FI' 167) (FI' 168)))) := by
  have rg_a1 := i_rng a1
  obtain ⟨x1, h2⟩ : ∃ y, FI 121 73 = y := ⟨_, rfl⟩
  have h2l := congrArg Int32.toInt h2
  have b3 := gI_121_73 hI; rw [h2] at b3
  obtain ⟨x4, h5⟩ : ∃ y, FI 121 90 = y := ⟨_, rfl⟩
  have h5l := congrArg Int32.toInt h5
  have b6 := gI_121_90 hI; rw [h5] at b6
  have lp16 : ∀ (m : Nat) (FIv7 : Nat → Nat → Int32), (g_fr n SH [(121, 73), (121, 90)] [154] [] FI FIv7) → (g_I FIv7) → (rl_pm (FIv7 121 90) (FIv7 121 73) (FIv7 166) (FIv7 167) (FIv7 168)) → (0 ≤ (FIv7 121 90).toInt ∧ (FIv7 121 90).toInt ≤ 256) → ((FIv7 121 90).toInt ≤ (FI 121 90).toInt) → ((FIv7 121 73).toInt + 4 * (FIv7 121 90).toInt ≤ (FI 121 73).toInt + 4 * (FI 121 90).toInt) → ((FI 121 73).toInt ≤ (FIv7 121 73).toInt) → (au_red (a1).toInt (sk (FI 166) ((FIv7 121 90).toInt).toNat) = au_red (a1).toInt (sk (FI 166) (FI 121 90).toInt.toNat)) → (FIv7 166 = FI 166) → (FIv7 121 90).toInt < m → hw zk base (d + 1) none 235 0 [(0, .ref (base + 121)), (1, .int (a1))] [] (n, sl, SH, FIv7, FL, FR) (h_V (fun s => ∃ FI', s = (n, sl, SH, FI', FL, FR) ∧ g_I FI' ∧ g_fr n SH [(121, 73), (121, 90)] [154] [] FI FI' ∧ ((FI' 121 90).toInt ≤ (FI 121 90).toInt) ∧ ((FI' 121 73).toInt + 4 * (FI' 121 90).toInt ≤ (FI 121 73).toInt + 4 * (FI 121 90).toInt) ∧ ((FI 121 73).toInt ≤ (FI' 121 73).toInt) ∧ (sk (FI 166) (FI' 121 90).toInt.toNat = au_red (a1).toInt (sk (FI 166) (FI 121 90).toInt.toNat)) ∧ (rl_pm (FI' 121 90) (FI' 121 73) (FI' 166) (FI' 167) (FI' 168)))) := by
    intro m
    induction m with
    | zero => intro FIv7 fr8 hI9 rl10 iv11 iv12 iv13 iv14 xi0_0 rw15 hm; omega
    | succ m ih =>
      intro FIv7 fr8 hI9 rl10 iv11 iv12 iv13 iv14 xi0_0 rw15 hm
      obtain ⟨x17, h18⟩ : ∃ y, FIv7 121 90 = y := ⟨_, rfl⟩
      have h18l := congrArg Int32.toInt h18
      have b19 := gI_121_90 hI9; rw [h18] at b19
      obtain ⟨x20, h21⟩ : ∃ y, FIv7 121 73 = y := ⟨_, rfl⟩
      have h21l := congrArg Int32.toInt h21
      have b22 := gI_121_73 hI9; rw [h21] at b22
      refine hw_aloadn (aX12_reduced 0 rfl) rfl ?_
      refine hw_callV (Bs := []) (rest := []) (aX12_reduced 1 rfl) wc_RX12_559 (by decide) rfl wi_yX12_tops wv_yX12_tops (c121 hS) (s121 hS) rfl rfl rfl (Nat.le_of_ble_eq_true rfl) (Nat.le_of_ble_eq_true rfl) (n_tops (d := d) hS hF hI9 ) (fun v23 sv24 p25 => ?_)
      have := congrArg Int32.toInt (show FIv7 121 90 = x17 from h18)
      obtain ⟨r26, rfl, rfl, t28, u29, u30⟩ := p25
      have rg_r26 := i_rng r26
      show hw zk base _ _ _ _ _ [.int (r26)] _ _
      refine xw_iloadn (aX12_reduced 2 rfl) rfl ?_
      refine hw_iclt (tgt := 34) (aX12_reduced 3 rfl) (by decide) rfl rfl (fun cd31 => ?_) (fun cd31 => ?_)
      · refine xw_vret (aX12_reduced 18 rfl) rfl ?_
        exact ⟨rfl, FIv7, rfl, hI9, fr8, (by have := congrArg Int32.toInt (show FIv7 121 90 = x17 from h18); omega), (by have := congrArg Int32.toInt (show FIv7 121 73 = x20 from h21); have := congrArg Int32.toInt (show FIv7 121 90 = x17 from h18); omega), (by have := congrArg Int32.toInt (show FIv7 121 73 = x20 from h21); omega), (by have hi := xi0_0; rw [show FIv7 121 90 = x17 from h18] at hi; rw [show FIv7 121 90 = x17 from h18]; rcases Int.lt_or_le 0 (x17).toInt with h0 | h0; { have hh := u29 (by omega); rw [show FIv7 166 = FI 166 from rw15, show FIv7 121 90 = x17 from h18] at hh; rw [hh, au_red_stop (by omega)] at hi; rw [← hi, ← hh] }; { rw [show (x17).toInt.toNat = 0 by omega] at hi ⊢; exact hi }), (show rl_pm (FIv7 121 90) (FIv7 121 73) (FIv7 166) (FIv7 167) (FIv7 168) from rl10)⟩
      · refine hw_aloadn (aX12_reduced 4 rfl) rfl ?_
        refine hw_aloadn (aX12_reduced 5 rfl) rfl ?_
        refine hw_get (v := .int (x17)) (aX12_reduced 6 rfl) wf_RX12_556 (c121 hS) (s121 hS) (by decide) (congrArg Value.int (show FIv7 121 90 = x17 from h18)) ?_
        refine hw_ic (v := (1 : Int32)) (aX12_reduced 7 rfl) (by decide) ?_
        refine xw_isub (aX12_reduced 8 rfl) ?_
        refine hw_tie (A := ((x17).toInt) - (1)) (i_sub rfl (by decide : (1 : Int32).toInt = 1) (by omega) (by omega)) (fun x32 e33 => ?_)
        refine hv_puti (aX12_reduced 9 rfl) wf_RX12_556 (c121 hS) (s121 hS) (by decide) rfl rfl (fun FI34 u35 => ?_)
        have rl36 : rl_pm (FI34 121 90) (FI34 121 73) (FI34 166) (FI34 167) (FI34 168) := by have z0 := congrArg Int32.toInt (show FIv7 121 90 = x17 from h18); have z1 := congrArg Int32.toInt (show FI34 121 90 = x32 from up_eq u35); have := (e33 : (x32).toInt = ((x17).toInt) - (1)); rw [show FI34 166 = FIv7 166 from up_row u35 (by decide) rfl, show FI34 167 = FIv7 167 from up_row u35 (by decide) rfl, show FI34 168 = FIv7 168 from up_row u35 (by decide) rfl, show FI34 121 73 = FIv7 121 73 from up_k u35 (by decide) rfl]; exact rl_pm_mono rl10 (by omega) (by omega)
        have hI37 : g_I FI34 := gU_121_90 hI9 u35 (by have := (e33 : (x32).toInt = ((x17).toInt) - (1)); omega) (by have := (e33 : (x32).toInt = ((x17).toInt) - (1)); omega)
        refine hw_aloadn (aX12_reduced 10 rfl) rfl ?_
        refine hw_aloadn (aX12_reduced 11 rfl) rfl ?_
        refine hw_get (v := .ref (base + 165)) (aX12_reduced 12 rfl) wf_RX12_154 (c121 hS) (s121 hS) (by decide) (congrArg (fun r => va_rf (h_rf base r)) (r121_86 hF)) ?_
        refine hw_aloadn (aX12_reduced 13 rfl) rfl ?_
        refine hw_get (v := .int (x32)) (aX12_reduced 14 rfl) wf_RX12_556 (c121 hS) (s121 hS) (by decide) (congrArg Value.int (show FI34 121 90 = x32 from up_eq u35)) ?_
        obtain ⟨x38, h39⟩ : ∃ y, FI34 165 (x32).toNatClampNeg = y := ⟨_, rfl⟩
        have h39l := congrArg Int32.toInt h39
        have := i_rng x38
        refine hw_iald (v := x38) (aX12_reduced 15 rfl) (c165 hS) (s165 hS) (h_in e33 (by omega) (by omega)) (show FI34 165 (x32).toNatClampNeg = x38 from h39) ?_
        refine hw_callV (Bs := [.int (x38)]) (rest := []) (aX12_reduced 16 rfl) wc_RX12_496 (by decide) rfl wi_yX12_emit wv_yX12_emit (c121 hS) (s121 hS) rfl rfl rfl (Nat.le_of_ble_eq_true rfl) (Nat.le_of_ble_eq_true rfl) (n_emit (d := d) hS hF hI37 (x38) (by have := congrArg Int32.toInt (show FI34 121 73 = x20 from (up_k u35 (by decide) (h21))); omega) (show rl_pm (FI34 121 90) (FI34 121 73) (FI34 166) (FI34 167) (FI34 168) from rl36)) (fun v40 sv41 p42 => ?_)
        have := congrArg Int32.toInt (show FI34 121 73 = x20 from (up_k u35 (by decide) (h21)))
        obtain ⟨rfl, FI44, rfl, hI45, f46, t47, rl48⟩ := p42
        obtain ⟨x49, h50⟩ : ∃ y, FI44 121 73 = y := ⟨_, rfl⟩
        have h50l := congrArg Int32.toInt h50
        have b51 := gI_121_73 hI45; rw [h50] at b51
        show hw zk base _ _ _ _ _ [] _ _
        refine xw_goto (tgt := 0) (aX12_reduced 17 rfl) (by decide) ?_
        exact hw_L (ih FI44 (gf_tr ex_rf (gf_f fr8 u35 (by decide)) f46 rfl rfl rfl) hI45 (show rl_pm (FI44 121 90) (FI44 121 73) (FI44 166) (FI44 167) (FI44 168) from rl48) (by have := congrArg Int32.toInt (show FI44 121 90 = x32 from (gf_at f46 (c121 hS) (s121 hS) rfl (up_eq u35))); have := (e33 : (x32).toInt = ((x17).toInt) - (1)); omega) (by have := congrArg Int32.toInt (show FI44 121 90 = x32 from (gf_at f46 (c121 hS) (s121 hS) rfl (up_eq u35))); have := (e33 : (x32).toInt = ((x17).toInt) - (1)); omega) (by have := congrArg Int32.toInt (show FI44 121 73 = x49 from h50); have := congrArg Int32.toInt (show FI44 121 90 = x32 from (gf_at f46 (c121 hS) (s121 hS) rfl (up_eq u35))); have := (e33 : (x32).toInt = ((x17).toInt) - (1)); omega) (by have := congrArg Int32.toInt (show FI44 121 73 = x49 from h50); omega) (show au_red (a1).toInt (sk (FI 166) ((FI44 121 90).toInt).toNat) = au_red (a1).toInt (sk (FI 166) (FI 121 90).toInt.toNat) from (by have := congrArg Int32.toInt (show FI44 121 90 = x32 from (gf_at f46 (c121 hS) (s121 hS) rfl (up_eq u35))); have := (e33 : (x32).toInt = ((x17).toInt) - (1)); exact (by have hh := u29 (by omega); rw [show FIv7 166 = FI 166 from rw15, show FIv7 121 90 = x17 from h18] at hh; have hi := xi0_0; rw [show FIv7 121 90 = x17 from h18, hh, au_red_pop (by omega)] at hi; rw [show ((FI44 121 90).toInt : Int) = (x17).toInt - 1 by omega]; exact hi))) (show FI44 166 = FI 166 from (gf_row f46 (c166 hS) (s166 hS) rfl ((up_row u35 (by decide) (rw15))))) (by have := congrArg Int32.toInt (show FI44 121 90 = x32 from (gf_at f46 (c121 hS) (s121 hS) rfl (up_eq u35))); have := (e33 : (x32).toInt = ((x17).toInt) - (1)); omega)) ⟨rfl, rfl, trivial⟩
  exact hw_L (lp16 (((x4).toInt : Int).toNat + 1) FI gf_rf hI (show rl_pm (FI 121 90) (FI 121 73) (FI 166) (FI 167) (FI 168) from rel_pm) (by have := congrArg Int32.toInt (show FI 121 90 = x4 from h5); omega) (by have := congrArg Int32.toInt (show FI 121 90 = x4 from h5); omega) (by have := congrArg Int32.toInt (show FI 121 73 = x1 from h2); have := congrArg Int32.toInt (show FI 121 90 = x4 from h5); omega) (by have := congrArg Int32.toInt (show FI 121 73 = x1 from h2); omega) (show au_red (a1).toInt (sk (FI 166) ((FI 121 90).toInt).toNat) = au_red (a1).toInt (sk (FI 166) (FI 121 90).toInt.toNat) from (by have := congrArg Int32.toInt (show FI 121 90 = x4 from h5); exact rfl)) (show FI 166 = FI 166 from rfl) (by have := congrArg Int32.toInt (show FI 121 90 = x4 from h5); omega)) ⟨rfl, rfl, trivial⟩
end
section
def nX12_turned : Nat := 0xb14f7eff00117a08106006041560041b7800b42a4f7eff0011600604151b7800b42ae4ffa70106844f2e06159700b42a600615600605157800b42a1c00a21d06150636034f7eff00117a08101d600505157800b42a4f7eff00111d600405157800b42a4f2f1005157800b42a053660041560051be2ffa70105844f2e6005151c7800b42a60051560051b7800b42a1d00a204150515053603e5ffa70105844f2e60051560051b7800b42a05159700b42a1b00a21d0515053603b10400a4a00f11ed01b42af901b606092a0436641ced01b42a3e6405641b1c3d2e2c02b42aa300b42a3c2e2c02b42aa000b42aea01b56404ea01b42a2a2c02b564042c02b42a2a
theorem bX12_turned : cX12_turned.data.toList.map UInt8.toNat = x_un nX12_turned 256 := by decide +kernel
def iX12_turned : List (Nat × Jvm.ClassFile.Instr × Nat) := [(0, .aload_n 0, 1), (1, .aload_n 0, 1), (2, .getfield 556, 3), (5, .iconst 1, 1), (6, .isub, 1), (7, .putfield 556, 3), (10, .aload_n 0, 1), (11, .aload_n 0, 1), (12, .getfield 490, 3), (15, .iconst 1, 1), (16, .isub, 1), (17, .putfield 490, 3), (20, .aload_n 0, 1), (21, .getfield 160, 3), (24, .aload_n 0, 1), (25, .getfield 556, 3), (28, .iaload, 1), (29, .istore_n 1, 1), (30, .aload_n 0, 1), (31, .getfield 163, 3), (34, .aload_n 0, 1), (35, .getfield 556, 3), (38, .iaload, 1), (39, .istore_n 2, 1), (40, .iload_n 2, 1), (41, .iload_n 1, 1), (42, .isub, 1), (43, .iconst 2, 1), (44, .isub, 1), (45, .istore_n 3, 1), (46, .aload_n 0, 1), (47, .getfield 493, 3), (50, .iload_n 2, 1), (51, .isub, 1), (52, .istore 4, 2), (54, .aload_n 0, 1), (55, .lconst 0, 1), (56, .iconst 3, 1), (57, .invokevirtual 505, 3), (60, .aload_n 0, 1), (61, .getfield 493, 3), (64, .sipush 4000, 3), (67, .if_icmp .le 4, 3), (70, .return_, 1), (71, .iconst 0, 1), (72, .istore 5, 2), (74, .iload 5, 2), (76, .iload_n 3, 1), (77, .if_icmp .ge 27, 3), (80, .aload_n 0, 1), (81, .getfield 151, 3), (84, .iload 5, 2), (86, .aload_n 0, 1), (87, .getfield 120, 3), (90, .iload_n 1, 1), (91, .iconst 2, 1), (92, .iadd, 1), (93, .iload 5, 2), (95, .iadd, 1), (96, .iaload, 1), (97, .iastore, 1), (98, .iinc 5 1, 3), (101, .goto (-27), 3), (104, .iconst 0, 1), (105, .istore 5, 2), (107, .iload 5, 2), (109, .iload 4, 2), (111, .if_icmp .ge 29, 3), (114, .aload_n 0, 1), (115, .getfield 120, 3), (118, .iload_n 1, 1), (119, .iconst 2, 1), (120, .iadd, 1), (121, .iload 5, 2), (123, .iadd, 1), (124, .aload_n 0, 1), (125, .getfield 120, 3), (128, .iload_n 2, 1), (129, .iload 5, 2), (131, .iadd, 1), (132, .iaload, 1), (133, .iastore, 1), (134, .iinc 5 1, 3), (137, .goto (-30), 3), (140, .iload_n 1, 1), (141, .iconst 2, 1), (142, .iadd, 1), (143, .iload 4, 2), (145, .iadd, 1), (146, .istore 5, 2), (148, .aload_n 0, 1), (149, .getfield 120, 3), (152, .iload 5, 2), (154, .bipush 47, 2), (156, .iastore, 1), (157, .aload_n 0, 1), (158, .getfield 120, 3), (161, .iload 5, 2), (163, .iconst 1, 1), (164, .iadd, 1), (165, .iload_n 3, 1), (166, .sipush 255, 3), (169, .iand, 1), (170, .iastore, 1), (171, .aload_n 0, 1), (172, .getfield 120, 3), (175, .iload 5, 2), (177, .iconst 2, 1), (178, .iadd, 1), (179, .iload_n 3, 1), (180, .bipush 8, 2), (182, .ishr, 1), (183, .sipush 255, 3), (186, .iand, 1), (187, .iastore, 1), (188, .iconst 0, 1), (189, .istore 6, 2), (191, .iload 6, 2), (193, .iload_n 3, 1), (194, .if_icmp .ge 28, 3), (197, .aload_n 0, 1), (198, .getfield 120, 3), (201, .iload 5, 2), (203, .iconst 3, 1), (204, .iadd, 1), (205, .iload 6, 2), (207, .iadd, 1), (208, .aload_n 0, 1), (209, .getfield 151, 3), (212, .iload 6, 2), (214, .iaload, 1), (215, .iastore, 1), (216, .iinc 6 1, 3), (219, .goto (-28), 3), (222, .aload_n 0, 1), (223, .getfield 120, 3), (226, .iload_n 1, 1), (227, .iload 4, 2), (229, .iconst 3, 1), (230, .iadd, 1), (231, .sipush 255, 3), (234, .iand, 1), (235, .iastore, 1), (236, .aload_n 0, 1), (237, .getfield 120, 3), (240, .iload_n 1, 1), (241, .iconst 1, 1), (242, .iadd, 1), (243, .iload 4, 2), (245, .iconst 3, 1), (246, .iadd, 1), (247, .bipush 8, 2), (249, .ishr, 1), (250, .sipush 255, 3), (253, .iand, 1), (254, .iastore, 1), (255, .return_, 1)]
theorem dX12_turned : x_il nX12_turned 256 iX12_turned = true := by decide +kernel
theorem aX12_turned (k : Nat) {pc : Nat} {i : Jvm.ClassFile.Instr} {len : Nat} (hk : iX12_turned[k]? = some (pc, i, len)) : x_at xMM 236 pc i len yX12_turned 7 none := ⟨cX12_turned, rfl, x_il_ok bX12_turned dX12_turned k hk⟩
set_option maxHeartbeats 4000000 in
set_option maxRecDepth 100000 in
theorem n_turned {zk : xK} {base d n sl : Nat} {SH : Nat → Nat × Nat} {FI : Nat → Nat → Int32} {FL : Nat → Nat → Int64} {FR : Nat → Nat → Option Nat} (hS : h_S n SH) (hF : h_FR FR) (hI : g_I FI) (g0 : 1 ≤ (FI 121 90).toInt) (g1 : (FI 121 73).toInt ≤ 29000) (g2 : -300 ≤ (FI 121 71).toInt ∧ (FI 121 71).toInt ≤ 300) (gg0 : (FI 166 ((FI 121 90).toInt - 1).toNat).toInt = -3) (rel_pm : rl_pm (FI 121 90) (FI 121 73) (FI 166) (FI 167) (FI 168)) : hw zk base (d + 2) none 236 0 [(0, .ref (base + 121))] [] (n, sl, SH, FI, FL, FR) (h_V (fun s => ∃ FI', s = (n, sl, SH, FI', FL, FR) ∧ g_I FI' ∧ g_fr n SH [(121, 71), (121, 73), (121, 90)] [154, 164] [] FI FI' ∧ ((FI' 121 90).toInt = (FI 121 90).toInt - 1) ∧ ((FI' 121 71).toInt = (FI 121 71).toInt - 1) ∧ ((FI' 121 73).toInt = (FI 121 73).toInt + 3) ∧ (rl_pm (FI' 121 90) (FI' 121 73) (FI' 166) (FI' 167) (FI' 168)))) := by
  obtain ⟨x1, h2⟩ : ∃ y, FI 121 90 = y := ⟨_, rfl⟩
  have h2l := congrArg Int32.toInt h2
  have b3 := gI_121_90 hI; rw [h2] at b3
  obtain ⟨x4, h5⟩ : ∃ y, FI 121 73 = y := ⟨_, rfl⟩
  have h5l := congrArg Int32.toInt h5
  have b6 := gI_121_73 hI; rw [h5] at b6
  obtain ⟨x7, h8⟩ : ∃ y, FI 121 71 = y := ⟨_, rfl⟩
  have h8l := congrArg Int32.toInt h8
  have := i_rng x7
  have e9 : -300 ≤ (x7).toInt ∧ (x7).toInt ≤ 300 := by omega
  refine hw_aloadn (aX12_turned 0 rfl) rfl ?_
  refine hw_aloadn (aX12_turned 1 rfl) rfl ?_
  refine hw_get (v := .int (x1)) (aX12_turned 2 rfl) wf_RX12_556 (c121 hS) (s121 hS) (by decide) (congrArg Value.int (show FI 121 90 = x1 from h2)) ?_
  refine hw_ic (v := (1 : Int32)) (aX12_turned 3 rfl) (by decide) ?_
  refine xw_isub (aX12_turned 4 rfl) ?_
  refine hw_tie (A := ((x1).toInt) - (1)) (i_sub rfl (by decide : (1 : Int32).toInt = 1) (by omega) (by omega)) (fun x10 e11 => ?_)
  refine hv_puti (aX12_turned 5 rfl) wf_RX12_556 (c121 hS) (s121 hS) (by decide) rfl rfl (fun FI12 u13 => ?_)
  have rl14 : rl_pm (FI12 121 90) (FI12 121 73) (FI12 166) (FI12 167) (FI12 168) := by have z0 := congrArg Int32.toInt (show FI 121 90 = x1 from h2); have z1 := congrArg Int32.toInt (show FI12 121 90 = x10 from up_eq u13); have := (e11 : (x10).toInt = ((x1).toInt) - (1)); rw [show FI12 166 = FI 166 from up_row u13 (by decide) rfl, show FI12 167 = FI 167 from up_row u13 (by decide) rfl, show FI12 168 = FI 168 from up_row u13 (by decide) rfl, show FI12 121 73 = FI 121 73 from up_k u13 (by decide) rfl]; exact rl_pm_mono rel_pm (by omega) (by omega)
  have hI15 : g_I FI12 := gU_121_90 hI u13 (by have := (e11 : (x10).toInt = ((x1).toInt) - (1)); omega) (by have := (e11 : (x10).toInt = ((x1).toInt) - (1)); omega)
  refine hw_aloadn (aX12_turned 6 rfl) rfl ?_
  refine hw_aloadn (aX12_turned 7 rfl) rfl ?_
  refine hw_get (v := .int (x7)) (aX12_turned 8 rfl) wf_RX12_490 (c121 hS) (s121 hS) (by decide) (congrArg Value.int (show FI12 121 71 = x7 from (up_k u13 (by decide) (h8)))) ?_
  refine hw_ic (v := (1 : Int32)) (aX12_turned 9 rfl) (by decide) ?_
  refine xw_isub (aX12_turned 10 rfl) ?_
  refine hw_tie (A := ((x7).toInt) - (1)) (i_sub rfl (by decide : (1 : Int32).toInt = 1) (by omega) (by omega)) (fun x16 e17 => ?_)
  refine hv_puti (aX12_turned 11 rfl) wf_RX12_490 (c121 hS) (s121 hS) (by decide) rfl rfl (fun FI18 u19 => ?_)
  have rl20 : rl_pm (FI18 121 90) (FI18 121 73) (FI18 166) (FI18 167) (FI18 168) := by rw [show FI18 166 = FI12 166 from up_row u19 (by decide) rfl, show FI18 167 = FI12 167 from up_row u19 (by decide) rfl, show FI18 168 = FI12 168 from up_row u19 (by decide) rfl, show FI18 121 90 = FI12 121 90 from up_k u19 (by decide) rfl, show FI18 121 73 = FI12 121 73 from up_k u19 (by decide) rfl]; exact rl14
  have hI21 : g_I FI18 := gU_F hI15 u19 rfl
  refine hw_aloadn (aX12_turned 12 rfl) rfl ?_
  refine hw_get (v := .ref (base + 167)) (aX12_turned 13 rfl) wf_RX12_160 (c121 hS) (s121 hS) (by decide) (congrArg (fun r => va_rf (h_rf base r)) (r121_88 hF)) ?_
  refine hw_aloadn (aX12_turned 14 rfl) rfl ?_
  refine hw_get (v := .int (x10)) (aX12_turned 15 rfl) wf_RX12_556 (c121 hS) (s121 hS) (by decide) (congrArg Value.int (show FI18 121 90 = x10 from (up_k u19 (by decide) (up_eq u13)))) ?_
  obtain ⟨x22, h23⟩ : ∃ y, FI18 167 (x10).toNatClampNeg = y := ⟨_, rfl⟩
  have h23l := congrArg Int32.toInt h23
  have := i_rng x22
  refine hw_iald (v := x22) (aX12_turned 16 rfl) (c167 hS) (s167 hS) (h_in e11 (by omega) (by omega)) (show FI18 167 (x10).toNatClampNeg = x22 from h23) ?_
  refine xw_istoren (L2 := [(1, .int (x22)), (0, .ref (base + 121))]) (aX12_turned 17 rfl) (by decide) rfl ?_
  refine hw_aloadn (aX12_turned 18 rfl) rfl ?_
  refine hw_get (v := .ref (base + 168)) (aX12_turned 19 rfl) wf_RX12_163 (c121 hS) (s121 hS) (by decide) (congrArg (fun r => va_rf (h_rf base r)) (r121_89 hF)) ?_
  refine hw_aloadn (aX12_turned 20 rfl) rfl ?_
  refine hw_get (v := .int (x10)) (aX12_turned 21 rfl) wf_RX12_556 (c121 hS) (s121 hS) (by decide) (congrArg Value.int (show FI18 121 90 = x10 from (up_k u19 (by decide) (up_eq u13)))) ?_
  obtain ⟨x24, h25⟩ : ∃ y, FI18 168 (x10).toNatClampNeg = y := ⟨_, rfl⟩
  have h25l := congrArg Int32.toInt h25
  have := i_rng x24
  refine hw_iald (v := x24) (aX12_turned 22 rfl) (c168 hS) (s168 hS) (h_in e11 (by omega) (by omega)) (show FI18 168 (x10).toNatClampNeg = x24 from h25) ?_
  refine xw_istoren (L2 := [(2, .int (x24)), (1, .int (x22)), (0, .ref (base + 121))]) (aX12_turned 23 rfl) (by decide) rfl ?_
  have hq := (rel_pm ((FI 121 90).toInt - 1).toNat (by omega)).2 gg0
  rw [← i_cl (x := x10) (A := (FI 121 90).toInt - 1) (by omega), ← (show FI18 167 = FI 167 from (up_row u19 (by decide) ((up_row u13 (by decide) (rfl))))), ← (show FI18 168 = FI 168 from (up_row u19 (by decide) ((up_row u13 (by decide) (rfl)))))] at hq
  have e26 : 0 ≤ (x22).toInt ∧ (x22).toInt ≤ 30000 := by omega
  have e27 : 0 ≤ (x24).toInt ∧ (x24).toInt ≤ 30000 := by omega
  refine xw_iloadn (aX12_turned 24 rfl) rfl ?_
  refine xw_iloadn (aX12_turned 25 rfl) rfl ?_
  refine xw_isub (aX12_turned 26 rfl) ?_
  refine hw_tie (A := ((x24).toInt) - ((x22).toInt)) (i_sub rfl rfl (by omega) (by omega)) (fun x28 e29 => ?_)
  refine hw_ic (v := (2 : Int32)) (aX12_turned 27 rfl) (by decide) ?_
  refine xw_isub (aX12_turned 28 rfl) ?_
  refine hw_tie (A := (((x24).toInt) - ((x22).toInt)) - (2)) (i_sub e29 (by decide : (2 : Int32).toInt = 2) (by omega) (by omega)) (fun x30 e31 => ?_)
  refine xw_istoren (L2 := [(3, .int (x30)), (2, .int (x24)), (1, .int (x22)), (0, .ref (base + 121))]) (aX12_turned 29 rfl) (by decide) rfl ?_
  refine hw_aloadn (aX12_turned 30 rfl) rfl ?_
  refine hw_get (v := .int (x4)) (aX12_turned 31 rfl) wf_RX12_493 (c121 hS) (s121 hS) (by decide) (congrArg Value.int (show FI18 121 73 = x4 from (up_k u19 (by decide) ((up_k u13 (by decide) (h5)))))) ?_
  refine xw_iloadn (aX12_turned 32 rfl) rfl ?_
  refine xw_isub (aX12_turned 33 rfl) ?_
  refine hw_tie (A := ((x4).toInt) - ((x24).toInt)) (i_sub rfl rfl (by omega) (by omega)) (fun x32 e33 => ?_)
  refine xw_istore (L2 := [(4, .int (x32)), (3, .int (x30)), (2, .int (x24)), (1, .int (x22)), (0, .ref (base + 121))]) (aX12_turned 34 rfl) (by decide) rfl ?_
  refine hw_aloadn (aX12_turned 35 rfl) rfl ?_
  refine hw_lc (v := (0 : Int64)) (aX12_turned 36 rfl) (by decide) ?_
  refine hw_ic (v := (3 : Int32)) (aX12_turned 37 rfl) (by decide) ?_
  refine hw_callV (Bs := [.long ((0 : Int64)), .int ((3 : Int32))]) (rest := []) (aX12_turned 38 rfl) wc_RX12_505 (by decide) rfl wi_yX12_emits wv_yX12_emits (c121 hS) (s121 hS) rfl rfl rfl (Nat.le_of_ble_eq_true rfl) (Nat.le_of_ble_eq_true rfl) (n_emits (d := d) hS hF hI21 ((0 : Int64)) ((3 : Int32)) (by have := congrArg Int32.toInt (show FI18 121 73 = x4 from (up_k u19 (by decide) ((up_k u13 (by decide) (h5))))); omega) (by have := ((by decide : (3 : Int32).toInt = 3) : ((3 : Int32)).toInt = 3); have := ((by decide : (3 : Int32).toInt = 3) : ((3 : Int32)).toInt = 3); omega) (show rl_pm (FI18 121 90) (FI18 121 73) (FI18 166) (FI18 167) (FI18 168) from rl20)) (fun v34 sv35 p36 => ?_)
  have := congrArg Int32.toInt (show FI18 121 73 = x4 from (up_k u19 (by decide) ((up_k u13 (by decide) (h5)))))
  have := ((by decide : (3 : Int32).toInt = 3) : ((3 : Int32)).toInt = 3)
  obtain ⟨rfl, FI38, rfl, hI39, f40, t41, rl42⟩ := p36
  obtain ⟨x43, h44⟩ : ∃ y, FI38 121 73 = y := ⟨_, rfl⟩
  have h44l := congrArg Int32.toInt h44
  have b45 := gI_121_73 hI39; rw [h44] at b45
  show hw zk base _ _ _ _ _ [] _ _
  refine hw_aloadn (aX12_turned 39 rfl) rfl ?_
  refine hw_get (v := .int (x43)) (aX12_turned 40 rfl) wf_RX12_493 (c121 hS) (s121 hS) (by decide) (congrArg Value.int (show FI38 121 73 = x43 from h44)) ?_
  refine hw_sp (v := (4000 : Int32)) (aX12_turned 41 rfl) (by decide) ?_
  refine hw_icle (tgt := 71) (aX12_turned 42 rfl) (by decide) rfl (by decide : (4000 : Int32).toInt = 4000) (fun cd46 => ?_) (fun cd46 => ?_)
  · refine hw_ic (v := (0 : Int32)) (aX12_turned 44 rfl) (by decide) ?_
    refine xw_istore (L2 := [(5, .int ((0 : Int32))), (4, .int (x32)), (3, .int (x30)), (2, .int (x24)), (1, .int (x22)), (0, .ref (base + 121))]) (aX12_turned 45 rfl) (by decide) rfl ?_
    have lp60 : ∀ (m : Nat) (y5 : Int32) (FIv47 : Nat → Nat → Int32), (g_fr n SH [(121, 71), (121, 73), (121, 90)] [154, 164] [] FI FIv47) → (g_I FIv47) → (FIv47 121 90 = x10) → (FIv47 121 71 = x16) → (FIv47 167 (x10).toNatClampNeg = x22) → (FIv47 168 (x10).toNatClampNeg = x24) → (FIv47 121 73 = x43) → (rl_pm (FIv47 121 90) (FIv47 121 73) (FIv47 166) (FIv47 167) (FIv47 168)) → (0 ≤ (y5).toInt ∧ (y5).toInt ≤ 4000) → ((y5).toInt ≤ (x30).toInt) → (FIv47 167 = FI 167) → (FIv47 168 = FI 168) → (x30).toInt - (y5).toInt < m → hw zk base (d + 2) none 236 74 [(5, .int (y5)), (4, .int (x32)), (3, .int (x30)), (2, .int (x24)), (1, .int (x22)), (0, .ref (base + 121))] [] (n, sl, SH, FIv47, FL, FR) (h_V (fun s => ∃ FI', s = (n, sl, SH, FI', FL, FR) ∧ g_I FI' ∧ g_fr n SH [(121, 71), (121, 73), (121, 90)] [154, 164] [] FI FI' ∧ ((FI' 121 90).toInt = (FI 121 90).toInt - 1) ∧ ((FI' 121 71).toInt = (FI 121 71).toInt - 1) ∧ ((FI' 121 73).toInt = (FI 121 73).toInt + 3) ∧ (rl_pm (FI' 121 90) (FI' 121 73) (FI' 166) (FI' 167) (FI' 168)))) := by
      intro m
      induction m with
      | zero => intro y5 FIv47 fr48 hI49 kp50 kp51 kp52 kp53 kp54 rl55 iv56 iv57 rw58 rw59 hm; omega
      | succ m ih =>
        intro y5 FIv47 fr48 hI49 kp50 kp51 kp52 kp53 kp54 rl55 iv56 iv57 rw58 rw59 hm
        have rg_y5 := i_rng y5
        have := congrArg Int32.toInt kp50
        have := congrArg Int32.toInt kp51
        have := congrArg Int32.toInt kp52
        have := congrArg Int32.toInt kp53
        have := congrArg Int32.toInt kp54
        refine xw_iload (aX12_turned 46 rfl) rfl ?_
        refine xw_iloadn (aX12_turned 47 rfl) rfl ?_
        refine hw_icge (tgt := 104) (aX12_turned 48 rfl) (by decide) rfl e31 (fun cd61 => ?_) (fun cd61 => ?_)
        · refine hw_ic (v := (0 : Int32)) (aX12_turned 63 rfl) (by decide) ?_
          refine xw_istore (L2 := [(5, .int ((0 : Int32))), (4, .int (x32)), (3, .int (x30)), (2, .int (x24)), (1, .int (x22)), (0, .ref (base + 121))]) (aX12_turned 64 rfl) (by decide) rfl ?_
          have lp76 : ∀ (m : Nat) (y5_62 : Int32) (FIv63 : Nat → Nat → Int32), (g_fr n SH [(121, 71), (121, 73), (121, 90)] [154, 164] [] FI FIv63) → (g_I FIv63) → (FIv63 121 90 = x10) → (FIv63 121 71 = x16) → (FIv63 167 (x10).toNatClampNeg = x22) → (FIv63 168 (x10).toNatClampNeg = x24) → (FIv63 121 73 = x43) → (rl_pm (FIv63 121 90) (FIv63 121 73) (FIv63 166) (FIv63 167) (FIv63 168)) → (0 ≤ (y5_62).toInt ∧ (y5_62).toInt ≤ 4000) → ((y5_62).toInt ≤ (x32).toInt) → (FIv63 167 = FI 167) → (FIv63 168 = FI 168) → (x32).toInt - (y5_62).toInt < m → hw zk base (d + 2) none 236 107 [(5, .int (y5_62)), (4, .int (x32)), (3, .int (x30)), (2, .int (x24)), (1, .int (x22)), (0, .ref (base + 121))] [] (n, sl, SH, FIv63, FL, FR) (h_V (fun s => ∃ FI', s = (n, sl, SH, FI', FL, FR) ∧ g_I FI' ∧ g_fr n SH [(121, 71), (121, 73), (121, 90)] [154, 164] [] FI FI' ∧ ((FI' 121 90).toInt = (FI 121 90).toInt - 1) ∧ ((FI' 121 71).toInt = (FI 121 71).toInt - 1) ∧ ((FI' 121 73).toInt = (FI 121 73).toInt + 3) ∧ (rl_pm (FI' 121 90) (FI' 121 73) (FI' 166) (FI' 167) (FI' 168)))) := by
            intro m
            induction m with
            | zero => intro y5_62 FIv63 fr64 hI65 kp66 kp67 kp68 kp69 kp70 rl71 iv72 iv73 rw74 rw75 hm; omega
            | succ m ih107 =>
              intro y5_62 FIv63 fr64 hI65 kp66 kp67 kp68 kp69 kp70 rl71 iv72 iv73 rw74 rw75 hm
              have rg_y5_62 := i_rng y5_62
              have := congrArg Int32.toInt kp66
              have := congrArg Int32.toInt kp67
              have := congrArg Int32.toInt kp68
              have := congrArg Int32.toInt kp69
              have := congrArg Int32.toInt kp70
              refine xw_iload (aX12_turned 65 rfl) rfl ?_
              refine xw_iload (aX12_turned 66 rfl) rfl ?_
              refine hw_icge (tgt := 140) (aX12_turned 67 rfl) (by decide) rfl e33 (fun cd77 => ?_) (fun cd77 => ?_)
              · refine xw_iloadn (aX12_turned 84 rfl) rfl ?_
                refine hw_ic (v := (2 : Int32)) (aX12_turned 85 rfl) (by decide) ?_
                refine xw_iadd (aX12_turned 86 rfl) ?_
                refine hw_tie (A := ((x22).toInt) + (2)) (i_add rfl (by decide : (2 : Int32).toInt = 2) (by omega) (by omega)) (fun x78 e79 => ?_)
                refine xw_iload (aX12_turned 87 rfl) rfl ?_
                refine xw_iadd (aX12_turned 88 rfl) ?_
                refine hw_tie (A := (((x22).toInt) + (2)) + (((x4).toInt) - ((x24).toInt))) (i_add e79 e33 (by omega) (by omega)) (fun x80 e81 => ?_)
                refine xw_istore (L2 := [(5, .int (x80)), (4, .int (x32)), (3, .int (x30)), (2, .int (x24)), (1, .int (x22)), (0, .ref (base + 121))]) (aX12_turned 89 rfl) (by decide) rfl ?_
                have hP : 0 ≤ (x80).toInt ∧ (x80).toInt + (x30).toInt + 3 ≤ 4000 ∧ 0 ≤ (x30).toInt ∧ 0 ≤ (x32).toInt ∧ (x32).toInt ≤ 4000 ∧ 0 ≤ (x22).toInt ∧ (x22).toInt + 2 ≤ 4000 := by omega
                clear e81
                clear e31
                clear e33
                clear hq
                refine hw_aloadn (aX12_turned 90 rfl) rfl ?_
                refine hw_get (v := .ref (base + 154)) (aX12_turned 91 rfl) wf_RX12_120 (c121 hS) (s121 hS) (by decide) (congrArg (fun r => va_rf (h_rf base r)) (r121_72 hF)) ?_
                refine xw_iload (aX12_turned 92 rfl) rfl ?_
                refine hw_bp (v := (47 : Int32)) (aX12_turned 93 rfl) (by decide) ?_
                refine hv_iast (k := (x80).toNatClampNeg) (aX12_turned 94 rfl) (c154 hS) (s154 hS) (h_in rfl (by omega) (by omega)) rfl (fun FI82 u83 => ?_)
                have rl84 : rl_pm (FI82 121 90) (FI82 121 73) (FI82 166) (FI82 167) (FI82 168) := by rw [show FI82 166 = FIv63 166 from up_row u83 (by decide) rfl, show FI82 167 = FIv63 167 from up_row u83 (by decide) rfl, show FI82 168 = FIv63 168 from up_row u83 (by decide) rfl, show FI82 121 90 = FIv63 121 90 from up_c u83 (by decide) rfl, show FI82 121 73 = FIv63 121 73 from up_c u83 (by decide) rfl]; exact rl71
                have hI85 : g_I FI82 := gU_154 hI65 u83 (by have := ((by decide : (47 : Int32).toInt = 47) : ((47 : Int32)).toInt = 47); omega) (by have := ((by decide : (47 : Int32).toInt = 47) : ((47 : Int32)).toInt = 47); omega)
                refine hw_aloadn (aX12_turned 95 rfl) rfl ?_
                refine hw_get (v := .ref (base + 154)) (aX12_turned 96 rfl) wf_RX12_120 (c121 hS) (s121 hS) (by decide) (congrArg (fun r => va_rf (h_rf base r)) (r121_72 hF)) ?_
                refine xw_iload (aX12_turned 97 rfl) rfl ?_
                refine hw_ic (v := (1 : Int32)) (aX12_turned 98 rfl) (by decide) ?_
                refine xw_iadd (aX12_turned 99 rfl) ?_
                refine hw_tie (A := ((x80).toInt) + (1)) (i_add rfl (by decide : (1 : Int32).toInt = 1) (by omega) (by omega)) (fun x86 e87 => ?_)
                refine xw_iloadn (aX12_turned 100 rfl) rfl ?_
                refine hw_sp (v := (255 : Int32)) (aX12_turned 101 rfl) (by decide) ?_
                refine xw_iand (aX12_turned 102 rfl) ?_
                refine hw_tib (lo := 0) (hi := 255) (i_and (x := x30) (m := (255 : Int32)) (M := 255) (by decide) (by decide)) (fun x88 b89 => ?_)
                refine hv_iast (k := (x86).toNatClampNeg) (aX12_turned 103 rfl) (c154 hS) (s154 hS) (h_in e87 (by omega) (by omega)) rfl (fun FI90 u91 => ?_)
                have rl92 : rl_pm (FI90 121 90) (FI90 121 73) (FI90 166) (FI90 167) (FI90 168) := by rw [show FI90 166 = FI82 166 from up_row u91 (by decide) rfl, show FI90 167 = FI82 167 from up_row u91 (by decide) rfl, show FI90 168 = FI82 168 from up_row u91 (by decide) rfl, show FI90 121 90 = FI82 121 90 from up_c u91 (by decide) rfl, show FI90 121 73 = FI82 121 73 from up_c u91 (by decide) rfl]; exact rl84
                have hI93 : g_I FI90 := gU_154 hI85 u91 (by omega) (by omega)
                refine hw_aloadn (aX12_turned 104 rfl) rfl ?_
                refine hw_get (v := .ref (base + 154)) (aX12_turned 105 rfl) wf_RX12_120 (c121 hS) (s121 hS) (by decide) (congrArg (fun r => va_rf (h_rf base r)) (r121_72 hF)) ?_
                refine xw_iload (aX12_turned 106 rfl) rfl ?_
                refine hw_ic (v := (2 : Int32)) (aX12_turned 107 rfl) (by decide) ?_
                refine xw_iadd (aX12_turned 108 rfl) ?_
                refine hw_tie (A := ((x80).toInt) + (2)) (i_add rfl (by decide : (2 : Int32).toInt = 2) (by omega) (by omega)) (fun x94 e95 => ?_)
                refine xw_iloadn (aX12_turned 109 rfl) rfl ?_
                refine hw_bp (v := (8 : Int32)) (aX12_turned 110 rfl) (by decide) ?_
                refine xw_ishr (aX12_turned 111 rfl) ?_
                refine hw_ti (fun x96 => ?_)
                have b97 := i_rng x96
                refine hw_sp (v := (255 : Int32)) (aX12_turned 112 rfl) (by decide) ?_
                refine xw_iand (aX12_turned 113 rfl) ?_
                refine hw_tib (lo := 0) (hi := 255) (i_and (x := x96) (m := (255 : Int32)) (M := 255) (by decide) (by decide)) (fun x98 b99 => ?_)
                refine hv_iast (k := (x94).toNatClampNeg) (aX12_turned 114 rfl) (c154 hS) (s154 hS) (h_in e95 (by omega) (by omega)) rfl (fun FI100 u101 => ?_)
                have rl102 : rl_pm (FI100 121 90) (FI100 121 73) (FI100 166) (FI100 167) (FI100 168) := by rw [show FI100 166 = FI90 166 from up_row u101 (by decide) rfl, show FI100 167 = FI90 167 from up_row u101 (by decide) rfl, show FI100 168 = FI90 168 from up_row u101 (by decide) rfl, show FI100 121 90 = FI90 121 90 from up_c u101 (by decide) rfl, show FI100 121 73 = FI90 121 73 from up_c u101 (by decide) rfl]; exact rl92
                have hI103 : g_I FI100 := gU_154 hI93 u101 (by omega) (by omega)
                refine hw_ic (v := (0 : Int32)) (aX12_turned 115 rfl) (by decide) ?_
                refine xw_istore (L2 := [(6, .int ((0 : Int32))), (5, .int (x80)), (4, .int (x32)), (3, .int (x30)), (2, .int (x24)), (1, .int (x22)), (0, .ref (base + 121))]) (aX12_turned 116 rfl) (by decide) rfl ?_
                have lp117 : ∀ (m : Nat) (y6 : Int32) (FIv104 : Nat → Nat → Int32), (g_fr n SH [(121, 71), (121, 73), (121, 90)] [154, 164] [] FI FIv104) → (g_I FIv104) → (FIv104 121 90 = x10) → (FIv104 121 71 = x16) → (FIv104 167 (x10).toNatClampNeg = x22) → (FIv104 168 (x10).toNatClampNeg = x24) → (FIv104 121 73 = x43) → (rl_pm (FIv104 121 90) (FIv104 121 73) (FIv104 166) (FIv104 167) (FIv104 168)) → (0 ≤ (y6).toInt ∧ (y6).toInt ≤ 4000) → ((y6).toInt ≤ (x30).toInt) → (FIv104 167 = FI 167) → (FIv104 168 = FI 168) → (x30).toInt - (y6).toInt < m → hw zk base (d + 2) none 236 191 [(6, .int (y6)), (5, .int (x80)), (4, .int (x32)), (3, .int (x30)), (1, .int (x22)), (0, .ref (base + 121))] [] (n, sl, SH, FIv104, FL, FR) (h_V (fun s => ∃ FI', s = (n, sl, SH, FI', FL, FR) ∧ g_I FI' ∧ g_fr n SH [(121, 71), (121, 73), (121, 90)] [154, 164] [] FI FI' ∧ ((FI' 121 90).toInt = (FI 121 90).toInt - 1) ∧ ((FI' 121 71).toInt = (FI 121 71).toInt - 1) ∧ ((FI' 121 73).toInt = (FI 121 73).toInt + 3) ∧ (rl_pm (FI' 121 90) (FI' 121 73) (FI' 166) (FI' 167) (FI' 168)))) := by
                  intro m
                  induction m with
                  | zero => intro y6 FIv104 fr105 hI106 kp107 kp108 kp109 kp110 kp111 rl112 iv113 iv114 rw115 rw116 hm; omega
                  | succ m ih191 =>
                    intro y6 FIv104 fr105 hI106 kp107 kp108 kp109 kp110 kp111 rl112 iv113 iv114 rw115 rw116 hm
                    have rg_y6 := i_rng y6
                    have := congrArg Int32.toInt kp107
                    have := congrArg Int32.toInt kp108
                    have := congrArg Int32.toInt kp109
                    have := congrArg Int32.toInt kp110
                    have := congrArg Int32.toInt kp111
                    refine xw_iload (aX12_turned 117 rfl) rfl ?_
                    refine xw_iloadn (aX12_turned 118 rfl) rfl ?_
                    refine hw_icge (tgt := 222) (aX12_turned 119 rfl) (by decide) rfl rfl (fun cd118 => ?_) (fun cd118 => ?_)
                    · refine hw_aloadn (aX12_turned 134 rfl) rfl ?_
                      refine hw_get (v := .ref (base + 154)) (aX12_turned 135 rfl) wf_RX12_120 (c121 hS) (s121 hS) (by decide) (congrArg (fun r => va_rf (h_rf base r)) (r121_72 hF)) ?_
                      refine xw_iloadn (aX12_turned 136 rfl) rfl ?_
                      refine xw_iload (aX12_turned 137 rfl) rfl ?_
                      refine hw_ic (v := (3 : Int32)) (aX12_turned 138 rfl) (by decide) ?_
                      refine xw_iadd (aX12_turned 139 rfl) ?_
                      refine hw_tie (A := ((x32).toInt) + (3)) (i_add rfl (by decide : (3 : Int32).toInt = 3) (by omega) (by omega)) (fun x119 e120 => ?_)
                      refine hw_sp (v := (255 : Int32)) (aX12_turned 140 rfl) (by decide) ?_
                      refine xw_iand (aX12_turned 141 rfl) ?_
                      refine hw_tib (lo := 0) (hi := 255) (i_and (x := x119) (m := (255 : Int32)) (M := 255) (by decide) (by decide)) (fun x121 b122 => ?_)
                      refine hv_iast (k := (x22).toNatClampNeg) (aX12_turned 142 rfl) (c154 hS) (s154 hS) (h_in rfl (by omega) (by omega)) rfl (fun FI123 u124 => ?_)
                      have rl125 : rl_pm (FI123 121 90) (FI123 121 73) (FI123 166) (FI123 167) (FI123 168) := by rw [show FI123 166 = FIv104 166 from up_row u124 (by decide) rfl, show FI123 167 = FIv104 167 from up_row u124 (by decide) rfl, show FI123 168 = FIv104 168 from up_row u124 (by decide) rfl, show FI123 121 90 = FIv104 121 90 from up_c u124 (by decide) rfl, show FI123 121 73 = FIv104 121 73 from up_c u124 (by decide) rfl]; exact rl112
                      have hI126 : g_I FI123 := gU_154 hI106 u124 (by omega) (by omega)
                      refine hw_aloadn (aX12_turned 143 rfl) rfl ?_
                      refine hw_get (v := .ref (base + 154)) (aX12_turned 144 rfl) wf_RX12_120 (c121 hS) (s121 hS) (by decide) (congrArg (fun r => va_rf (h_rf base r)) (r121_72 hF)) ?_
                      refine xw_iloadn (aX12_turned 145 rfl) rfl ?_
                      refine hw_ic (v := (1 : Int32)) (aX12_turned 146 rfl) (by decide) ?_
                      refine xw_iadd (aX12_turned 147 rfl) ?_
                      refine hw_tie (A := ((x22).toInt) + (1)) (i_add rfl (by decide : (1 : Int32).toInt = 1) (by omega) (by omega)) (fun x127 e128 => ?_)
                      refine xw_iload (aX12_turned 148 rfl) rfl ?_
                      refine hw_ic (v := (3 : Int32)) (aX12_turned 149 rfl) (by decide) ?_
                      refine xw_iadd (aX12_turned 150 rfl) ?_
                      refine hw_tie (A := ((x32).toInt) + (3)) (i_add rfl (by decide : (3 : Int32).toInt = 3) (by omega) (by omega)) (fun x129 e130 => ?_)
                      refine hw_bp (v := (8 : Int32)) (aX12_turned 151 rfl) (by decide) ?_
                      refine xw_ishr (aX12_turned 152 rfl) ?_
                      refine hw_ti (fun x131 => ?_)
                      have b132 := i_rng x131
                      refine hw_sp (v := (255 : Int32)) (aX12_turned 153 rfl) (by decide) ?_
                      refine xw_iand (aX12_turned 154 rfl) ?_
                      refine hw_tib (lo := 0) (hi := 255) (i_and (x := x131) (m := (255 : Int32)) (M := 255) (by decide) (by decide)) (fun x133 b134 => ?_)
                      refine hv_iast (k := (x127).toNatClampNeg) (aX12_turned 155 rfl) (c154 hS) (s154 hS) (h_in e128 (by omega) (by omega)) rfl (fun FI135 u136 => ?_)
                      have rl137 : rl_pm (FI135 121 90) (FI135 121 73) (FI135 166) (FI135 167) (FI135 168) := by rw [show FI135 166 = FI123 166 from up_row u136 (by decide) rfl, show FI135 167 = FI123 167 from up_row u136 (by decide) rfl, show FI135 168 = FI123 168 from up_row u136 (by decide) rfl, show FI135 121 90 = FI123 121 90 from up_c u136 (by decide) rfl, show FI135 121 73 = FI123 121 73 from up_c u136 (by decide) rfl]; exact rl125
                      have hI138 : g_I FI135 := gU_154 hI126 u136 (by omega) (by omega)
                      refine xw_vret (aX12_turned 156 rfl) rfl ?_
                      exact ⟨rfl, FI135, rfl, hI138, (gf_a (gf_a fr105 u124 (by decide)) u136 (by decide)), (by have := congrArg Int32.toInt (show FI135 121 90 = x10 from (up_c u136 (by decide) ((up_c u124 (by decide) (kp107))))); have := (e11 : (x10).toInt = ((x1).toInt) - (1)); omega), (by have := congrArg Int32.toInt (show FI135 121 71 = x16 from (up_c u136 (by decide) ((up_c u124 (by decide) (kp108))))); have := (e17 : (x16).toInt = ((x7).toInt) - (1)); omega), (by have := congrArg Int32.toInt (show FI135 121 73 = x43 from (up_c u136 (by decide) ((up_c u124 (by decide) (kp111))))); omega), (show rl_pm (FI135 121 90) (FI135 121 73) (FI135 166) (FI135 167) (FI135 168) from rl137)⟩
                    · refine hw_aloadn (aX12_turned 120 rfl) rfl ?_
                      refine hw_get (v := .ref (base + 154)) (aX12_turned 121 rfl) wf_RX12_120 (c121 hS) (s121 hS) (by decide) (congrArg (fun r => va_rf (h_rf base r)) (r121_72 hF)) ?_
                      refine xw_iload (aX12_turned 122 rfl) rfl ?_
                      refine hw_ic (v := (3 : Int32)) (aX12_turned 123 rfl) (by decide) ?_
                      refine xw_iadd (aX12_turned 124 rfl) ?_
                      refine hw_tie (A := ((x80).toInt) + (3)) (i_add rfl (by decide : (3 : Int32).toInt = 3) (by omega) (by omega)) (fun x139 e140 => ?_)
                      refine xw_iload (aX12_turned 125 rfl) rfl ?_
                      refine xw_iadd (aX12_turned 126 rfl) ?_
                      refine hw_tie (A := (((x80).toInt) + (3)) + ((y6).toInt)) (i_add e140 rfl (by omega) (by omega)) (fun x141 e142 => ?_)
                      refine hw_aloadn (aX12_turned 127 rfl) rfl ?_
                      refine hw_get (v := .ref (base + 164)) (aX12_turned 128 rfl) wf_RX12_151 (c121 hS) (s121 hS) (by decide) (congrArg (fun r => va_rf (h_rf base r)) (r121_85 hF)) ?_
                      refine xw_iload (aX12_turned 129 rfl) rfl ?_
                      obtain ⟨x143, h144⟩ : ∃ y, FIv104 164 (y6).toNatClampNeg = y := ⟨_, rfl⟩
                      have h144l := congrArg Int32.toInt h144
                      have := i_rng x143
                      refine hw_iald (v := x143) (aX12_turned 130 rfl) (c164 hS) (s164 hS) (h_in rfl (by omega) (by omega)) (show FIv104 164 (y6).toNatClampNeg = x143 from h144) ?_
                      have b145 := gI_164 hI106 (i_lt (x := y6) rfl (by omega) (by omega)); rw [h144] at b145
                      refine hv_iast (k := (x141).toNatClampNeg) (aX12_turned 131 rfl) (c154 hS) (s154 hS) (h_in e142 (by omega) (by omega)) rfl (fun FI146 u147 => ?_)
                      have rl148 : rl_pm (FI146 121 90) (FI146 121 73) (FI146 166) (FI146 167) (FI146 168) := by rw [show FI146 166 = FIv104 166 from up_row u147 (by decide) rfl, show FI146 167 = FIv104 167 from up_row u147 (by decide) rfl, show FI146 168 = FIv104 168 from up_row u147 (by decide) rfl, show FI146 121 90 = FIv104 121 90 from up_c u147 (by decide) rfl, show FI146 121 73 = FIv104 121 73 from up_c u147 (by decide) rfl]; exact rl112
                      have hI149 : g_I FI146 := gU_154 hI106 u147 (by omega) (by omega)
                      obtain ⟨x150, q152⟩ : ∃ y : Int32, (y6) + Int32.ofInt (1) = y := ⟨_, rfl⟩
                      have e151 : (x150).toInt = (y6).toInt + (1) := by rw [← q152]; exact i_add rfl (by decide) (by omega) (by omega)
                      refine xw_iinc (L2 := [(6, .int (x150)), (5, .int (x80)), (4, .int (x32)), (3, .int (x30)), (1, .int (x22)), (0, .ref (base + 121))]) (aX12_turned 132 rfl) rfl (by decide) (by rw [q152]; rfl) ?_
                      refine xw_goto (tgt := 191) (aX12_turned 133 rfl) (by decide) ?_
                      exact hw_L (ih191 (x150) FI146 (gf_a fr105 u147 (by decide)) hI149 (show FI146 121 90 = x10 from (up_c u147 (by decide) (kp107))) (show FI146 121 71 = x16 from (up_c u147 (by decide) (kp108))) (show FI146 167 (x10).toNatClampNeg = x22 from (up_c u147 (by decide) (kp109))) (show FI146 168 (x10).toNatClampNeg = x24 from (up_c u147 (by decide) (kp110))) (show FI146 121 73 = x43 from (up_c u147 (by decide) (kp111))) (show rl_pm (FI146 121 90) (FI146 121 73) (FI146 166) (FI146 167) (FI146 168) from rl148) (by have := (e151 : (x150).toInt = (y6).toInt + (1)); omega) (by have := (e151 : (x150).toInt = (y6).toInt + (1)); omega) (show FI146 167 = FI 167 from (up_row u147 (by decide) (rw115))) (show FI146 168 = FI 168 from (up_row u147 (by decide) (rw116))) (by have := (e151 : (x150).toInt = (y6).toInt + (1)); omega)) ⟨rfl, rfl, rfl, rfl, rfl, rfl, trivial⟩
                exact hw_L (lp117 (((x30).toInt - 0 : Int).toNat + 1) ((0 : Int32)) FI100 (gf_a (gf_a (gf_a fr64 u83 (by decide)) u91 (by decide)) u101 (by decide)) hI103 (show FI100 121 90 = x10 from (up_c u101 (by decide) ((up_c u91 (by decide) ((up_c u83 (by decide) (kp66))))))) (show FI100 121 71 = x16 from (up_c u101 (by decide) ((up_c u91 (by decide) ((up_c u83 (by decide) (kp67))))))) (show FI100 167 (x10).toNatClampNeg = x22 from (up_c u101 (by decide) ((up_c u91 (by decide) ((up_c u83 (by decide) (kp68))))))) (show FI100 168 (x10).toNatClampNeg = x24 from (up_c u101 (by decide) ((up_c u91 (by decide) ((up_c u83 (by decide) (kp69))))))) (show FI100 121 73 = x43 from (up_c u101 (by decide) ((up_c u91 (by decide) ((up_c u83 (by decide) (kp70))))))) (show rl_pm (FI100 121 90) (FI100 121 73) (FI100 166) (FI100 167) (FI100 168) from rl102) (by have := ((by decide : (0 : Int32).toInt = 0) : ((0 : Int32)).toInt = 0); omega) (by have := ((by decide : (0 : Int32).toInt = 0) : ((0 : Int32)).toInt = 0); omega) (show FI100 167 = FI 167 from (up_row u101 (by decide) ((up_row u91 (by decide) ((up_row u83 (by decide) (rw74))))))) (show FI100 168 = FI 168 from (up_row u101 (by decide) ((up_row u91 (by decide) ((up_row u83 (by decide) (rw75))))))) (by have := ((by decide : (0 : Int32).toInt = 0) : ((0 : Int32)).toInt = 0); omega)) ⟨rfl, rfl, rfl, rfl, rfl, rfl, trivial⟩
              · refine hw_aloadn (aX12_turned 68 rfl) rfl ?_
                refine hw_get (v := .ref (base + 154)) (aX12_turned 69 rfl) wf_RX12_120 (c121 hS) (s121 hS) (by decide) (congrArg (fun r => va_rf (h_rf base r)) (r121_72 hF)) ?_
                refine xw_iloadn (aX12_turned 70 rfl) rfl ?_
                refine hw_ic (v := (2 : Int32)) (aX12_turned 71 rfl) (by decide) ?_
                refine xw_iadd (aX12_turned 72 rfl) ?_
                refine hw_tie (A := ((x22).toInt) + (2)) (i_add rfl (by decide : (2 : Int32).toInt = 2) (by omega) (by omega)) (fun x153 e154 => ?_)
                refine xw_iload (aX12_turned 73 rfl) rfl ?_
                refine xw_iadd (aX12_turned 74 rfl) ?_
                refine hw_tie (A := (((x22).toInt) + (2)) + ((y5_62).toInt)) (i_add e154 rfl (by omega) (by omega)) (fun x155 e156 => ?_)
                refine hw_aloadn (aX12_turned 75 rfl) rfl ?_
                refine hw_get (v := .ref (base + 154)) (aX12_turned 76 rfl) wf_RX12_120 (c121 hS) (s121 hS) (by decide) (congrArg (fun r => va_rf (h_rf base r)) (r121_72 hF)) ?_
                refine xw_iloadn (aX12_turned 77 rfl) rfl ?_
                refine xw_iload (aX12_turned 78 rfl) rfl ?_
                refine xw_iadd (aX12_turned 79 rfl) ?_
                refine hw_tie (A := ((x24).toInt) + ((y5_62).toInt)) (i_add rfl rfl (by omega) (by omega)) (fun x157 e158 => ?_)
                obtain ⟨x159, h160⟩ : ∃ y, FIv63 154 (x157).toNatClampNeg = y := ⟨_, rfl⟩
                have h160l := congrArg Int32.toInt h160
                have := i_rng x159
                refine hw_iald (v := x159) (aX12_turned 80 rfl) (c154 hS) (s154 hS) (h_in e158 (by omega) (by omega)) (show FIv63 154 (x157).toNatClampNeg = x159 from h160) ?_
                have b161 := gI_154 hI65 (i_lt (x := x157) e158 (by omega) (by omega)); rw [h160] at b161
                refine hv_iast (k := (x155).toNatClampNeg) (aX12_turned 81 rfl) (c154 hS) (s154 hS) (h_in e156 (by omega) (by omega)) rfl (fun FI162 u163 => ?_)
                have rl164 : rl_pm (FI162 121 90) (FI162 121 73) (FI162 166) (FI162 167) (FI162 168) := by rw [show FI162 166 = FIv63 166 from up_row u163 (by decide) rfl, show FI162 167 = FIv63 167 from up_row u163 (by decide) rfl, show FI162 168 = FIv63 168 from up_row u163 (by decide) rfl, show FI162 121 90 = FIv63 121 90 from up_c u163 (by decide) rfl, show FI162 121 73 = FIv63 121 73 from up_c u163 (by decide) rfl]; exact rl71
                have hI165 : g_I FI162 := gU_154 hI65 u163 (by omega) (by omega)
                obtain ⟨x166, q168⟩ : ∃ y : Int32, (y5_62) + Int32.ofInt (1) = y := ⟨_, rfl⟩
                have e167 : (x166).toInt = (y5_62).toInt + (1) := by rw [← q168]; exact i_add rfl (by decide) (by omega) (by omega)
                refine xw_iinc (L2 := [(5, .int (x166)), (4, .int (x32)), (3, .int (x30)), (2, .int (x24)), (1, .int (x22)), (0, .ref (base + 121))]) (aX12_turned 82 rfl) rfl (by decide) (by rw [q168]; rfl) ?_
                refine xw_goto (tgt := 107) (aX12_turned 83 rfl) (by decide) ?_
                exact hw_L (ih107 (x166) FI162 (gf_a fr64 u163 (by decide)) hI165 (show FI162 121 90 = x10 from (up_c u163 (by decide) (kp66))) (show FI162 121 71 = x16 from (up_c u163 (by decide) (kp67))) (show FI162 167 (x10).toNatClampNeg = x22 from (up_c u163 (by decide) (kp68))) (show FI162 168 (x10).toNatClampNeg = x24 from (up_c u163 (by decide) (kp69))) (show FI162 121 73 = x43 from (up_c u163 (by decide) (kp70))) (show rl_pm (FI162 121 90) (FI162 121 73) (FI162 166) (FI162 167) (FI162 168) from rl164) (by have := (e167 : (x166).toInt = (y5_62).toInt + (1)); omega) (by have := (e167 : (x166).toInt = (y5_62).toInt + (1)); omega) (show FI162 167 = FI 167 from (up_row u163 (by decide) (rw74))) (show FI162 168 = FI 168 from (up_row u163 (by decide) (rw75))) (by have := (e167 : (x166).toInt = (y5_62).toInt + (1)); omega)) ⟨rfl, rfl, rfl, rfl, rfl, rfl, trivial⟩
          exact hw_L (lp76 (((x32).toInt - 0 : Int).toNat + 1) ((0 : Int32)) FIv47 fr48 hI49 (show FIv47 121 90 = x10 from kp50) (show FIv47 121 71 = x16 from kp51) (show FIv47 167 (x10).toNatClampNeg = x22 from kp52) (show FIv47 168 (x10).toNatClampNeg = x24 from kp53) (show FIv47 121 73 = x43 from kp54) (show rl_pm (FIv47 121 90) (FIv47 121 73) (FIv47 166) (FIv47 167) (FIv47 168) from rl55) (by have := ((by decide : (0 : Int32).toInt = 0) : ((0 : Int32)).toInt = 0); omega) (by have := ((by decide : (0 : Int32).toInt = 0) : ((0 : Int32)).toInt = 0); omega) (show FIv47 167 = FI 167 from rw58) (show FIv47 168 = FI 168 from rw59) (by have := ((by decide : (0 : Int32).toInt = 0) : ((0 : Int32)).toInt = 0); omega)) ⟨rfl, rfl, rfl, rfl, rfl, rfl, trivial⟩
        · refine hw_aloadn (aX12_turned 49 rfl) rfl ?_
          refine hw_get (v := .ref (base + 164)) (aX12_turned 50 rfl) wf_RX12_151 (c121 hS) (s121 hS) (by decide) (congrArg (fun r => va_rf (h_rf base r)) (r121_85 hF)) ?_
          refine xw_iload (aX12_turned 51 rfl) rfl ?_
          refine hw_aloadn (aX12_turned 52 rfl) rfl ?_
          refine hw_get (v := .ref (base + 154)) (aX12_turned 53 rfl) wf_RX12_120 (c121 hS) (s121 hS) (by decide) (congrArg (fun r => va_rf (h_rf base r)) (r121_72 hF)) ?_
          refine xw_iloadn (aX12_turned 54 rfl) rfl ?_
          refine hw_ic (v := (2 : Int32)) (aX12_turned 55 rfl) (by decide) ?_
          refine xw_iadd (aX12_turned 56 rfl) ?_
          refine hw_tie (A := ((x22).toInt) + (2)) (i_add rfl (by decide : (2 : Int32).toInt = 2) (by omega) (by omega)) (fun x169 e170 => ?_)
          refine xw_iload (aX12_turned 57 rfl) rfl ?_
          refine xw_iadd (aX12_turned 58 rfl) ?_
          refine hw_tie (A := (((x22).toInt) + (2)) + ((y5).toInt)) (i_add e170 rfl (by omega) (by omega)) (fun x171 e172 => ?_)
          obtain ⟨x173, h174⟩ : ∃ y, FIv47 154 (x171).toNatClampNeg = y := ⟨_, rfl⟩
          have h174l := congrArg Int32.toInt h174
          have := i_rng x173
          refine hw_iald (v := x173) (aX12_turned 59 rfl) (c154 hS) (s154 hS) (h_in e172 (by omega) (by omega)) (show FIv47 154 (x171).toNatClampNeg = x173 from h174) ?_
          have b175 := gI_154 hI49 (i_lt (x := x171) e172 (by omega) (by omega)); rw [h174] at b175
          refine hv_iast (k := (y5).toNatClampNeg) (aX12_turned 60 rfl) (c164 hS) (s164 hS) (h_in rfl (by omega) (by omega)) rfl (fun FI176 u177 => ?_)
          have rl178 : rl_pm (FI176 121 90) (FI176 121 73) (FI176 166) (FI176 167) (FI176 168) := by rw [show FI176 166 = FIv47 166 from up_row u177 (by decide) rfl, show FI176 167 = FIv47 167 from up_row u177 (by decide) rfl, show FI176 168 = FIv47 168 from up_row u177 (by decide) rfl, show FI176 121 90 = FIv47 121 90 from up_c u177 (by decide) rfl, show FI176 121 73 = FIv47 121 73 from up_c u177 (by decide) rfl]; exact rl55
          have hI179 : g_I FI176 := gU_164 hI49 u177 (by omega) (by omega)
          obtain ⟨x180, q182⟩ : ∃ y : Int32, (y5) + Int32.ofInt (1) = y := ⟨_, rfl⟩
          have e181 : (x180).toInt = (y5).toInt + (1) := by rw [← q182]; exact i_add rfl (by decide) (by omega) (by omega)
          refine xw_iinc (L2 := [(5, .int (x180)), (4, .int (x32)), (3, .int (x30)), (2, .int (x24)), (1, .int (x22)), (0, .ref (base + 121))]) (aX12_turned 61 rfl) rfl (by decide) (by rw [q182]; rfl) ?_
          refine xw_goto (tgt := 74) (aX12_turned 62 rfl) (by decide) ?_
          exact hw_L (ih (x180) FI176 (gf_a fr48 u177 (by decide)) hI179 (show FI176 121 90 = x10 from (up_c u177 (by decide) (kp50))) (show FI176 121 71 = x16 from (up_c u177 (by decide) (kp51))) (show FI176 167 (x10).toNatClampNeg = x22 from (up_c u177 (by decide) (kp52))) (show FI176 168 (x10).toNatClampNeg = x24 from (up_c u177 (by decide) (kp53))) (show FI176 121 73 = x43 from (up_c u177 (by decide) (kp54))) (show rl_pm (FI176 121 90) (FI176 121 73) (FI176 166) (FI176 167) (FI176 168) from rl178) (by have := (e181 : (x180).toInt = (y5).toInt + (1)); omega) (by have := (e181 : (x180).toInt = (y5).toInt + (1)); omega) (show FI176 167 = FI 167 from (up_row u177 (by decide) (rw58))) (show FI176 168 = FI 168 from (up_row u177 (by decide) (rw59))) (by have := (e181 : (x180).toInt = (y5).toInt + (1)); omega)) ⟨rfl, rfl, rfl, rfl, rfl, rfl, trivial⟩
    exact hw_L (lp60 (((x30).toInt - 0 : Int).toNat + 1) ((0 : Int32)) FI38 (gf_tr ex_rf (gf_f (gf_f gf_rf u13 (by decide)) u19 (by decide)) f40 rfl rfl rfl) hI39 (show FI38 121 90 = x10 from (gf_at f40 (c121 hS) (s121 hS) rfl ((up_k u19 (by decide) (up_eq u13))))) (show FI38 121 71 = x16 from (gf_at f40 (c121 hS) (s121 hS) rfl (up_eq u19))) (show FI38 167 (x10).toNatClampNeg = x22 from (gf_at f40 (c167 hS) (s167 hS) rfl (h23))) (show FI38 168 (x10).toNatClampNeg = x24 from (gf_at f40 (c168 hS) (s168 hS) rfl (h25))) (show FI38 121 73 = x43 from h44) (show rl_pm (FI38 121 90) (FI38 121 73) (FI38 166) (FI38 167) (FI38 168) from rl42) (by have := ((by decide : (0 : Int32).toInt = 0) : ((0 : Int32)).toInt = 0); omega) (by have := ((by decide : (0 : Int32).toInt = 0) : ((0 : Int32)).toInt = 0); omega) (show FI38 167 = FI 167 from (gf_row f40 (c167 hS) (s167 hS) rfl ((up_row u19 (by decide) ((up_row u13 (by decide) (rfl))))))) (show FI38 168 = FI 168 from (gf_row f40 (c168 hS) (s168 hS) rfl ((up_row u19 (by decide) ((up_row u13 (by decide) (rfl))))))) (by have := ((by decide : (0 : Int32).toInt = 0) : ((0 : Int32)).toInt = 0); omega)) ⟨rfl, rfl, rfl, rfl, rfl, rfl, trivial⟩
  · refine xw_vret (aX12_turned 43 rfl) rfl ?_
    exact ⟨rfl, FI38, rfl, hI39, (gf_tr ex_rf (gf_f (gf_f gf_rf u13 (by decide)) u19 (by decide)) f40 rfl rfl rfl), (by have := congrArg Int32.toInt (show FI38 121 90 = x10 from (gf_at f40 (c121 hS) (s121 hS) rfl ((up_k u19 (by decide) (up_eq u13))))); have := (e11 : (x10).toInt = ((x1).toInt) - (1)); omega), (by have := congrArg Int32.toInt (show FI38 121 71 = x16 from (gf_at f40 (c121 hS) (s121 hS) rfl (up_eq u19))); have := (e17 : (x16).toInt = ((x7).toInt) - (1)); omega), (by have := congrArg Int32.toInt (show FI38 121 73 = x43 from h44); omega), (show rl_pm (FI38 121 90) (FI38 121 73) (FI38 166) (FI38 167) (FI38 168) from rl42)⟩
end
section
def nX12_reducedAll : Nat := 0xb1eeffa73602b6042a3902b62a0f00a0fd102f02b62a3602b6042a
theorem bX12_reducedAll : cX12_reducedAll.data.toList.map UInt8.toNat = x_un nX12_reducedAll 27 := by decide +kernel
def iX12_reducedAll : List (Nat × Jvm.ClassFile.Instr × Nat) := [(0, .aload_n 0, 1), (1, .iconst 1, 1), (2, .invokevirtual 566, 3), (5, .aload_n 0, 1), (6, .invokevirtual 559, 3), (9, .bipush (-3), 2), (11, .if_icmp .ne 15, 3), (14, .aload_n 0, 1), (15, .invokevirtual 569, 3), (18, .aload_n 0, 1), (19, .iconst 1, 1), (20, .invokevirtual 566, 3), (23, .goto (-18), 3), (26, .return_, 1)]
theorem dX12_reducedAll : x_il nX12_reducedAll 27 iX12_reducedAll = true := by decide +kernel
theorem aX12_reducedAll (k : Nat) {pc : Nat} {i : Jvm.ClassFile.Instr} {len : Nat} (hk : iX12_reducedAll[k]? = some (pc, i, len)) : x_at xMM 237 pc i len yX12_reducedAll 1 none := ⟨cX12_reducedAll, rfl, x_il_ok bX12_reducedAll dX12_reducedAll k hk⟩
set_option maxHeartbeats 4000000 in
set_option maxRecDepth 100000 in
theorem n_reducedAll {zk : xK} {base d n sl : Nat} {SH : Nat → Nat × Nat} {FI : Nat → Nat → Int32} {FL : Nat → Nat → Int64} {FR : Nat → Nat → Option Nat} (hS : h_S n SH) (hF : h_FR FR) (hI : g_I FI) (g0 : (FI 121 73).toInt + 4 * (FI 121 90).toInt ≤ 28000) (g1 : 0 ≤ (FI 121 71).toInt ∧ (FI 121 71).toInt ≤ 100) (gg0 : au_ok (sk (FI 166) (FI 121 90).toInt.toNat)) (gg1 : ∀ y r, (sk (FI 166) (FI 121 90).toInt.toNat) = y :: r → y ≠ 9) (rel_pm : rl_pm (FI 121 90) (FI 121 73) (FI 166) (FI 167) (FI 168)) : hw zk base (d + 3) none 237 0 [(0, .ref (base + 121))] [] (n, sl, SH, FI, FL, FR) (h_V (fun s => ∃ FI', s = (n, sl, SH, FI', FL, FR) ∧ g_I FI' ∧ g_fr n SH [(121, 71), (121, 73), (121, 90)] [154, 164] [] FI FI' ∧ ((FI' 121 90).toInt ≤ (FI 121 90).toInt) ∧ ((FI' 121 73).toInt + 4 * (FI' 121 90).toInt ≤ (FI 121 73).toInt + 4 * (FI 121 90).toInt) ∧ ((FI 121 73).toInt ≤ (FI' 121 73).toInt) ∧ ((FI' 121 71).toInt ≤ (FI 121 71).toInt) ∧ ((FI' 121 90).toInt - (FI 121 90).toInt ≤ (FI' 121 71).toInt - (FI 121 71).toInt) ∧ (sk (FI 166) (FI' 121 90).toInt.toNat = au_all (sk (FI 166) (FI 121 90).toInt.toNat)) ∧ ((FI' 121 71).toInt - (au_op (sk (FI 166) (FI' 121 90).toInt.toNat) : Int) = (FI 121 71).toInt - (au_op (sk (FI 166) (FI 121 90).toInt.toNat) : Int)) ∧ (rl_pm (FI' 121 90) (FI' 121 73) (FI' 166) (FI' 167) (FI' 168)))) := by
  obtain ⟨x1, h2⟩ : ∃ y, FI 121 73 = y := ⟨_, rfl⟩
  have h2l := congrArg Int32.toInt h2
  have b3 := gI_121_73 hI; rw [h2] at b3
  obtain ⟨x4, h5⟩ : ∃ y, FI 121 90 = y := ⟨_, rfl⟩
  have h5l := congrArg Int32.toInt h5
  have b6 := gI_121_90 hI; rw [h5] at b6
  obtain ⟨x7, h8⟩ : ∃ y, FI 121 71 = y := ⟨_, rfl⟩
  have h8l := congrArg Int32.toInt h8
  have := i_rng x7
  refine hw_aloadn (aX12_reducedAll 0 rfl) rfl ?_
  refine hw_ic (v := (1 : Int32)) (aX12_reducedAll 1 rfl) (by decide) ?_
  refine hw_callV (Bs := [.int ((1 : Int32))]) (rest := []) (aX12_reducedAll 2 rfl) wc_RX12_566 (by decide) rfl wi_yX12_reduced wv_yX12_reduced (c121 hS) (s121 hS) rfl rfl rfl (Nat.le_of_ble_eq_true rfl) (Nat.le_of_ble_eq_true rfl) (n_reduced (d := d + 1) hS hF hI ((1 : Int32)) (by have := congrArg Int32.toInt (show FI 121 73 = x1 from h2); have := congrArg Int32.toInt (show FI 121 90 = x4 from h5); omega) (by have := ((by decide : (1 : Int32).toInt = 1) : ((1 : Int32)).toInt = 1); have := ((by decide : (1 : Int32).toInt = 1) : ((1 : Int32)).toInt = 1); omega) (show rl_pm (FI 121 90) (FI 121 73) (FI 166) (FI 167) (FI 168) from rel_pm)) (fun v9 sv10 p11 => ?_)
  have := congrArg Int32.toInt (show FI 121 90 = x4 from h5)
  have := congrArg Int32.toInt (show FI 121 73 = x1 from h2)
  have := congrArg Int32.toInt (show FI 121 90 = x4 from h5)
  have := congrArg Int32.toInt (show FI 121 73 = x1 from h2)
  obtain ⟨rfl, FI13, rfl, hI14, f15, t16, t17, t18, u19, rl20⟩ := p11
  obtain ⟨x21, h22⟩ : ∃ y, FI13 121 90 = y := ⟨_, rfl⟩
  have h22l := congrArg Int32.toInt h22
  have b23 := gI_121_90 hI14; rw [h22] at b23
  obtain ⟨x24, h25⟩ : ∃ y, FI13 121 73 = y := ⟨_, rfl⟩
  have h25l := congrArg Int32.toInt h25
  have b26 := gI_121_73 hI14; rw [h25] at b26
  show hw zk base _ _ _ _ _ [] _ _
  have lp40 : ∀ (m : Nat) (FIv27 : Nat → Nat → Int32), (g_fr n SH [(121, 71), (121, 73), (121, 90)] [154, 164] [] FI FIv27) → (g_I FIv27) → (rl_pm (FIv27 121 90) (FIv27 121 73) (FIv27 166) (FIv27 167) (FIv27 168)) → (0 ≤ (FIv27 121 90).toInt ∧ (FIv27 121 90).toInt ≤ 256) → (-256 ≤ (FIv27 121 71).toInt ∧ (FIv27 121 71).toInt ≤ 200) → ((FIv27 121 90).toInt ≤ (FI 121 90).toInt) → ((FIv27 121 73).toInt + 4 * (FIv27 121 90).toInt ≤ (FI 121 73).toInt + 4 * (FI 121 90).toInt) → ((FI 121 73).toInt ≤ (FIv27 121 73).toInt) → ((FIv27 121 71).toInt ≤ (FI 121 71).toInt) → ((FIv27 121 90).toInt - (FI 121 90).toInt ≤ (FIv27 121 71).toInt - (FI 121 71).toInt) → (au_all (sk (FI 166) ((FIv27 121 90).toInt).toNat) = au_all (sk (FI 166) (FI 121 90).toInt.toNat)) → ((FIv27 121 71).toInt - (au_op (sk (FI 166) ((FIv27 121 90).toInt).toNat) : Int) = (FI 121 71).toInt - (au_op (sk (FI 166) (FI 121 90).toInt.toNat) : Int)) → (au_ok (sk (FI 166) ((FIv27 121 90).toInt).toNat)) → (∀ y r, sk (FI 166) ((FIv27 121 90).toInt).toNat = y :: r → y < 1) → (FIv27 166 = FI 166) → (FIv27 166 = FI13 166) → (FIv27 121 90).toInt < m → hw zk base (d + 3) none 237 5 [(0, .ref (base + 121))] [] (n, sl, SH, FIv27, FL, FR) (h_V (fun s => ∃ FI', s = (n, sl, SH, FI', FL, FR) ∧ g_I FI' ∧ g_fr n SH [(121, 71), (121, 73), (121, 90)] [154, 164] [] FI FI' ∧ ((FI' 121 90).toInt ≤ (FI 121 90).toInt) ∧ ((FI' 121 73).toInt + 4 * (FI' 121 90).toInt ≤ (FI 121 73).toInt + 4 * (FI 121 90).toInt) ∧ ((FI 121 73).toInt ≤ (FI' 121 73).toInt) ∧ ((FI' 121 71).toInt ≤ (FI 121 71).toInt) ∧ ((FI' 121 90).toInt - (FI 121 90).toInt ≤ (FI' 121 71).toInt - (FI 121 71).toInt) ∧ (sk (FI 166) (FI' 121 90).toInt.toNat = au_all (sk (FI 166) (FI 121 90).toInt.toNat)) ∧ ((FI' 121 71).toInt - (au_op (sk (FI 166) (FI' 121 90).toInt.toNat) : Int) = (FI 121 71).toInt - (au_op (sk (FI 166) (FI 121 90).toInt.toNat) : Int)) ∧ (rl_pm (FI' 121 90) (FI' 121 73) (FI' 166) (FI' 167) (FI' 168)))) := by
    intro m
    induction m with
    | zero => intro FIv27 fr28 hI29 rl30 iv31 iv32 iv33 iv34 iv35 iv36 iv37 xi5_0 xi5_1 xi5_2 xi5_3 rw38 rw39 hm; omega
    | succ m ih =>
      intro FIv27 fr28 hI29 rl30 iv31 iv32 iv33 iv34 iv35 iv36 iv37 xi5_0 xi5_1 xi5_2 xi5_3 rw38 rw39 hm
      obtain ⟨x41, h42⟩ : ∃ y, FIv27 121 90 = y := ⟨_, rfl⟩
      have h42l := congrArg Int32.toInt h42
      have b43 := gI_121_90 hI29; rw [h42] at b43
      obtain ⟨x44, h45⟩ : ∃ y, FIv27 121 71 = y := ⟨_, rfl⟩
      have h45l := congrArg Int32.toInt h45
      have := i_rng x44
      obtain ⟨x46, h47⟩ : ∃ y, FIv27 121 73 = y := ⟨_, rfl⟩
      have h47l := congrArg Int32.toInt h47
      have b48 := gI_121_73 hI29; rw [h47] at b48
      refine hw_aloadn (aX12_reducedAll 3 rfl) rfl ?_
      refine hw_callV (Bs := []) (rest := []) (aX12_reducedAll 4 rfl) wc_RX12_559 (by decide) rfl wi_yX12_tops wv_yX12_tops (c121 hS) (s121 hS) rfl rfl rfl (Nat.le_of_ble_eq_true rfl) (Nat.le_of_ble_eq_true rfl) (n_tops (d := d + 2) hS hF hI29 ) (fun v49 sv50 p51 => ?_)
      have := congrArg Int32.toInt (show FIv27 121 90 = x41 from h42)
      obtain ⟨r52, rfl, rfl, t54, u55, u56⟩ := p51
      have rg_r52 := i_rng r52
      show hw zk base _ _ _ _ _ [.int (r52)] _ _
      refine hw_bp (v := ((-3) : Int32)) (aX12_reducedAll 5 rfl) (by decide) ?_
      refine hw_icne (tgt := 26) (aX12_reducedAll 6 rfl) (by decide) rfl (by decide : ((-3) : Int32).toInt = (-3)) (fun cd57 => ?_) (fun cd57 => ?_)
      · refine xw_vret (aX12_reducedAll 13 rfl) rfl ?_
        exact ⟨rfl, FIv27, rfl, hI29, fr28, (by have := congrArg Int32.toInt (show FIv27 121 90 = x41 from h42); omega), (by have := congrArg Int32.toInt (show FIv27 121 73 = x46 from h47); have := congrArg Int32.toInt (show FIv27 121 90 = x41 from h42); omega), (by have := congrArg Int32.toInt (show FIv27 121 73 = x46 from h47); omega), (by have := congrArg Int32.toInt (show FIv27 121 71 = x44 from h45); omega), (by have := congrArg Int32.toInt (show FIv27 121 71 = x44 from h45); have := congrArg Int32.toInt (show FIv27 121 90 = x41 from h42); omega), (by have e := ra_e xi5_3 (fun y q e => by { rcases Int.lt_or_le 0 (FIv27 121 90).toInt with h0 | h0; { have hh := u55 (by omega); rw [show FIv27 166 = FI 166 from rw38, e] at hh; cases hh; omega }; { rw [show (FIv27 121 90).toInt.toNat = 0 by omega] at e; cases e } }); rw [← xi5_0, e]), (by have := xi5_1; omega), (show rl_pm (FIv27 121 90) (FIv27 121 73) (FIv27 166) (FIv27 167) (FIv27 168) from rl30)⟩
      · have hfq : (FIv27 166 ((FIv27 121 90).toInt - 1).toNat).toInt = -3 := by rw [u56 (by omega)]; omega
        refine hw_aloadn (aX12_reducedAll 7 rfl) rfl ?_
        refine hw_callV (Bs := []) (rest := []) (aX12_reducedAll 8 rfl) wc_RX12_569 (by decide) rfl wi_yX12_turned wv_yX12_turned (c121 hS) (s121 hS) rfl rfl rfl (Nat.le_of_ble_eq_true rfl) (Nat.le_of_ble_eq_true rfl) (n_turned (d := d) hS hF hI29 (by have := congrArg Int32.toInt (show FIv27 121 90 = x41 from h42); omega) (by have := congrArg Int32.toInt (show FIv27 121 73 = x46 from h47); omega) (by have := congrArg Int32.toInt (show FIv27 121 71 = x44 from h45); have := congrArg Int32.toInt (show FIv27 121 71 = x44 from h45); omega) (hfq) (show rl_pm (FIv27 121 90) (FIv27 121 73) (FIv27 166) (FIv27 167) (FIv27 168) from rl30)) (fun v58 sv59 p60 => ?_)
        have := congrArg Int32.toInt (show FIv27 121 90 = x41 from h42)
        have := congrArg Int32.toInt (show FIv27 121 71 = x44 from h45)
        have := congrArg Int32.toInt (show FIv27 121 73 = x46 from h47)
        obtain ⟨rfl, FI62, rfl, hI63, f64, t65, t66, t67, rl68⟩ := p60
        obtain ⟨x69, h70⟩ : ∃ y, FI62 121 90 = y := ⟨_, rfl⟩
        have h70l := congrArg Int32.toInt h70
        have b71 := gI_121_90 hI63; rw [h70] at b71
        obtain ⟨x72, h73⟩ : ∃ y, FI62 121 71 = y := ⟨_, rfl⟩
        have h73l := congrArg Int32.toInt h73
        have := i_rng x72
        obtain ⟨x74, h75⟩ : ∃ y, FI62 121 73 = y := ⟨_, rfl⟩
        have h75l := congrArg Int32.toInt h75
        have b76 := gI_121_73 hI63; rw [h75] at b76
        show hw zk base _ _ _ _ _ [] _ _
        refine hw_aloadn (aX12_reducedAll 9 rfl) rfl ?_
        refine hw_ic (v := (1 : Int32)) (aX12_reducedAll 10 rfl) (by decide) ?_
        refine hw_callV (Bs := [.int ((1 : Int32))]) (rest := []) (aX12_reducedAll 11 rfl) wc_RX12_566 (by decide) rfl wi_yX12_reduced wv_yX12_reduced (c121 hS) (s121 hS) rfl rfl rfl (Nat.le_of_ble_eq_true rfl) (Nat.le_of_ble_eq_true rfl) (n_reduced (d := d + 1) hS hF hI63 ((1 : Int32)) (by have := congrArg Int32.toInt (show FI62 121 73 = x74 from h75); have := congrArg Int32.toInt (show FI62 121 90 = x69 from h70); omega) (by have := ((by decide : (1 : Int32).toInt = 1) : ((1 : Int32)).toInt = 1); have := ((by decide : (1 : Int32).toInt = 1) : ((1 : Int32)).toInt = 1); omega) (show rl_pm (FI62 121 90) (FI62 121 73) (FI62 166) (FI62 167) (FI62 168) from rl68)) (fun v77 sv78 p79 => ?_)
        have := congrArg Int32.toInt (show FI62 121 90 = x69 from h70)
        have := congrArg Int32.toInt (show FI62 121 73 = x74 from h75)
        have := congrArg Int32.toInt (show FI62 121 90 = x69 from h70)
        have := congrArg Int32.toInt (show FI62 121 73 = x74 from h75)
        obtain ⟨rfl, FI81, rfl, hI82, f83, t84, t85, t86, u87, rl88⟩ := p79
        obtain ⟨x89, h90⟩ : ∃ y, FI81 121 90 = y := ⟨_, rfl⟩
        have h90l := congrArg Int32.toInt h90
        have b91 := gI_121_90 hI82; rw [h90] at b91
        obtain ⟨x92, h93⟩ : ∃ y, FI81 121 73 = y := ⟨_, rfl⟩
        have h93l := congrArg Int32.toInt h93
        have b94 := gI_121_73 hI82; rw [h93] at b94
        show hw zk base _ _ _ _ _ [] _ _
        refine xw_goto (tgt := 5) (aX12_reducedAll 12 rfl) (by decide) ?_
        exact hw_L (ih FI81 (gf_tr ex_rf (gf_tr ex_rf fr28 f64 rfl rfl rfl) f83 rfl rfl rfl) hI82 (show rl_pm (FI81 121 90) (FI81 121 73) (FI81 166) (FI81 167) (FI81 168) from rl88) (by have := congrArg Int32.toInt (show FI81 121 90 = x89 from h90); omega) (by have := congrArg Int32.toInt (show FI81 121 71 = x72 from (gf_at f83 (c121 hS) (s121 hS) rfl (h73))); omega) (by have := congrArg Int32.toInt (show FI81 121 90 = x89 from h90); omega) (by have := congrArg Int32.toInt (show FI81 121 73 = x92 from h93); have := congrArg Int32.toInt (show FI81 121 90 = x89 from h90); omega) (by have := congrArg Int32.toInt (show FI81 121 73 = x92 from h93); omega) (by have := congrArg Int32.toInt (show FI81 121 71 = x72 from (gf_at f83 (c121 hS) (s121 hS) rfl (h73))); omega) (by have := congrArg Int32.toInt (show FI81 121 71 = x72 from (gf_at f83 (c121 hS) (s121 hS) rfl (h73))); have := congrArg Int32.toInt (show FI81 121 90 = x89 from h90); omega) (show au_all (sk (FI 166) ((FI81 121 90).toInt).toNat) = au_all (sk (FI 166) (FI 121 90).toInt.toNat) from (by have := congrArg Int32.toInt (show FI81 121 90 = x89 from h90); exact (by have hh := u55 (by omega); rw [show FIv27 166 = FI 166 from rw38, show (r52).toInt = -3 by omega] at hh; have g0 := ra_s hh xi5_2; have H2 := u87; rw [show ((1 : Int32)).toInt = (1 : Int) from by decide, show FI62 166 = FI 166 from (gf_row f64 (c166 hS) (s166 hS) rfl (rw38))] at H2; rw [show (FI62 121 90).toInt.toNat = ((FIv27 121 90).toInt - 1).toNat by omega] at H2; have g := g0; rw [← H2] at g; rw [g.1]; exact xi5_0))) (show (FI81 121 71).toInt - (au_op (sk (FI 166) ((FI81 121 90).toInt).toNat) : Int) = (FI 121 71).toInt - (au_op (sk (FI 166) (FI 121 90).toInt.toNat) : Int) from (by have := congrArg Int32.toInt (show FI81 121 71 = x72 from (gf_at f83 (c121 hS) (s121 hS) rfl (h73))); have := congrArg Int32.toInt (show FI81 121 90 = x89 from h90); exact (by have hh := u55 (by omega); rw [show FIv27 166 = FI 166 from rw38, show (r52).toInt = -3 by omega] at hh; have g0 := ra_s hh xi5_2; have H2 := u87; rw [show ((1 : Int32)).toInt = (1 : Int) from by decide, show FI62 166 = FI 166 from (gf_row f64 (c166 hS) (s166 hS) rfl (rw38))] at H2; rw [show (FI62 121 90).toInt.toNat = ((FIv27 121 90).toInt - 1).toNat by omega] at H2; have g := g0; rw [← H2] at g; have := g.2.1; have := xi5_1; omega))) (show au_ok (sk (FI 166) ((FI81 121 90).toInt).toNat) from (by have := congrArg Int32.toInt (show FI81 121 90 = x89 from h90); exact (by have hh := u55 (by omega); rw [show FIv27 166 = FI 166 from rw38, show (r52).toInt = -3 by omega] at hh; have g0 := ra_s hh xi5_2; have H2 := u87; rw [show ((1 : Int32)).toInt = (1 : Int) from by decide, show FI62 166 = FI 166 from (gf_row f64 (c166 hS) (s166 hS) rfl (rw38))] at H2; rw [show (FI62 121 90).toInt.toNat = ((FIv27 121 90).toInt - 1).toNat by omega] at H2; have g := g0; rw [← H2] at g; exact g.2.2.1))) (show ∀ y r, sk (FI 166) ((FI81 121 90).toInt).toNat = y :: r → y < 1 from (by have := congrArg Int32.toInt (show FI81 121 90 = x89 from h90); exact (by have hh := u55 (by omega); rw [show FIv27 166 = FI 166 from rw38, show (r52).toInt = -3 by omega] at hh; have g0 := ra_s hh xi5_2; have H2 := u87; rw [show ((1 : Int32)).toInt = (1 : Int) from by decide, show FI62 166 = FI 166 from (gf_row f64 (c166 hS) (s166 hS) rfl (rw38))] at H2; rw [show (FI62 121 90).toInt.toNat = ((FIv27 121 90).toInt - 1).toNat by omega] at H2; have g := g0; rw [← H2] at g; exact g.2.2.2))) (show FI81 166 = FI 166 from (gf_row f83 (c166 hS) (s166 hS) rfl ((gf_row f64 (c166 hS) (s166 hS) rfl (rw38))))) (show FI81 166 = FI13 166 from (gf_row f83 (c166 hS) (s166 hS) rfl ((gf_row f64 (c166 hS) (s166 hS) rfl (rw39))))) (by have := congrArg Int32.toInt (show FI81 121 90 = x89 from h90); omega)) ⟨rfl, trivial⟩
  exact hw_L (lp40 (((x21).toInt : Int).toNat + 1) FI13 (gf_tr ex_rf gf_rf f15 rfl rfl rfl) hI14 (show rl_pm (FI13 121 90) (FI13 121 73) (FI13 166) (FI13 167) (FI13 168) from rl20) (by have := congrArg Int32.toInt (show FI13 121 90 = x21 from h22); omega) (by have := congrArg Int32.toInt (show FI13 121 71 = x7 from (gf_at f15 (c121 hS) (s121 hS) rfl (h8))); omega) (by have := congrArg Int32.toInt (show FI13 121 90 = x21 from h22); omega) (by have := congrArg Int32.toInt (show FI13 121 73 = x24 from h25); have := congrArg Int32.toInt (show FI13 121 90 = x21 from h22); omega) (by have := congrArg Int32.toInt (show FI13 121 73 = x24 from h25); omega) (by have := congrArg Int32.toInt (show FI13 121 71 = x7 from (gf_at f15 (c121 hS) (s121 hS) rfl (h8))); omega) (by have := congrArg Int32.toInt (show FI13 121 71 = x7 from (gf_at f15 (c121 hS) (s121 hS) rfl (h8))); have := congrArg Int32.toInt (show FI13 121 90 = x21 from h22); omega) (show au_all (sk (FI 166) ((FI13 121 90).toInt).toNat) = au_all (sk (FI 166) (FI 121 90).toInt.toNat) from (by have := congrArg Int32.toInt (show FI13 121 90 = x21 from h22); exact (by have g := ra_0 gg0 gg1; have H := u19; rw [show ((1 : Int32)).toInt = (1 : Int) from by decide] at H; rw [← H] at g; exact g.1))) (show (FI13 121 71).toInt - (au_op (sk (FI 166) ((FI13 121 90).toInt).toNat) : Int) = (FI 121 71).toInt - (au_op (sk (FI 166) (FI 121 90).toInt.toNat) : Int) from (by have := congrArg Int32.toInt (show FI13 121 71 = x7 from (gf_at f15 (c121 hS) (s121 hS) rfl (h8))); have := congrArg Int32.toInt (show FI13 121 90 = x21 from h22); exact (by have g := ra_0 gg0 gg1; have H := u19; rw [show ((1 : Int32)).toInt = (1 : Int) from by decide] at H; rw [← H] at g; have := g.2.1; omega))) (show au_ok (sk (FI 166) ((FI13 121 90).toInt).toNat) from (by have := congrArg Int32.toInt (show FI13 121 90 = x21 from h22); exact (by have g := ra_0 gg0 gg1; have H := u19; rw [show ((1 : Int32)).toInt = (1 : Int) from by decide] at H; rw [← H] at g; exact g.2.2.1))) (show ∀ y r, sk (FI 166) ((FI13 121 90).toInt).toNat = y :: r → y < 1 from (by have := congrArg Int32.toInt (show FI13 121 90 = x21 from h22); exact (by have g := ra_0 gg0 gg1; have H := u19; rw [show ((1 : Int32)).toInt = (1 : Int) from by decide] at H; rw [← H] at g; exact g.2.2.2))) (show FI13 166 = FI 166 from (gf_row f15 (c166 hS) (s166 hS) rfl (rfl))) (show FI13 166 = FI13 166 from rfl) (by have := congrArg Int32.toInt (show FI13 121 90 = x21 from h22); omega)) ⟨rfl, trivial⟩
end
section
/-! compile's own reading of an expression beside the walk over tokens: it takes '+ NUMBER' at once where nothing multiplies behind it. -/
def co_fold (K W : Nat → Int) (m' m : List Int) (q : Nat) : Prop := m' = m ∨ (m' = 6 :: m ∧ (∀ y r, m = y :: r → y < 6) ∧ au_bn (K q) (W q) ≠ 7)
/-- + or - and a NUMBER alone from b on -/
def co_add (K W : Nat → Int) (b : Nat) : Prop := K b = 5 ∧ (W b = 43 ∨ W b = 45) ∧ K (b + 1) = 3 ∧ au_bn (K (b + 2)) (W (b + 2)) ≠ 7
def co_cmb (K W : Nat → Int) (l : List Int) (b q : Nat) : Prop := q = b ∨ (q = b + 2 ∧ co_add K W b ∧ ∀ y r, l = y :: r → y < 6)
def co_opd (K W : Nat → Int) (p : Nat) (l : List Int) (q : Nat) (d : Int) (m : List Int) : Prop :=
  (d = 0 ∧ au_st K W p true l q true m) ∨ (d = 1 ∧ ∃ p1, au_st K W p true l p1 false m ∧ co_cmb K W m p1 q)
def co_opr (K W : Nat → Int) (p : Nat) (l : List Int) (q : Nat) (c : Int) (m : List Int) : Prop :=
  (c = 0 ∧ au_st K W p false l q true m) ∨ (c = 1 ∧ au_st K W p false l q false m) ∨ (c = 1 ∧ co_add K W p ∧ q = p + 2 ∧ m = au_red 6 l)
def co_end (K W : Nat → Int) (p : Nat) (l : List Int) : Prop := au_bn (K p) (W p) = 0 ∧ ¬ (K p = 5 ∧ W p = 63) ∧ au_all l = []
theorem dw_len {p : Int → Bool} : ∀ (l : List Int), (l.dropWhile p).length ≤ l.length
  | [] => Nat.le_refl _
  | x :: l => by
    rw [List.dropWhile_cons]
    split
    · have := dw_len (p := p) l; simp only [List.length_cons]; omega
    · exact Nat.le_refl _
theorem au_st_len {K W : Nat → Int} {p q : Nat} {a b : Bool} {l m : List Int} (h : au_st K W p a l q b m) : m.length ≤ l.length + 1 := by
  rcases h with ⟨-, -, -, -, rfl⟩ | ⟨-, -, -, -, -, rfl⟩ | ⟨-, -, -, -, rfl⟩ | ⟨-, -, -, -, -, -, -, rfl⟩ | ⟨-, -, -, -, rfl⟩ | ⟨-, -, -, -, -, rfl⟩ | ⟨-, -, -, ⟨r, e, rfl⟩, -, -⟩ | ⟨-, -, -, ⟨r, e, rfl⟩, -, -⟩
  · exact Nat.le_refl _
  · exact Nat.le_refl _
  · exact Nat.le_succ_of_le (dw_len l)
  · exact Nat.le_succ_of_le (dw_len l)
  · have := dw_len (p := fun x => decide (au_bn (K p) (W p) ≤ x)) l
    simp only [List.length_cons, au_red]; omega
  · have := dw_len (p := fun x => decide ((1 : Int) ≤ x)) l
    simp only [List.length_cons, au_red]; omega
  · have := dw_len (p := fun x => decide ((1 : Int) ≤ x ∨ x = -3)) l
    unfold au_all at e; rw [e] at this
    simp only [List.length_cons] at this ⊢; omega
  · have := dw_len (p := fun x => decide ((1 : Int) ≤ x ∨ x = -3)) l
    unfold au_all at e; rw [e] at this
    have h2 := dw_len (p := fun x => decide (x = (9 : Int))) r
    simp only [List.length_cons] at this
    unfold au_fin; omega
theorem au_red_id {b : Int} {m : List Int} (h : ∀ y r, m = y :: r → y < b) : au_red b m = m := by
  cases m with
  | nil => rfl
  | cons y r => exact au_red_stop (h y r rfl)
/-- the two steps of '+ NUMBER' -/
theorem co_two {K W : Nat → Int} {n p0 b : Nat} {m' m : List Int} (h : au_rch K W n p0 true [] b false m') (ha : co_add K W b) (hm : au_red 6 m' = m) (hl : m.length < 240) : au_rch K W (n + 1 + 1) p0 true [] (b + 2) false (6 :: m) := by
  obtain ⟨h1, h2, h3, h4⟩ := ha
  have hb : au_bn (K b) (W b) = 6 := au_bn_6.mpr ⟨h1, h2⟩
  have s1 : au_st K W b false m' (b + 1) true (6 :: m) := Or.inr (Or.inr (Or.inr (Or.inr (Or.inl ⟨rfl, by rw [hb]; decide, rfl, rfl, by rw [hb, hm]⟩))))
  have s2 : au_st K W (b + 1) true (6 :: m) (b + 2) false (6 :: m) := Or.inr (Or.inr (Or.inl ⟨rfl, Or.inl h3, rfl, rfl, (au_fin_stop (by decide)).symm⟩))
  exact au_snoc _ _ _ _ _ _ _ _ _ _ (au_snoc _ _ _ _ _ _ _ _ _ _ h s1 (by simp only [List.length_cons]; omega)) s2 (by simp only [List.length_cons]; omega)
theorem co_opd_go {K W : Nat → Int} {n p0 p q : Nat} {d : Int} {l m : List Int} (h : au_rch K W n p0 true [] p true l) (ho : co_opd K W p l q d m) (hl : l.length < 200) :
    (d = 0 → ∃ n2, au_rch K W n2 p0 true [] q true m) ∧ (d = 1 → ∃ n2 m', au_rch K W n2 p0 true [] q false m' ∧ co_fold K W m' m q) := by
  rcases ho with ⟨rfl, hs⟩ | ⟨rfl, p1, hs, hc⟩
  · have := au_st_len hs
    exact ⟨fun _ => ⟨_, au_snoc _ _ _ _ _ _ _ _ _ _ h hs (by omega)⟩, fun h => by omega⟩
  · have hlen := au_st_len hs
    have h1 := au_snoc _ _ _ _ _ _ _ _ _ _ h hs (by omega)
    refine ⟨fun h => by omega, fun _ => ?_⟩
    rcases hc with rfl | ⟨rfl, ha, ht⟩
    · exact ⟨_, _, h1, Or.inl rfl⟩
    · exact ⟨_, _, co_two h1 ha (au_red_id ht) (by omega), Or.inr ⟨rfl, ht, ha.2.2.2⟩⟩
theorem co_fold_st {K W : Nat → Int} {p q : Nat} {b : Bool} {l' l m : List Int} (hf : co_fold K W l' l p) (h : au_st K W p false l q b m) : au_st K W p false l' q b m := by
  rcases hf with rfl | ⟨rfl, ht, h7⟩
  · exact h
  · rcases h with ⟨h, -⟩ | ⟨h, -⟩ | ⟨h, -⟩ | ⟨h, -⟩ | ⟨-, hb, rfl, rfl, rfl⟩ | ⟨-, h1, h2, rfl, rfl, rfl⟩ | ⟨-, h1, h2, ⟨r, e, rfl⟩, rfl, rfl⟩ | ⟨-, h1, h2, ⟨r, e, rfl⟩, rfl, rfl⟩
    · cases h
    · cases h
    · cases h
    · cases h
    · have := au_bn_rg (K p) (W p)
      exact Or.inr (Or.inr (Or.inr (Or.inr (Or.inl ⟨rfl, hb, rfl, rfl, by rw [au_red_pop (by omega)]⟩))))
    · exact Or.inr (Or.inr (Or.inr (Or.inr (Or.inr (Or.inl ⟨rfl, h1, h2, rfl, rfl, by rw [au_red_pop (by decide)]⟩)))))
    · exact Or.inr (Or.inr (Or.inr (Or.inr (Or.inr (Or.inr (Or.inl ⟨rfl, h1, h2, ⟨r, by rw [au_all_pop (Or.inl (by decide))]; exact e, rfl⟩, rfl, rfl⟩))))))
    · exact Or.inr (Or.inr (Or.inr (Or.inr (Or.inr (Or.inr (Or.inr ⟨rfl, h1, h2, ⟨r, by rw [au_all_pop (Or.inl (by decide))]; exact e, rfl⟩, rfl, rfl⟩))))))
theorem co_opr_go {K W : Nat → Int} {n p0 p q : Nat} {c : Int} {l' l m : List Int} (h : au_rch K W n p0 true [] p false l') (hf : co_fold K W l' l p) (ho : co_opr K W p l q c m) (hl : l.length < 200) :
    (c = 0 → ∃ n2, au_rch K W n2 p0 true [] q true m) ∧ (c = 1 → ∃ n2 m', au_rch K W n2 p0 true [] q false m' ∧ co_fold K W m' m q) := by
  rcases ho with ⟨rfl, hs⟩ | ⟨rfl, hs⟩ | ⟨rfl, ha, rfl, rfl⟩
  · have := au_st_len hs
    exact ⟨fun _ => ⟨_, au_snoc _ _ _ _ _ _ _ _ _ _ h (co_fold_st hf hs) (by omega)⟩, fun h => by omega⟩
  · have := au_st_len hs
    exact ⟨fun h => by omega, fun _ => ⟨_, _, au_snoc _ _ _ _ _ _ _ _ _ _ h (co_fold_st hf hs) (by omega), Or.inl rfl⟩⟩
  · refine ⟨fun h => by omega, fun _ => ?_⟩
    have e : au_red 6 l' = au_red 6 l := by
      rcases hf with rfl | ⟨rfl, -, -⟩
      · rfl
      · exact au_red_pop (by decide)
    have := dw_len (p := fun x => decide ((6 : Int) ≤ x)) l
    refine ⟨_, _, co_two h ha e (by unfold au_red; omega), Or.inr ⟨rfl, fun y r e => ?_, ha.2.2.2⟩⟩
    have h1 := au_dw_hd (show l.dropWhile _ = y :: r from e)
    have h2 : ¬ (6 : Int) ≤ y := of_decide_eq_false h1
    omega
theorem co_end_go {K W : Nat → Int} {n p0 p : Nat} {l' l : List Int} (h : au_rch K W n p0 true [] p false l') (hf : co_fold K W l' l p) (ho : co_end K W p l) : au_acc K W p0 p := by
  refine ⟨_, _, h, ho.1, ho.2.1, ?_⟩
  rcases hf with rfl | ⟨rfl, -, -⟩
  · exact ho.2.2
  · rw [au_all_pop (Or.inl (by decide))]; exact ho.2.2
/-- what the walk says of the stack itself -/
theorem co_ok {K W : Nat → Int} {n p0 p : Nat} {a : Bool} {l' l : List Int} (h : au_rch K W n p0 true [] p a l') (hf : l' = l ∨ co_fold K W l' l p) : au_ok l ∧ (a = false → ∀ y r, l = y :: r → y ≠ 9) := by
  have g := au_rch_ok _ _ _ _ _ _ _ h trivial (fun h => by cases h)
  rcases hf with rfl | rfl | ⟨rfl, -, -⟩
  · exact g
  · exact g
  · exact ⟨g.1.2.1, fun _ y r e => ((g.1.2.2 y r e).1 (by decide)).2⟩
theorem co_cmb_fin {K W : Nat → Int} {l : List Int} {b q : Nat} (h : co_cmb K W l b q) : co_cmb K W (au_fin l) b q := by
  rcases h with h | ⟨h1, h2, h3⟩
  · exact Or.inl h
  · refine Or.inr ⟨h1, h2, ?_⟩
    have e : au_fin l = l := by
      cases l with
      | nil => rfl
      | cons y r => exact au_fin_stop (by have := h3 y r rfl; omega)
    rw [e]; exact h3
theorem sk_ops {f : Nat → Int32} {w w2 : Int32} {o o2 : Int} (h : sk f w2.toInt.toNat = au_fin (sk f w.toInt.toNat)) (ho : o2 - o = w2.toInt - w.toInt) (h0 : 0 ≤ w.toInt) (h2 : 0 ≤ w2.toInt) : o2 - (au_op (sk f w2.toInt.toNat) : Int) = o - (au_op (sk f w.toInt.toNat) : Int) := by
  have := au_op_fin (sk f w.toInt.toNat)
  rw [← h, sk_len, sk_len] at this
  omega
theorem au_red_red {b c : Int} (h : b ≤ c) : ∀ {l : List Int}, au_red b (au_red c l) = au_red b l
  | [] => rfl
  | x :: l => by
    by_cases hx : c ≤ x
    · rw [au_red_pop hx, au_red_red h, au_red_pop (by omega)]
    · rw [au_red_stop (by omega)]
/-- where compile stands within an expression -/
def ch_inv (K W : Nat → Int) (p0 : Nat) (o : Int) (p : Nat) (a : Int) (l : List Int) (o2 : Int) : Prop :=
  (∃ n l', au_rch K W n p0 true [] p (decide (a = 1)) l' ∧ (a = 1 → l' = l) ∧ (a = 0 → co_fold K W l' l p)) ∧ o2 - (au_op l : Int) = o ∧ (a = 0 ∨ a = 1)
theorem ch_0 {K W : Nat → Int} {p0 : Nat} {o : Int} : ch_inv K W p0 o p0 1 [] o := ⟨⟨0, [], ⟨rfl, rfl, rfl⟩, fun _ => rfl, fun h => by omega⟩, by simp [au_op], Or.inr rfl⟩
theorem ch_ok {K W : Nat → Int} {p0 p : Nat} {o a o1 : Int} {l : List Int} (h : ch_inv K W p0 o p a l o1) : au_ok l ∧ (a = 0 → ∀ y r, l = y :: r → y ≠ 9) ∧ (l.length : Int) ≤ 8 * (o1 - o) + 7 := by
  obtain ⟨⟨n, l', h1, h2, h3⟩, h4, h5⟩ := h
  have g : au_ok l ∧ (decide (a = 1) = false → ∀ y r, l = y :: r → y ≠ 9) := by
    rcases h5 with h5 | h5
    · exact co_ok h1 (Or.inr (h3 h5))
    · exact co_ok h1 (Or.inl (h2 h5))
  have := au_len g.1
  exact ⟨g.1, fun ha => g.2 (by rw [ha]; rfl), by omega⟩
theorem ch_opd {K W : Nat → Int} {p0 p q : Nat} {o d o1 o2 : Int} {l m : List Int} (h : ch_inv K W p0 o p 1 l o1) (hd : co_opd K W p l q d m) (hl : l.length < 200) (ho : o2 - (au_op m : Int) = o1 - (au_op l : Int)) : (d = 0 → ch_inv K W p0 o q 1 m o2) ∧ (d = 1 → ch_inv K W p0 o q 0 m o2) := by
  obtain ⟨⟨n, l', h1, h2, h3⟩, h4, h5⟩ := h
  have e := h2 rfl
  subst e
  have g := co_opd_go h1 hd hl
  refine ⟨fun h0 => ?_, fun h0 => ?_⟩
  · obtain ⟨n2, g2⟩ := g.1 h0
    exact ⟨⟨n2, m, g2, fun _ => rfl, fun h => by omega⟩, by omega, Or.inr rfl⟩
  · obtain ⟨n2, m', g2, g3⟩ := g.2 h0
    exact ⟨⟨n2, m', g2, fun h => by omega, fun _ => g3⟩, by omega, Or.inl rfl⟩
theorem ch_opr {K W : Nat → Int} {p0 p q : Nat} {o c o1 o2 : Int} {l m : List Int} (h : ch_inv K W p0 o p 0 l o1) (hd : co_opr K W p l q c m) (hl : l.length < 200) (ho : o2 - (au_op m : Int) = o1 - (au_op l : Int)) : (c = 0 → ch_inv K W p0 o q 1 m o2) ∧ (c = 1 → ch_inv K W p0 o q 0 m o2) := by
  obtain ⟨⟨n, l', h1, h2, h3⟩, h4, h5⟩ := h
  have g := co_opr_go h1 (h3 rfl) hd hl
  refine ⟨fun h0 => ?_, fun h0 => ?_⟩
  · obtain ⟨n2, g2⟩ := g.1 h0
    exact ⟨⟨n2, m, g2, fun _ => rfl, fun h => by omega⟩, by omega, Or.inr rfl⟩
  · obtain ⟨n2, m', g2, g3⟩ := g.2 h0
    exact ⟨⟨n2, m', g2, fun h => by omega, fun _ => g3⟩, by omega, Or.inl rfl⟩
theorem ch_end {K W : Nat → Int} {p0 p : Nat} {o o1 : Int} {l : List Int} (h : ch_inv K W p0 o p 0 l o1) (he : co_end K W p l) : au_acc K W p0 p := by
  obtain ⟨⟨n, l', h1, h2, h3⟩, h4, h5⟩ := h
  exact co_end_go h1 (h3 rfl) he
end
