set_option maxHeartbeats 4000000 in
set_option maxRecDepth 100000 in
theorem n_multiplies {zk : xK} {base d n sl : Nat} {SH : Nat → Nat × Nat} {FI : Nat → Nat → Int32} {FL : Nat → Nat → Int64} {FR : Nat → Nat → Option Nat} (hS : h_S n SH) (hF : h_FR FR) (hI : g_I FI) (a1 : Int32) (a2 : Int64) : hw zk base d none 248 0 [(0, .ref (base + 121)), (1, .int (a1)), (2, .long (a2))] [] (n, sl, SH, FI, FL, FR) (h_I (fun r s => s = (n, sl, SH, FI, FL, FR) ∧ (-1 ≤ r.toInt ∧ r.toInt ≤ 30) ∧ (hid (r.toInt ≠ -1 → ((a1).toInt = 5 ∧ (a2).toInt = 42) ∨ ((a1).toInt = 2 ∧ ((a2).toInt = 8 ∨ (a2).toInt = 9)))) ∧ (hid ((((a1).toInt = 5 ∧ (a2).toInt = 42) ∨ ((a1).toInt = 2 ∧ ((a2).toInt = 8 ∨ (a2).toInt = 9))) → r.toInt ≠ -1)))) := by
  have rg_a1 := i_rng a1
  have rg_a2 := l_rng a2
  refine xw_iloadn (aX12_multiplies 0 rfl) rfl ?_
  refine hw_ic (v := (5 : Int32)) (aX12_multiplies 1 rfl) (by decide) ?_
  refine hw_icne (tgt := 16) (aX12_multiplies 2 rfl) (by decide) rfl (by decide : (5 : Int32).toInt = 5) (fun cd1 => ?_) (fun cd1 => ?_)
  · refine xw_iloadn (aX12_multiplies 9 rfl) rfl ?_
    refine hw_ic (v := (2 : Int32)) (aX12_multiplies 10 rfl) (by decide) ?_
    refine hw_icne (tgt := 32) (aX12_multiplies 11 rfl) (by decide) rfl (by decide : (2 : Int32).toInt = 2) (fun cd2 => ?_) (fun cd2 => ?_)
    · refine xw_iloadn (aX12_multiplies 18 rfl) rfl ?_
      refine hw_ic (v := (2 : Int32)) (aX12_multiplies 19 rfl) (by decide) ?_
      refine hw_icne (tgt := 50) (aX12_multiplies 20 rfl) (by decide) rfl (by decide : (2 : Int32).toInt = 2) (fun cd3 => ?_) (fun cd3 => ?_)
      · refine hw_ic (v := ((-1) : Int32)) (aX12_multiplies 27 rfl) (by decide) ?_
        refine xw_iret (aX12_multiplies 28 rfl) rfl rfl ?_
        have e4 : (((-1) : Int32)).toInt = (-1) := (by decide : ((-1) : Int32).toInt = (-1))
        exact ⟨((-1) : Int32), rfl, rfl, (by have : (((-1) : Int32)).toInt = (-1) := (by decide); omega), (by unfold hid; have : (((-1) : Int32)).toInt = (-1) := (by decide); omega), (by unfold hid; have : (((-1) : Int32)).toInt = (-1) := (by decide); omega)⟩
      · refine xw_lloadn (aX12_multiplies 21 rfl) rfl ?_
        refine xw_ldc2 (aX12_multiplies 22 rfl) wk_RX12_649 ?_
        refine hw_lcne (tgt := 50) (aX12_multiplies 23 rfl) (aX12_multiplies 24 rfl) (by decide) rfl (by decide : (9 : Int64).toInt = 9) (fun cd5 => ?_) (fun cd5 => ?_)
        · refine hw_ic (v := ((-1) : Int32)) (aX12_multiplies 27 rfl) (by decide) ?_
          refine xw_iret (aX12_multiplies 28 rfl) rfl rfl ?_
          have e6 : (((-1) : Int32)).toInt = (-1) := (by decide : ((-1) : Int32).toInt = (-1))
          exact ⟨((-1) : Int32), rfl, rfl, (by have : (((-1) : Int32)).toInt = (-1) := (by decide); omega), (by unfold hid; have : (((-1) : Int32)).toInt = (-1) := (by decide); omega), (by unfold hid; have : (((-1) : Int32)).toInt = (-1) := (by decide); omega)⟩
        · refine hw_bp (v := (29 : Int32)) (aX12_multiplies 25 rfl) (by decide) ?_
          refine xw_goto (tgt := 51) (aX12_multiplies 26 rfl) (by decide) ?_
          refine xw_iret (aX12_multiplies 28 rfl) rfl rfl ?_
          have e7 : ((29 : Int32)).toInt = 29 := (by decide : (29 : Int32).toInt = 29)
          exact ⟨(29 : Int32), rfl, rfl, (by have : ((29 : Int32)).toInt = 29 := (by decide); omega), (by unfold hid; have : ((29 : Int32)).toInt = 29 := (by decide); omega), (by unfold hid; have : ((29 : Int32)).toInt = 29 := (by decide); omega)⟩
    · refine xw_lloadn (aX12_multiplies 12 rfl) rfl ?_
      refine xw_ldc2 (aX12_multiplies 13 rfl) wk_RX12_315 ?_
      refine hw_lcne (tgt := 32) (aX12_multiplies 14 rfl) (aX12_multiplies 15 rfl) (by decide) rfl (by decide : (8 : Int64).toInt = 8) (fun cd8 => ?_) (fun cd8 => ?_)
      · refine xw_iloadn (aX12_multiplies 18 rfl) rfl ?_
        refine hw_ic (v := (2 : Int32)) (aX12_multiplies 19 rfl) (by decide) ?_
        refine hw_icne (tgt := 50) (aX12_multiplies 20 rfl) (by decide) rfl (by decide : (2 : Int32).toInt = 2) (fun cd9 => ?_) (fun cd9 => ?_)
        · omega
        · refine xw_lloadn (aX12_multiplies 21 rfl) rfl ?_
          refine xw_ldc2 (aX12_multiplies 22 rfl) wk_RX12_649 ?_
          refine hw_lcne (tgt := 50) (aX12_multiplies 23 rfl) (aX12_multiplies 24 rfl) (by decide) rfl (by decide : (9 : Int64).toInt = 9) (fun cd10 => ?_) (fun cd10 => ?_)
          · refine hw_ic (v := ((-1) : Int32)) (aX12_multiplies 27 rfl) (by decide) ?_
            refine xw_iret (aX12_multiplies 28 rfl) rfl rfl ?_
            have e11 : (((-1) : Int32)).toInt = (-1) := (by decide : ((-1) : Int32).toInt = (-1))
            exact ⟨((-1) : Int32), rfl, rfl, (by have : (((-1) : Int32)).toInt = (-1) := (by decide); omega), (by unfold hid; have : (((-1) : Int32)).toInt = (-1) := (by decide); omega), (by unfold hid; have : (((-1) : Int32)).toInt = (-1) := (by decide); omega)⟩
          · refine hw_bp (v := (29 : Int32)) (aX12_multiplies 25 rfl) (by decide) ?_
            refine xw_goto (tgt := 51) (aX12_multiplies 26 rfl) (by decide) ?_
            refine xw_iret (aX12_multiplies 28 rfl) rfl rfl ?_
            have e12 : ((29 : Int32)).toInt = 29 := (by decide : (29 : Int32).toInt = 29)
            exact ⟨(29 : Int32), rfl, rfl, (by have : ((29 : Int32)).toInt = 29 := (by decide); omega), (by unfold hid; have : ((29 : Int32)).toInt = 29 := (by decide); omega), (by unfold hid; have : ((29 : Int32)).toInt = 29 := (by decide); omega)⟩
      · refine hw_bp (v := (27 : Int32)) (aX12_multiplies 16 rfl) (by decide) ?_
        refine xw_iret (aX12_multiplies 17 rfl) rfl rfl ?_
        have e13 : ((27 : Int32)).toInt = 27 := (by decide : (27 : Int32).toInt = 27)
        exact ⟨(27 : Int32), rfl, rfl, (by have : ((27 : Int32)).toInt = 27 := (by decide); omega), (by unfold hid; have : ((27 : Int32)).toInt = 27 := (by decide); omega), (by unfold hid; have : ((27 : Int32)).toInt = 27 := (by decide); omega)⟩
  · refine xw_lloadn (aX12_multiplies 3 rfl) rfl ?_
    refine xw_ldc2 (aX12_multiplies 4 rfl) wk_RX12_647 ?_
    refine hw_lcne (tgt := 16) (aX12_multiplies 5 rfl) (aX12_multiplies 6 rfl) (by decide) rfl (by decide : (42 : Int64).toInt = 42) (fun cd14 => ?_) (fun cd14 => ?_)
    · refine xw_iloadn (aX12_multiplies 9 rfl) rfl ?_
      refine hw_ic (v := (2 : Int32)) (aX12_multiplies 10 rfl) (by decide) ?_
      refine hw_icne (tgt := 32) (aX12_multiplies 11 rfl) (by decide) rfl (by decide : (2 : Int32).toInt = 2) (fun cd15 => ?_) (fun cd15 => ?_)
      · refine xw_iloadn (aX12_multiplies 18 rfl) rfl ?_
        refine hw_ic (v := (2 : Int32)) (aX12_multiplies 19 rfl) (by decide) ?_
        refine hw_icne (tgt := 50) (aX12_multiplies 20 rfl) (by decide) rfl (by decide : (2 : Int32).toInt = 2) (fun cd16 => ?_) (fun cd16 => ?_)
        · refine hw_ic (v := ((-1) : Int32)) (aX12_multiplies 27 rfl) (by decide) ?_
          refine xw_iret (aX12_multiplies 28 rfl) rfl rfl ?_
          have e17 : (((-1) : Int32)).toInt = (-1) := (by decide : ((-1) : Int32).toInt = (-1))
          exact ⟨((-1) : Int32), rfl, rfl, (by have : (((-1) : Int32)).toInt = (-1) := (by decide); omega), (by unfold hid; have : (((-1) : Int32)).toInt = (-1) := (by decide); omega), (by unfold hid; have : (((-1) : Int32)).toInt = (-1) := (by decide); omega)⟩
        · omega
      · omega
    · refine hw_bp (v := (30 : Int32)) (aX12_multiplies 7 rfl) (by decide) ?_
      refine xw_iret (aX12_multiplies 8 rfl) rfl rfl ?_
      have e18 : ((30 : Int32)).toInt = 30 := (by decide : (30 : Int32).toInt = 30)
      exact ⟨(30 : Int32), rfl, rfl, (by have : ((30 : Int32)).toInt = 30 := (by decide); omega), (by unfold hid; have : ((30 : Int32)).toInt = 30 := (by decide); omega), (by unfold hid; have : ((30 : Int32)).toInt = 30 := (by decide); omega)⟩
set_option maxHeartbeats 4000000 in
set_option maxRecDepth 100000 in
theorem n_shifts {zk : xK} {base d n sl : Nat} {SH : Nat → Nat × Nat} {FI : Nat → Nat → Int32} {FL : Nat → Nat → Int64} {FR : Nat → Nat → Option Nat} (hS : h_S n SH) (hF : h_FR FR) (hI : g_I FI) (a1 : Int32) (a2 : Int64) : hw zk base d none 247 0 [(0, .ref (base + 121)), (1, .int (a1)), (2, .long (a2))] [] (n, sl, SH, FI, FL, FR) (h_I (fun r s => s = (n, sl, SH, FI, FL, FR) ∧ (-1 ≤ r.toInt ∧ r.toInt ≤ 38) ∧ (hid (r.toInt ≠ -1 → (a1).toInt = 5 ∧ ((a2).toInt = 261 ∨ (a2).toInt = 262 ∨ (a2).toInt = 263))) ∧ (hid (((a1).toInt = 5 ∧ ((a2).toInt = 261 ∨ (a2).toInt = 262 ∨ (a2).toInt = 263)) → r.toInt ≠ -1)))) := by
  have rg_a1 := i_rng a1
  have rg_a2 := l_rng a2
  refine xw_iloadn (aX12_shifts 0 rfl) rfl ?_
  refine hw_ic (v := (5 : Int32)) (aX12_shifts 1 rfl) (by decide) ?_
  refine hw_iceq (tgt := 7) (aX12_shifts 2 rfl) (by decide) rfl (by decide : (5 : Int32).toInt = 5) (fun cd1 => ?_) (fun cd1 => ?_)
  · refine xw_lloadn (aX12_shifts 5 rfl) rfl ?_
    refine xw_ldc2 (aX12_shifts 6 rfl) wk_RX12_641 ?_
    refine hw_lcne (tgt := 18) (aX12_shifts 7 rfl) (aX12_shifts 8 rfl) (by decide) rfl (by decide : (261 : Int64).toInt = 261) (fun cd2 => ?_) (fun cd2 => ?_)
    · refine xw_lloadn (aX12_shifts 11 rfl) rfl ?_
      refine xw_ldc2 (aX12_shifts 12 rfl) wk_RX12_643 ?_
      refine hw_lcne (tgt := 29) (aX12_shifts 13 rfl) (aX12_shifts 14 rfl) (by decide) rfl (by decide : (262 : Int64).toInt = 262) (fun cd3 => ?_) (fun cd3 => ?_)
      · refine xw_lloadn (aX12_shifts 17 rfl) rfl ?_
        refine xw_ldc2 (aX12_shifts 18 rfl) wk_RX12_645 ?_
        refine hw_lcne (tgt := 42) (aX12_shifts 19 rfl) (aX12_shifts 20 rfl) (by decide) rfl (by decide : (263 : Int64).toInt = 263) (fun cd4 => ?_) (fun cd4 => ?_)
        · refine hw_ic (v := ((-1) : Int32)) (aX12_shifts 23 rfl) (by decide) ?_
          refine xw_iret (aX12_shifts 24 rfl) rfl rfl ?_
          have e5 : (((-1) : Int32)).toInt = (-1) := (by decide : ((-1) : Int32).toInt = (-1))
          exact ⟨((-1) : Int32), rfl, rfl, (by have : (((-1) : Int32)).toInt = (-1) := (by decide); omega), (by unfold hid; have : (((-1) : Int32)).toInt = (-1) := (by decide); omega), (by unfold hid; have : (((-1) : Int32)).toInt = (-1) := (by decide); omega)⟩
        · refine hw_bp (v := (37 : Int32)) (aX12_shifts 21 rfl) (by decide) ?_
          refine xw_goto (tgt := 43) (aX12_shifts 22 rfl) (by decide) ?_
          refine xw_iret (aX12_shifts 24 rfl) rfl rfl ?_
          have e6 : ((37 : Int32)).toInt = 37 := (by decide : (37 : Int32).toInt = 37)
          exact ⟨(37 : Int32), rfl, rfl, (by have : ((37 : Int32)).toInt = 37 := (by decide); omega), (by unfold hid; have : ((37 : Int32)).toInt = 37 := (by decide); omega), (by unfold hid; have : ((37 : Int32)).toInt = 37 := (by decide); omega)⟩
      · refine hw_bp (v := (38 : Int32)) (aX12_shifts 15 rfl) (by decide) ?_
        refine xw_iret (aX12_shifts 16 rfl) rfl rfl ?_
        have e7 : ((38 : Int32)).toInt = 38 := (by decide : (38 : Int32).toInt = 38)
        exact ⟨(38 : Int32), rfl, rfl, (by have : ((38 : Int32)).toInt = 38 := (by decide); omega), (by unfold hid; have : ((38 : Int32)).toInt = 38 := (by decide); omega), (by unfold hid; have : ((38 : Int32)).toInt = 38 := (by decide); omega)⟩
    · refine hw_bp (v := (36 : Int32)) (aX12_shifts 9 rfl) (by decide) ?_
      refine xw_iret (aX12_shifts 10 rfl) rfl rfl ?_
      have e8 : ((36 : Int32)).toInt = 36 := (by decide : (36 : Int32).toInt = 36)
      exact ⟨(36 : Int32), rfl, rfl, (by have : ((36 : Int32)).toInt = 36 := (by decide); omega), (by unfold hid; have : ((36 : Int32)).toInt = 36 := (by decide); omega), (by unfold hid; have : ((36 : Int32)).toInt = 36 := (by decide); omega)⟩
  · refine hw_ic (v := ((-1) : Int32)) (aX12_shifts 3 rfl) (by decide) ?_
    refine xw_iret (aX12_shifts 4 rfl) rfl rfl ?_
    have e9 : (((-1) : Int32)).toInt = (-1) := (by decide : ((-1) : Int32).toInt = (-1))
    exact ⟨((-1) : Int32), rfl, rfl, (by have : (((-1) : Int32)).toInt = (-1) := (by decide); omega), (by unfold hid; have : (((-1) : Int32)).toInt = (-1) := (by decide); omega), (by unfold hid; have : (((-1) : Int32)).toInt = (-1) := (by decide); omega)⟩
set_option maxHeartbeats 4000000 in
set_option maxRecDepth 100000 in
theorem n_compares {zk : xK} {base d n sl : Nat} {SH : Nat → Nat × Nat} {FI : Nat → Nat → Int32} {FL : Nat → Nat → Int64} {FR : Nat → Nat → Option Nat} (hS : h_S n SH) (hF : h_FR FR) (hI : g_I FI) (a1 : Int32) (a2 : Int64) : hw zk base d none 246 0 [(0, .ref (base + 121)), (1, .int (a1)), (2, .long (a2))] [] (n, sl, SH, FI, FL, FR) (h_I (fun r s => s = (n, sl, SH, FI, FL, FR) ∧ (-1 ≤ r.toInt ∧ r.toInt ≤ 46) ∧ (hid (r.toInt ≠ -1 → (a1).toInt = 5 ∧ ((a2).toInt = 257 ∨ (a2).toInt = 258 ∨ (a2).toInt = 60 ∨ (a2).toInt = 259 ∨ (a2).toInt = 62 ∨ (a2).toInt = 260))) ∧ (hid (((a1).toInt = 5 ∧ ((a2).toInt = 257 ∨ (a2).toInt = 258 ∨ (a2).toInt = 60 ∨ (a2).toInt = 259 ∨ (a2).toInt = 62 ∨ (a2).toInt = 260)) → r.toInt ≠ -1)))) := by
  have rg_a1 := i_rng a1
  have rg_a2 := l_rng a2
  refine xw_iloadn (aX12_compares 0 rfl) rfl ?_
  refine hw_ic (v := (5 : Int32)) (aX12_compares 1 rfl) (by decide) ?_
  refine hw_iceq (tgt := 7) (aX12_compares 2 rfl) (by decide) rfl (by decide : (5 : Int32).toInt = 5) (fun cd1 => ?_) (fun cd1 => ?_)
  · refine xw_lloadn (aX12_compares 5 rfl) rfl ?_
    refine xw_ldc2 (aX12_compares 6 rfl) wk_RX12_629 ?_
    refine hw_lcne (tgt := 18) (aX12_compares 7 rfl) (aX12_compares 8 rfl) (by decide) rfl (by decide : (257 : Int64).toInt = 257) (fun cd2 => ?_) (fun cd2 => ?_)
    · refine xw_lloadn (aX12_compares 11 rfl) rfl ?_
      refine xw_ldc2 (aX12_compares 12 rfl) wk_RX12_631 ?_
      refine hw_lcne (tgt := 29) (aX12_compares 13 rfl) (aX12_compares 14 rfl) (by decide) rfl (by decide : (258 : Int64).toInt = 258) (fun cd3 => ?_) (fun cd3 => ?_)
      · refine xw_lloadn (aX12_compares 17 rfl) rfl ?_
        refine xw_ldc2 (aX12_compares 18 rfl) wk_RX12_633 ?_
        refine hw_lcne (tgt := 40) (aX12_compares 19 rfl) (aX12_compares 20 rfl) (by decide) rfl (by decide : (60 : Int64).toInt = 60) (fun cd4 => ?_) (fun cd4 => ?_)
        · refine xw_lloadn (aX12_compares 23 rfl) rfl ?_
          refine xw_ldc2 (aX12_compares 24 rfl) wk_RX12_635 ?_
          refine hw_lcne (tgt := 51) (aX12_compares 25 rfl) (aX12_compares 26 rfl) (by decide) rfl (by decide : (259 : Int64).toInt = 259) (fun cd5 => ?_) (fun cd5 => ?_)
          · refine xw_lloadn (aX12_compares 29 rfl) rfl ?_
            refine xw_ldc2 (aX12_compares 30 rfl) wk_RX12_637 ?_
            refine hw_lcne (tgt := 62) (aX12_compares 31 rfl) (aX12_compares 32 rfl) (by decide) rfl (by decide : (62 : Int64).toInt = 62) (fun cd6 => ?_) (fun cd6 => ?_)
            · refine xw_lloadn (aX12_compares 35 rfl) rfl ?_
              refine xw_ldc2 (aX12_compares 36 rfl) wk_RX12_639 ?_
              refine hw_lcne (tgt := 75) (aX12_compares 37 rfl) (aX12_compares 38 rfl) (by decide) rfl (by decide : (260 : Int64).toInt = 260) (fun cd7 => ?_) (fun cd7 => ?_)
              · refine hw_ic (v := ((-1) : Int32)) (aX12_compares 41 rfl) (by decide) ?_
                refine xw_iret (aX12_compares 42 rfl) rfl rfl ?_
                have e8 : (((-1) : Int32)).toInt = (-1) := (by decide : ((-1) : Int32).toInt = (-1))
                exact ⟨((-1) : Int32), rfl, rfl, (by have : (((-1) : Int32)).toInt = (-1) := (by decide); omega), (by unfold hid; have : (((-1) : Int32)).toInt = (-1) := (by decide); omega), (by unfold hid; have : (((-1) : Int32)).toInt = (-1) := (by decide); omega)⟩
              · refine hw_bp (v := (42 : Int32)) (aX12_compares 39 rfl) (by decide) ?_
                refine xw_goto (tgt := 76) (aX12_compares 40 rfl) (by decide) ?_
                refine xw_iret (aX12_compares 42 rfl) rfl rfl ?_
                have e9 : ((42 : Int32)).toInt = 42 := (by decide : (42 : Int32).toInt = 42)
                exact ⟨(42 : Int32), rfl, rfl, (by have : ((42 : Int32)).toInt = 42 := (by decide); omega), (by unfold hid; have : ((42 : Int32)).toInt = 42 := (by decide); omega), (by unfold hid; have : ((42 : Int32)).toInt = 42 := (by decide); omega)⟩
            · refine hw_bp (v := (43 : Int32)) (aX12_compares 33 rfl) (by decide) ?_
              refine xw_iret (aX12_compares 34 rfl) rfl rfl ?_
              have e10 : ((43 : Int32)).toInt = 43 := (by decide : (43 : Int32).toInt = 43)
              exact ⟨(43 : Int32), rfl, rfl, (by have : ((43 : Int32)).toInt = 43 := (by decide); omega), (by unfold hid; have : ((43 : Int32)).toInt = 43 := (by decide); omega), (by unfold hid; have : ((43 : Int32)).toInt = 43 := (by decide); omega)⟩
          · refine hw_bp (v := (44 : Int32)) (aX12_compares 27 rfl) (by decide) ?_
            refine xw_iret (aX12_compares 28 rfl) rfl rfl ?_
            have e11 : ((44 : Int32)).toInt = 44 := (by decide : (44 : Int32).toInt = 44)
            exact ⟨(44 : Int32), rfl, rfl, (by have : ((44 : Int32)).toInt = 44 := (by decide); omega), (by unfold hid; have : ((44 : Int32)).toInt = 44 := (by decide); omega), (by unfold hid; have : ((44 : Int32)).toInt = 44 := (by decide); omega)⟩
        · refine hw_bp (v := (45 : Int32)) (aX12_compares 21 rfl) (by decide) ?_
          refine xw_iret (aX12_compares 22 rfl) rfl rfl ?_
          have e12 : ((45 : Int32)).toInt = 45 := (by decide : (45 : Int32).toInt = 45)
          exact ⟨(45 : Int32), rfl, rfl, (by have : ((45 : Int32)).toInt = 45 := (by decide); omega), (by unfold hid; have : ((45 : Int32)).toInt = 45 := (by decide); omega), (by unfold hid; have : ((45 : Int32)).toInt = 45 := (by decide); omega)⟩
      · refine hw_bp (v := (46 : Int32)) (aX12_compares 15 rfl) (by decide) ?_
        refine xw_iret (aX12_compares 16 rfl) rfl rfl ?_
        have e13 : ((46 : Int32)).toInt = 46 := (by decide : (46 : Int32).toInt = 46)
        exact ⟨(46 : Int32), rfl, rfl, (by have : ((46 : Int32)).toInt = 46 := (by decide); omega), (by unfold hid; have : ((46 : Int32)).toInt = 46 := (by decide); omega), (by unfold hid; have : ((46 : Int32)).toInt = 46 := (by decide); omega)⟩
    · refine hw_bp (v := (41 : Int32)) (aX12_compares 9 rfl) (by decide) ?_
      refine xw_iret (aX12_compares 10 rfl) rfl rfl ?_
      have e14 : ((41 : Int32)).toInt = 41 := (by decide : (41 : Int32).toInt = 41)
      exact ⟨(41 : Int32), rfl, rfl, (by have : ((41 : Int32)).toInt = 41 := (by decide); omega), (by unfold hid; have : ((41 : Int32)).toInt = 41 := (by decide); omega), (by unfold hid; have : ((41 : Int32)).toInt = 41 := (by decide); omega)⟩
  · refine hw_ic (v := ((-1) : Int32)) (aX12_compares 3 rfl) (by decide) ?_
    refine xw_iret (aX12_compares 4 rfl) rfl rfl ?_
    have e15 : (((-1) : Int32)).toInt = (-1) := (by decide : ((-1) : Int32).toInt = (-1))
    exact ⟨((-1) : Int32), rfl, rfl, (by have : (((-1) : Int32)).toInt = (-1) := (by decide); omega), (by unfold hid; have : (((-1) : Int32)).toInt = (-1) := (by decide); omega), (by unfold hid; have : (((-1) : Int32)).toInt = (-1) := (by decide); omega)⟩
set_option maxHeartbeats 4000000 in
set_option maxRecDepth 100000 in
theorem n_laterq {zk : xK} {base d n sl : Nat} {SH : Nat → Nat × Nat} {FI : Nat → Nat → Int32} {FL : Nat → Nat → Int64} {FR : Nat → Nat → Option Nat} (hS : h_S n SH) (hF : h_FR FR) (hI : g_I FI) (a1 : Int32) (g0 : (FI 121 90).toInt ≤ 255) : hw zk base d none 231 0 [(0, .ref (base + 121)), (1, .int (a1)), (2, .int (((-2) : Int32)))] [] (n, sl, SH, FI, FL, FR) (h_V (fun s => ∃ FI', s = (n, sl, SH, FI', FL, FR) ∧ g_I FI' ∧ g_fr n SH [(121, 90)] [165, 166] [] FI FI' ∧ ((FI' 121 90).toInt = (FI 121 90).toInt + 1) ∧ (FI' 166 = va_up (FI 166) (FI 121 90).toNatClampNeg (-2 : Int32)) ∧ (sk (FI' 166) (FI' 121 90).toInt.toNat = (-2 : Int) :: sk (FI 166) (FI 121 90).toInt.toNat))) := by
  have rg_a1 := i_rng a1
  obtain ⟨x1, h2⟩ : ∃ y, FI 121 90 = y := ⟨_, rfl⟩
  have h2l := congrArg Int32.toInt h2
  have b3 := gI_121_90 hI; rw [h2] at b3
  refine hw_aloadn (aX12_later 0 rfl) rfl ?_
  refine hw_get (v := .ref (base + 165)) (aX12_later 1 rfl) wf_RX12_154 (c121 hS) (s121 hS) (by decide) (congrArg (fun r => va_rf (h_rf base r)) (r121_86 hF)) ?_
  refine hw_aloadn (aX12_later 2 rfl) rfl ?_
  refine hw_get (v := .int (x1)) (aX12_later 3 rfl) wf_RX12_556 (c121 hS) (s121 hS) (by decide) (congrArg Value.int (show FI 121 90 = x1 from h2)) ?_
  refine xw_iloadn (aX12_later 4 rfl) rfl ?_
  refine hv_iast (k := (x1).toNatClampNeg) (aX12_later 5 rfl) (c165 hS) (s165 hS) (h_in rfl (by omega) (by omega)) rfl (fun FI4 u5 => ?_)
  have hI6 : g_I FI4 := gU_F hI u5 rfl
  refine hw_aloadn (aX12_later 6 rfl) rfl ?_
  refine hw_get (v := .ref (base + 166)) (aX12_later 7 rfl) wf_RX12_157 (c121 hS) (s121 hS) (by decide) (congrArg (fun r => va_rf (h_rf base r)) (r121_87 hF)) ?_
  refine hw_aloadn (aX12_later 8 rfl) rfl ?_
  refine hw_get (v := .int (x1)) (aX12_later 9 rfl) wf_RX12_556 (c121 hS) (s121 hS) (by decide) (congrArg Value.int (show FI4 121 90 = x1 from (up_c u5 (by decide) (h2)))) ?_
  refine xw_iloadn (aX12_later 10 rfl) rfl ?_
  refine hv_iast (k := (x1).toNatClampNeg) (aX12_later 11 rfl) (c166 hS) (s166 hS) (h_in rfl (by omega) (by omega)) rfl (fun FI7 u8 => ?_)
  have hI9 : g_I FI7 := gU_F hI6 u8 rfl
  refine hw_aloadn (aX12_later 12 rfl) rfl ?_
  refine hw_aloadn (aX12_later 13 rfl) rfl ?_
  refine hw_get (v := .int (x1)) (aX12_later 14 rfl) wf_RX12_556 (c121 hS) (s121 hS) (by decide) (congrArg Value.int (show FI7 121 90 = x1 from (up_c u8 (by decide) ((up_c u5 (by decide) (h2)))))) ?_
  refine hw_ic (v := (1 : Int32)) (aX12_later 15 rfl) (by decide) ?_
  refine xw_iadd (aX12_later 16 rfl) ?_
  refine hw_tie (A := ((x1).toInt) + (1)) (i_add rfl (by decide : (1 : Int32).toInt = 1) (by omega) (by omega)) (fun x10 e11 => ?_)
  refine hv_puti (aX12_later 17 rfl) wf_RX12_556 (c121 hS) (s121 hS) (by decide) rfl rfl (fun FI12 u13 => ?_)
  have hI14 : g_I FI12 := gU_121_90 hI9 u13 (by have := (e11 : (x10).toInt = ((x1).toInt) + (1)); omega) (by have := (e11 : (x10).toInt = ((x1).toInt) + (1)); omega)
  refine xw_vret (aX12_later 18 rfl) rfl ?_
  exact ⟨rfl, FI12, rfl, hI14, (gf_f (gf_a (gf_a gf_rf u5 (by decide)) u8 (by decide)) u13 (by decide)), (by have := congrArg Int32.toInt (show FI12 121 90 = x10 from up_eq u13); have := (e11 : (x10).toInt = ((x1).toInt) + (1)); omega), (by rw [show FI 121 90 = x1 from h2]; exact (up_row u13 (by decide) ((up_va u8 ((up_row u5 (by decide) (rfl))))))), (by have z0 := congrArg Int32.toInt (show FI12 121 90 = x10 from up_eq u13); have := (e11 : (x10).toInt = ((x1).toInt) + (1)); rw [show FI12 166 = va_up (FI 166) ((x1).toNatClampNeg) (((-2) : Int32)) from (up_row u13 (by decide) ((up_va u8 ((up_row u5 (by decide) (rfl)))))), show FI 121 90 = x1 from h2]; exact sk_push2 (by omega) (by omega))⟩
set_option maxHeartbeats 4000000 in
set_option maxRecDepth 100000 in
theorem n_later {zk : xK} {base d n sl : Nat} {SH : Nat → Nat × Nat} {FI : Nat → Nat → Int32} {FL : Nat → Nat → Int64} {FR : Nat → Nat → Option Nat} (hS : h_S n SH) (hF : h_FR FR) (hI : g_I FI) (a1 : Int32) (a2 : Int32) (g0 : (FI 121 90).toInt ≤ 255) (g1 : (a2).toInt ≠ -2 ∧ (a2).toInt ≠ -3) (rel_pm : rl_pm (FI 121 90) (FI 121 73) (FI 166) (FI 167) (FI 168)) : hw zk base d none 231 0 [(0, .ref (base + 121)), (1, .int (a1)), (2, .int (a2))] [] (n, sl, SH, FI, FL, FR) (h_V (fun s => ∃ FI', s = (n, sl, SH, FI', FL, FR) ∧ g_I FI' ∧ g_fr n SH [(121, 90)] [165, 166] [] FI FI' ∧ ((FI' 121 90).toInt = (FI 121 90).toInt + 1) ∧ (FI' 166 = va_up (FI 166) (FI 121 90).toNatClampNeg a2) ∧ (sk (FI' 166) (FI' 121 90).toInt.toNat = (a2).toInt :: sk (FI 166) (FI 121 90).toInt.toNat) ∧ (rl_pm (FI' 121 90) (FI' 121 73) (FI' 166) (FI' 167) (FI' 168)))) := by
  have rg_a1 := i_rng a1
  have rg_a2 := i_rng a2
  obtain ⟨x1, h2⟩ : ∃ y, FI 121 90 = y := ⟨_, rfl⟩
  have h2l := congrArg Int32.toInt h2
  have b3 := gI_121_90 hI; rw [h2] at b3
  obtain ⟨x4, h5⟩ : ∃ y, FI 121 73 = y := ⟨_, rfl⟩
  have h5l := congrArg Int32.toInt h5
  have b6 := gI_121_73 hI; rw [h5] at b6
  refine hw_aloadn (aX12_later 0 rfl) rfl ?_
  refine hw_get (v := .ref (base + 165)) (aX12_later 1 rfl) wf_RX12_154 (c121 hS) (s121 hS) (by decide) (congrArg (fun r => va_rf (h_rf base r)) (r121_86 hF)) ?_
  refine hw_aloadn (aX12_later 2 rfl) rfl ?_
  refine hw_get (v := .int (x1)) (aX12_later 3 rfl) wf_RX12_556 (c121 hS) (s121 hS) (by decide) (congrArg Value.int (show FI 121 90 = x1 from h2)) ?_
  refine xw_iloadn (aX12_later 4 rfl) rfl ?_
  refine hv_iast (k := (x1).toNatClampNeg) (aX12_later 5 rfl) (c165 hS) (s165 hS) (h_in rfl (by omega) (by omega)) rfl (fun FI7 u8 => ?_)
  have rl9 : rl_pm (FI7 121 90) (FI7 121 73) (FI7 166) (FI7 167) (FI7 168) := by rw [show FI7 166 = FI 166 from up_row u8 (by decide) rfl, show FI7 167 = FI 167 from up_row u8 (by decide) rfl, show FI7 168 = FI 168 from up_row u8 (by decide) rfl, show FI7 121 90 = FI 121 90 from up_c u8 (by decide) rfl, show FI7 121 73 = FI 121 73 from up_c u8 (by decide) rfl]; exact rel_pm
  have hI10 : g_I FI7 := gU_F hI u8 rfl
  refine hw_aloadn (aX12_later 6 rfl) rfl ?_
  refine hw_get (v := .ref (base + 166)) (aX12_later 7 rfl) wf_RX12_157 (c121 hS) (s121 hS) (by decide) (congrArg (fun r => va_rf (h_rf base r)) (r121_87 hF)) ?_
  refine hw_aloadn (aX12_later 8 rfl) rfl ?_
  refine hw_get (v := .int (x1)) (aX12_later 9 rfl) wf_RX12_556 (c121 hS) (s121 hS) (by decide) (congrArg Value.int (show FI7 121 90 = x1 from (up_c u8 (by decide) (h2)))) ?_
  refine xw_iloadn (aX12_later 10 rfl) rfl ?_
  refine hv_iast (k := (x1).toNatClampNeg) (aX12_later 11 rfl) (c166 hS) (s166 hS) (h_in rfl (by omega) (by omega)) rfl (fun FI11 u12 => ?_)
  have hI13 : g_I FI11 := gU_F hI10 u12 rfl
  refine hw_aloadn (aX12_later 12 rfl) rfl ?_
  refine hw_aloadn (aX12_later 13 rfl) rfl ?_
  refine hw_get (v := .int (x1)) (aX12_later 14 rfl) wf_RX12_556 (c121 hS) (s121 hS) (by decide) (congrArg Value.int (show FI11 121 90 = x1 from (up_c u12 (by decide) ((up_c u8 (by decide) (h2)))))) ?_
  refine hw_ic (v := (1 : Int32)) (aX12_later 15 rfl) (by decide) ?_
  refine xw_iadd (aX12_later 16 rfl) ?_
  refine hw_tie (A := ((x1).toInt) + (1)) (i_add rfl (by decide : (1 : Int32).toInt = 1) (by omega) (by omega)) (fun x14 e15 => ?_)
  refine hv_puti (aX12_later 17 rfl) wf_RX12_556 (c121 hS) (s121 hS) (by decide) rfl rfl (fun FI16 u17 => ?_)
  have hI18 : g_I FI16 := gU_121_90 hI13 u17 (by have := (e15 : (x14).toInt = ((x1).toInt) + (1)); omega) (by have := (e15 : (x14).toInt = ((x1).toInt) + (1)); omega)
  have rl19 : rl_pm (FI16 121 90) (FI16 121 73) (FI16 166) (FI16 167) (FI16 168) := by have z0 := congrArg Int32.toInt (show FI16 121 90 = x14 from up_eq u17); have := (e15 : (x14).toInt = ((x1).toInt) + (1)); have z1 := congrArg Int32.toInt (show FI 121 90 = x1 from h2); have := rel_pm; rw [show FI 121 90 = x1 from h2, show FI 121 73 = x4 from h5] at this; rw [show FI16 166 = va_up (FI 166) ((x1).toNatClampNeg) (a2) from (up_row u17 (by decide) ((up_va u12 ((up_row u8 (by decide) (rfl)))))), show FI16 167 = FI 167 from (up_row u17 (by decide) ((up_row u12 (by decide) ((up_row u8 (by decide) (rfl)))))), show FI16 168 = FI 168 from (up_row u17 (by decide) ((up_row u12 (by decide) ((up_row u8 (by decide) (rfl)))))), show FI16 121 73 = x4 from (up_k u17 (by decide) ((up_c u12 (by decide) ((up_c u8 (by decide) (h5)))))), show FI16 121 90 = x14 from up_eq u17]; exact rl_pm_push this (by omega) (by omega) (by omega)
  refine xw_vret (aX12_later 18 rfl) rfl ?_
  exact ⟨rfl, FI16, rfl, hI18, (gf_f (gf_a (gf_a gf_rf u8 (by decide)) u12 (by decide)) u17 (by decide)), (by have := congrArg Int32.toInt (show FI16 121 90 = x14 from up_eq u17); have := (e15 : (x14).toInt = ((x1).toInt) + (1)); omega), (by rw [show FI 121 90 = x1 from h2]; exact (up_row u17 (by decide) ((up_va u12 ((up_row u8 (by decide) (rfl))))))), (by have z0 := congrArg Int32.toInt (show FI16 121 90 = x14 from up_eq u17); have := (e15 : (x14).toInt = ((x1).toInt) + (1)); rw [show FI16 166 = va_up (FI 166) ((x1).toNatClampNeg) (a2) from (up_row u17 (by decide) ((up_va u12 ((up_row u8 (by decide) (rfl)))))), show FI 121 90 = x1 from h2]; exact sk_push2 (by omega) (by omega)), (show rl_pm (FI16 121 90) (FI16 121 73) (FI16 166) (FI16 167) (FI16 168) from rl19)⟩
set_option maxHeartbeats 4000000 in
set_option maxRecDepth 100000 in
theorem n_tops {zk : xK} {base d n sl : Nat} {SH : Nat → Nat × Nat} {FI : Nat → Nat → Int32} {FL : Nat → Nat → Int64} {FR : Nat → Nat → Option Nat} (hS : h_S n SH) (hF : h_FR FR) (hI : g_I FI) : hw zk base d none 232 0 [(0, .ref (base + 121))] [] (n, sl, SH, FI, FL, FR) (h_I (fun r s => s = (n, sl, SH, FI, FL, FR) ∧ ((FI 121 90).toInt = 0 → r.toInt = -11) ∧ (1 ≤ (FI 121 90).toInt → sk (FI 166) (FI 121 90).toInt.toNat = r.toInt :: sk (FI 166) ((FI 121 90).toInt - 1).toNat) ∧ (1 ≤ (FI 121 90).toInt → FI 166 ((FI 121 90).toInt - 1).toNat = r))) := by
  obtain ⟨x1, h2⟩ : ∃ y, FI 121 90 = y := ⟨_, rfl⟩
  have h2l := congrArg Int32.toInt h2
  have b3 := gI_121_90 hI; rw [h2] at b3
  refine hw_aloadn (aX12_tops 0 rfl) rfl ?_
  refine hw_get (v := .int (x1)) (aX12_tops 1 rfl) wf_RX12_556 (c121 hS) (s121 hS) (by decide) (congrArg Value.int (show FI 121 90 = x1 from h2)) ?_
  refine hw_ifne (tgt := 12) (aX12_tops 2 rfl) (by decide) rfl (fun cd4 => ?_) (fun cd4 => ?_)
  · refine hw_aloadn (aX12_tops 5 rfl) rfl ?_
    refine hw_get (v := .ref (base + 166)) (aX12_tops 6 rfl) wf_RX12_157 (c121 hS) (s121 hS) (by decide) (congrArg (fun r => va_rf (h_rf base r)) (r121_87 hF)) ?_
    refine hw_aloadn (aX12_tops 7 rfl) rfl ?_
    refine hw_get (v := .int (x1)) (aX12_tops 8 rfl) wf_RX12_556 (c121 hS) (s121 hS) (by decide) (congrArg Value.int (show FI 121 90 = x1 from h2)) ?_
    refine hw_ic (v := (1 : Int32)) (aX12_tops 9 rfl) (by decide) ?_
    refine xw_isub (aX12_tops 10 rfl) ?_
    refine hw_tie (A := ((x1).toInt) - (1)) (i_sub rfl (by decide : (1 : Int32).toInt = 1) (by omega) (by omega)) (fun x5 e6 => ?_)
    obtain ⟨x7, h8⟩ : ∃ y, FI 166 (x5).toNatClampNeg = y := ⟨_, rfl⟩
    have h8l := congrArg Int32.toInt h8
    have := i_rng x7
    refine hw_iald (v := x7) (aX12_tops 11 rfl) (c166 hS) (s166 hS) (h_in e6 (by omega) (by omega)) (show FI 166 (x5).toNatClampNeg = x7 from h8) ?_
    refine xw_iret (aX12_tops 12 rfl) rfl rfl ?_
    exact ⟨x7, rfl, rfl, (by omega), (by exact fun hh => by rw [sk_pop (i := x5) hh (by omega), show FI 166 (x5).toNatClampNeg = x7 from h8]), (by exact fun hh => by rw [← i_cl (x := x5) (A := (FI 121 90).toInt - 1) (by omega)]; exact h8)⟩
  · refine hw_bp (v := ((-11) : Int32)) (aX12_tops 3 rfl) (by decide) ?_
    refine xw_goto (tgt := 23) (aX12_tops 4 rfl) (by decide) ?_
    refine xw_iret (aX12_tops 12 rfl) rfl rfl ?_
    have e9 : (((-11) : Int32)).toInt = (-11) := (by decide : ((-11) : Int32).toInt = (-11))
    exact ⟨((-11) : Int32), rfl, rfl, (by have : (((-11) : Int32)).toInt = (-11) := (by decide); omega), (by exact fun h => absurd h (by omega)), (by exact fun h => absurd h (by omega))⟩
def nX12_finished : Nat := 0xb1d6ffa73302b62e2c02b42a9a00b42a2aea01b56404ea01b42a2a2c02b564042c02b42a2a2700a009102f02b62a
theorem bX12_finished : cX12_finished.data.toList.map UInt8.toNat = x_un nX12_finished 46 := by decide +kernel
def iX12_finished : List (Nat × Jvm.ClassFile.Instr × Nat) := [(0, .aload_n 0, 1), (1, .invokevirtual 559, 3), (4, .bipush 9, 2), (6, .if_icmp .ne 39, 3), (9, .aload_n 0, 1), (10, .aload_n 0, 1), (11, .getfield 556, 3), (14, .iconst 1, 1), (15, .isub, 1), (16, .putfield 556, 3), (19, .aload_n 0, 1), (20, .aload_n 0, 1), (21, .getfield 490, 3), (24, .iconst 1, 1), (25, .isub, 1), (26, .putfield 490, 3), (29, .aload_n 0, 1), (30, .aload_n 0, 1), (31, .getfield 154, 3), (34, .aload_n 0, 1), (35, .getfield 556, 3), (38, .iaload, 1), (39, .invokevirtual 563, 3), (42, .goto (-42), 3), (45, .return_, 1)]
theorem dX12_finished : x_il nX12_finished 46 iX12_finished = true := by decide +kernel
theorem aX12_finished (k : Nat) {pc : Nat} {i : Jvm.ClassFile.Instr} {len : Nat} (hk : iX12_finished[k]? = some (pc, i, len)) : x_at xMM 234 pc i len yX12_finished 1 none := ⟨cX12_finished, rfl, x_il_ok bX12_finished dX12_finished k hk⟩
set_option maxHeartbeats 4000000 in
set_option maxRecDepth 100000 in
theorem n_finished {zk : xK} {base d n sl : Nat} {SH : Nat → Nat × Nat} {FI : Nat → Nat → Int32} {FL : Nat → Nat → Int64} {FR : Nat → Nat → Option Nat} (hS : h_S n SH) (hF : h_FR FR) (hI : g_I FI) (g0 : (FI 121 73).toInt + 4 * (FI 121 90).toInt ≤ 28000) (g1 : -300 ≤ (FI 121 71).toInt ∧ (FI 121 71).toInt ≤ 100) (rel_pm : rl_pm (FI 121 90) (FI 121 73) (FI 166) (FI 167) (FI 168)) : hw zk base (d + 2) none 234 0 [(0, .ref (base + 121))] [] (n, sl, SH, FI, FL, FR) (h_V (fun s => ∃ FI', s = (n, sl, SH, FI', FL, FR) ∧ g_I FI' ∧ g_fr n SH [(121, 71), (121, 73), (121, 90)] [154] [] FI FI' ∧ ((FI' 121 90).toInt ≤ (FI 121 90).toInt) ∧ ((FI' 121 73).toInt + 4 * (FI' 121 90).toInt ≤ (FI 121 73).toInt + 4 * (FI 121 90).toInt) ∧ ((FI 121 73).toInt ≤ (FI' 121 73).toInt) ∧ ((FI' 121 71).toInt - (FI 121 71).toInt = (FI' 121 90).toInt - (FI 121 90).toInt) ∧ (sk (FI 166) (FI' 121 90).toInt.toNat = au_fin (sk (FI 166) (FI 121 90).toInt.toNat)) ∧ (rl_pm (FI' 121 90) (FI' 121 73) (FI' 166) (FI' 167) (FI' 168)))) := by
  obtain ⟨x1, h2⟩ : ∃ y, FI 121 73 = y := ⟨_, rfl⟩
  have h2l := congrArg Int32.toInt h2
  have b3 := gI_121_73 hI; rw [h2] at b3
  obtain ⟨x4, h5⟩ : ∃ y, FI 121 90 = y := ⟨_, rfl⟩
  have h5l := congrArg Int32.toInt h5
  have b6 := gI_121_90 hI; rw [h5] at b6
  obtain ⟨x7, h8⟩ : ∃ y, FI 121 71 = y := ⟨_, rfl⟩
  have h8l := congrArg Int32.toInt h8
  have := i_rng x7
  have lp20 : ∀ (m : Nat) (FIv9 : Nat → Nat → Int32), (g_fr n SH [(121, 71), (121, 73), (121, 90)] [154] [] FI FIv9) → (g_I FIv9) → (rl_pm (FIv9 121 90) (FIv9 121 73) (FIv9 166) (FIv9 167) (FIv9 168)) → (-600 ≤ (FIv9 121 71).toInt ∧ (FIv9 121 71).toInt ≤ 100) → (0 ≤ (FIv9 121 90).toInt ∧ (FIv9 121 90).toInt ≤ 256) → ((FIv9 121 90).toInt ≤ (FI 121 90).toInt) → ((FIv9 121 73).toInt + 4 * (FIv9 121 90).toInt ≤ (FI 121 73).toInt + 4 * (FI 121 90).toInt) → ((FI 121 73).toInt ≤ (FIv9 121 73).toInt) → ((FIv9 121 71).toInt - (FI 121 71).toInt = (FIv9 121 90).toInt - (FI 121 90).toInt) → (au_fin (sk (FI 166) ((FIv9 121 90).toInt).toNat) = au_fin (sk (FI 166) (FI 121 90).toInt.toNat)) → (FIv9 166 = FI 166) → (FIv9 121 90).toInt < m → hw zk base (d + 2) none 234 0 [(0, .ref (base + 121))] [] (n, sl, SH, FIv9, FL, FR) (h_V (fun s => ∃ FI', s = (n, sl, SH, FI', FL, FR) ∧ g_I FI' ∧ g_fr n SH [(121, 71), (121, 73), (121, 90)] [154] [] FI FI' ∧ ((FI' 121 90).toInt ≤ (FI 121 90).toInt) ∧ ((FI' 121 73).toInt + 4 * (FI' 121 90).toInt ≤ (FI 121 73).toInt + 4 * (FI 121 90).toInt) ∧ ((FI 121 73).toInt ≤ (FI' 121 73).toInt) ∧ ((FI' 121 71).toInt - (FI 121 71).toInt = (FI' 121 90).toInt - (FI 121 90).toInt) ∧ (sk (FI 166) (FI' 121 90).toInt.toNat = au_fin (sk (FI 166) (FI 121 90).toInt.toNat)) ∧ (rl_pm (FI' 121 90) (FI' 121 73) (FI' 166) (FI' 167) (FI' 168)))) := by
    intro m
    induction m with
    | zero => intro FIv9 fr10 hI11 rl12 iv13 iv14 iv15 iv16 iv17 iv18 xi0_0 rw19 hm; omega
    | succ m ih =>
      intro FIv9 fr10 hI11 rl12 iv13 iv14 iv15 iv16 iv17 iv18 xi0_0 rw19 hm
      obtain ⟨x21, h22⟩ : ∃ y, FIv9 121 71 = y := ⟨_, rfl⟩
      have h22l := congrArg Int32.toInt h22
      have := i_rng x21
      obtain ⟨x23, h24⟩ : ∃ y, FIv9 121 90 = y := ⟨_, rfl⟩
      have h24l := congrArg Int32.toInt h24
      have b25 := gI_121_90 hI11; rw [h24] at b25
      obtain ⟨x26, h27⟩ : ∃ y, FIv9 121 73 = y := ⟨_, rfl⟩
      have h27l := congrArg Int32.toInt h27
      have b28 := gI_121_73 hI11; rw [h27] at b28
      refine hw_aloadn (aX12_finished 0 rfl) rfl ?_
      refine hw_callV (Bs := []) (rest := []) (aX12_finished 1 rfl) wc_RX12_559 (by decide) rfl wi_yX12_tops wv_yX12_tops (c121 hS) (s121 hS) rfl rfl rfl (Nat.le_of_ble_eq_true rfl) (Nat.le_of_ble_eq_true rfl) (n_tops (d := d + 1) hS hF hI11 ) (fun v29 sv30 p31 => ?_)
      have := congrArg Int32.toInt (show FIv9 121 90 = x23 from h24)
      obtain ⟨r32, rfl, rfl, t34, u35, u36⟩ := p31
      have rg_r32 := i_rng r32
      show hw zk base _ _ _ _ _ [.int (r32)] _ _
      refine hw_bp (v := (9 : Int32)) (aX12_finished 2 rfl) (by decide) ?_
      refine hw_icne (tgt := 45) (aX12_finished 3 rfl) (by decide) rfl (by decide : (9 : Int32).toInt = 9) (fun cd37 => ?_) (fun cd37 => ?_)
      · refine xw_vret (aX12_finished 24 rfl) rfl ?_
        exact ⟨rfl, FIv9, rfl, hI11, fr10, (by have := congrArg Int32.toInt (show FIv9 121 90 = x23 from h24); omega), (by have := congrArg Int32.toInt (show FIv9 121 73 = x26 from h27); have := congrArg Int32.toInt (show FIv9 121 90 = x23 from h24); omega), (by have := congrArg Int32.toInt (show FIv9 121 73 = x26 from h27); omega), (by have := congrArg Int32.toInt (show FIv9 121 71 = x21 from h22); have := congrArg Int32.toInt (show FIv9 121 90 = x23 from h24); omega), (by have hi := xi0_0; rw [show FIv9 121 90 = x23 from h24] at hi; rw [show FIv9 121 90 = x23 from h24]; rcases Int.lt_or_le 0 (x23).toInt with h0 | h0; { have hh := u35 (by omega); rw [show FIv9 166 = FI 166 from rw19, show FIv9 121 90 = x23 from h24] at hh; rw [hh, au_fin_stop (by omega)] at hi; rw [← hi, ← hh] }; { rw [show (x23).toInt.toNat = 0 by omega] at hi ⊢; exact hi }), (show rl_pm (FIv9 121 90) (FIv9 121 73) (FIv9 166) (FIv9 167) (FIv9 168) from rl12)⟩
      · refine hw_aloadn (aX12_finished 4 rfl) rfl ?_
        refine hw_aloadn (aX12_finished 5 rfl) rfl ?_
        refine hw_get (v := .int (x23)) (aX12_finished 6 rfl) wf_RX12_556 (c121 hS) (s121 hS) (by decide) (congrArg Value.int (show FIv9 121 90 = x23 from h24)) ?_
        refine hw_ic (v := (1 : Int32)) (aX12_finished 7 rfl) (by decide) ?_
        refine xw_isub (aX12_finished 8 rfl) ?_
        refine hw_tie (A := ((x23).toInt) - (1)) (i_sub rfl (by decide : (1 : Int32).toInt = 1) (by omega) (by omega)) (fun x38 e39 => ?_)
        refine hv_puti (aX12_finished 9 rfl) wf_RX12_556 (c121 hS) (s121 hS) (by decide) rfl rfl (fun FI40 u41 => ?_)
        have rl42 : rl_pm (FI40 121 90) (FI40 121 73) (FI40 166) (FI40 167) (FI40 168) := by have z0 := congrArg Int32.toInt (show FIv9 121 90 = x23 from h24); have z1 := congrArg Int32.toInt (show FI40 121 90 = x38 from up_eq u41); have := (e39 : (x38).toInt = ((x23).toInt) - (1)); rw [show FI40 166 = FIv9 166 from up_row u41 (by decide) rfl, show FI40 167 = FIv9 167 from up_row u41 (by decide) rfl, show FI40 168 = FIv9 168 from up_row u41 (by decide) rfl, show FI40 121 73 = FIv9 121 73 from up_k u41 (by decide) rfl]; exact rl_pm_mono rl12 (by omega) (by omega)
        have hI43 : g_I FI40 := gU_121_90 hI11 u41 (by have := (e39 : (x38).toInt = ((x23).toInt) - (1)); omega) (by have := (e39 : (x38).toInt = ((x23).toInt) - (1)); omega)
        refine hw_aloadn (aX12_finished 10 rfl) rfl ?_
        refine hw_aloadn (aX12_finished 11 rfl) rfl ?_
        refine hw_get (v := .int (x21)) (aX12_finished 12 rfl) wf_RX12_490 (c121 hS) (s121 hS) (by decide) (congrArg Value.int (show FI40 121 71 = x21 from (up_k u41 (by decide) (h22)))) ?_
        refine hw_ic (v := (1 : Int32)) (aX12_finished 13 rfl) (by decide) ?_
        refine xw_isub (aX12_finished 14 rfl) ?_
        refine hw_tie (A := ((x21).toInt) - (1)) (i_sub rfl (by decide : (1 : Int32).toInt = 1) (by omega) (by omega)) (fun x44 e45 => ?_)
        refine hv_puti (aX12_finished 15 rfl) wf_RX12_490 (c121 hS) (s121 hS) (by decide) rfl rfl (fun FI46 u47 => ?_)
        have rl48 : rl_pm (FI46 121 90) (FI46 121 73) (FI46 166) (FI46 167) (FI46 168) := by rw [show FI46 166 = FI40 166 from up_row u47 (by decide) rfl, show FI46 167 = FI40 167 from up_row u47 (by decide) rfl, show FI46 168 = FI40 168 from up_row u47 (by decide) rfl, show FI46 121 90 = FI40 121 90 from up_k u47 (by decide) rfl, show FI46 121 73 = FI40 121 73 from up_k u47 (by decide) rfl]; exact rl42
        have hI49 : g_I FI46 := gU_F hI43 u47 rfl
        refine hw_aloadn (aX12_finished 16 rfl) rfl ?_
        refine hw_aloadn (aX12_finished 17 rfl) rfl ?_
        refine hw_get (v := .ref (base + 165)) (aX12_finished 18 rfl) wf_RX12_154 (c121 hS) (s121 hS) (by decide) (congrArg (fun r => va_rf (h_rf base r)) (r121_86 hF)) ?_
        refine hw_aloadn (aX12_finished 19 rfl) rfl ?_
        refine hw_get (v := .int (x38)) (aX12_finished 20 rfl) wf_RX12_556 (c121 hS) (s121 hS) (by decide) (congrArg Value.int (show FI46 121 90 = x38 from (up_k u47 (by decide) (up_eq u41)))) ?_
        obtain ⟨x50, h51⟩ : ∃ y, FI46 165 (x38).toNatClampNeg = y := ⟨_, rfl⟩
        have h51l := congrArg Int32.toInt h51
        have := i_rng x50
        refine hw_iald (v := x50) (aX12_finished 21 rfl) (c165 hS) (s165 hS) (h_in e39 (by omega) (by omega)) (show FI46 165 (x38).toNatClampNeg = x50 from h51) ?_
        refine hw_callV (Bs := [.int (x50)]) (rest := []) (aX12_finished 22 rfl) wc_RX12_563 (by decide) rfl wi_yX12_emitted wv_yX12_emitted (c121 hS) (s121 hS) rfl rfl rfl (Nat.le_of_ble_eq_true rfl) (Nat.le_of_ble_eq_true rfl) (n_emitted (d := d) hS hF hI49 (x50) (by have := congrArg Int32.toInt (show FI46 121 73 = x26 from (up_k u47 (by decide) ((up_k u41 (by decide) (h27))))); omega) (show rl_pm (FI46 121 90) (FI46 121 73) (FI46 166) (FI46 167) (FI46 168) from rl48)) (fun v52 sv53 p54 => ?_)
        have := congrArg Int32.toInt (show FI46 121 73 = x26 from (up_k u47 (by decide) ((up_k u41 (by decide) (h27)))))
        have := congrArg Int32.toInt (show FI46 121 73 = x26 from (up_k u47 (by decide) ((up_k u41 (by decide) (h27)))))
        obtain ⟨rfl, FI56, rfl, hI57, f58, t59, t60, rl61⟩ := p54
        obtain ⟨x62, h63⟩ : ∃ y, FI56 121 73 = y := ⟨_, rfl⟩
        have h63l := congrArg Int32.toInt h63
        have b64 := gI_121_73 hI57; rw [h63] at b64
        show hw zk base _ _ _ _ _ [] _ _
        refine xw_goto (tgt := 0) (aX12_finished 23 rfl) (by decide) ?_
        exact hw_L (ih FI56 (gf_tr ex_rf (gf_f (gf_f fr10 u41 (by decide)) u47 (by decide)) f58 rfl rfl rfl) hI57 (show rl_pm (FI56 121 90) (FI56 121 73) (FI56 166) (FI56 167) (FI56 168) from rl61) (by have := congrArg Int32.toInt (show FI56 121 71 = x44 from (gf_at f58 (c121 hS) (s121 hS) rfl (up_eq u47))); have := (e45 : (x44).toInt = ((x21).toInt) - (1)); omega) (by have := congrArg Int32.toInt (show FI56 121 90 = x38 from (gf_at f58 (c121 hS) (s121 hS) rfl ((up_k u47 (by decide) (up_eq u41))))); have := (e39 : (x38).toInt = ((x23).toInt) - (1)); omega) (by have := congrArg Int32.toInt (show FI56 121 90 = x38 from (gf_at f58 (c121 hS) (s121 hS) rfl ((up_k u47 (by decide) (up_eq u41))))); have := (e39 : (x38).toInt = ((x23).toInt) - (1)); omega) (by have := congrArg Int32.toInt (show FI56 121 73 = x62 from h63); have := congrArg Int32.toInt (show FI56 121 90 = x38 from (gf_at f58 (c121 hS) (s121 hS) rfl ((up_k u47 (by decide) (up_eq u41))))); have := (e39 : (x38).toInt = ((x23).toInt) - (1)); omega) (by have := congrArg Int32.toInt (show FI56 121 73 = x62 from h63); omega) (by have := congrArg Int32.toInt (show FI56 121 71 = x44 from (gf_at f58 (c121 hS) (s121 hS) rfl (up_eq u47))); have := (e45 : (x44).toInt = ((x21).toInt) - (1)); have := congrArg Int32.toInt (show FI56 121 90 = x38 from (gf_at f58 (c121 hS) (s121 hS) rfl ((up_k u47 (by decide) (up_eq u41))))); have := (e39 : (x38).toInt = ((x23).toInt) - (1)); omega) (show au_fin (sk (FI 166) ((FI56 121 90).toInt).toNat) = au_fin (sk (FI 166) (FI 121 90).toInt.toNat) from (by have := congrArg Int32.toInt (show FI56 121 90 = x38 from (gf_at f58 (c121 hS) (s121 hS) rfl ((up_k u47 (by decide) (up_eq u41))))); have := (e39 : (x38).toInt = ((x23).toInt) - (1)); exact (by have hh := u35 (by omega); rw [show FIv9 166 = FI 166 from rw19, show FIv9 121 90 = x23 from h24] at hh; have hi := xi0_0; rw [show FIv9 121 90 = x23 from h24, hh, show (r32).toInt = 9 by omega, au_fin_pop] at hi; rw [show ((FI56 121 90).toInt : Int) = (x23).toInt - 1 by omega]; exact hi))) (show FI56 166 = FI 166 from (gf_row f58 (c166 hS) (s166 hS) rfl ((up_row u47 (by decide) ((up_row u41 (by decide) (rw19))))))) (by have := congrArg Int32.toInt (show FI56 121 90 = x38 from (gf_at f58 (c121 hS) (s121 hS) rfl ((up_k u47 (by decide) (up_eq u41))))); have := (e39 : (x38).toInt = ((x23).toInt) - (1)); omega)) ⟨rfl, trivial⟩
  exact hw_L (lp20 (((x4).toInt : Int).toNat + 1) FI gf_rf hI (show rl_pm (FI 121 90) (FI 121 73) (FI 166) (FI 167) (FI 168) from rel_pm) (by have := congrArg Int32.toInt (show FI 121 71 = x7 from h8); omega) (by have := congrArg Int32.toInt (show FI 121 90 = x4 from h5); omega) (by have := congrArg Int32.toInt (show FI 121 90 = x4 from h5); omega) (by have := congrArg Int32.toInt (show FI 121 73 = x1 from h2); have := congrArg Int32.toInt (show FI 121 90 = x4 from h5); omega) (by have := congrArg Int32.toInt (show FI 121 73 = x1 from h2); omega) (by have := congrArg Int32.toInt (show FI 121 71 = x7 from h8); have := congrArg Int32.toInt (show FI 121 90 = x4 from h5); omega) (show au_fin (sk (FI 166) ((FI 121 90).toInt).toNat) = au_fin (sk (FI 166) (FI 121 90).toInt.toNat) from (by have := congrArg Int32.toInt (show FI 121 90 = x4 from h5); exact rfl)) (show FI 166 = FI 166 from rfl) (by have := congrArg Int32.toInt (show FI 121 90 = x4 from h5); omega)) ⟨rfl, trivial⟩
def nX12_reduced : Nat := 0xb1e1ffa7f001b62e2c02b42a9a00b42a2a2c02b564042c02b42a2a1d00a11b2f02b62a
theorem bX12_reduced : cX12_reduced.data.toList.map UInt8.toNat = x_un nX12_reduced 35 := by decide +kernel
def iX12_reduced : List (Nat × Jvm.ClassFile.Instr × Nat) := [(0, .aload_n 0, 1), (1, .invokevirtual 559, 3), (4, .iload_n 1, 1), (5, .if_icmp .lt 29, 3), (8, .aload_n 0, 1), (9, .aload_n 0, 1), (10, .getfield 556, 3), (13, .iconst 1, 1), (14, .isub, 1), (15, .putfield 556, 3), (18, .aload_n 0, 1), (19, .aload_n 0, 1), (20, .getfield 154, 3), (23, .aload_n 0, 1), (24, .getfield 556, 3), (27, .iaload, 1), (28, .invokevirtual 496, 3), (31, .goto (-31), 3), (34, .return_, 1)]
theorem dX12_reduced : x_il nX12_reduced 35 iX12_reduced = true := by decide +kernel
theorem aX12_reduced (k : Nat) {pc : Nat} {i : Jvm.ClassFile.Instr} {len : Nat} (hk : iX12_reduced[k]? = some (pc, i, len)) : x_at xMM 235 pc i len yX12_reduced 2 none := ⟨cX12_reduced, rfl, x_il_ok bX12_reduced dX12_reduced k hk⟩
set_option maxHeartbeats 4000000 in
set_option maxRecDepth 100000 in
theorem n_reduced {zk : xK} {base d n sl : Nat} {SH : Nat → Nat × Nat} {FI : Nat → Nat → Int32} {FL : Nat → Nat → Int64} {FR : Nat → Nat → Option Nat} (hS : h_S n SH) (hF : h_FR FR) (hI : g_I FI) (a1 : Int32) (g0 : (FI 121 73).toInt + 4 * (FI 121 90).toInt ≤ 28000) (g1 : 1 ≤ (a1).toInt ∧ (a1).toInt ≤ 7) (rel_pm : rl_pm (FI 121 90) (FI 121 73) (FI 166) (FI 167) (FI 168)) : hw zk base (d + 1) none 235 0 [(0, .ref (base + 121)), (1, .int (a1))] [] (n, sl, SH, FI, FL, FR) (h_V (fun s => ∃ FI', s = (n, sl, SH, FI', FL, FR) ∧ g_I FI' ∧ g_fr n SH [(121, 73), (121, 90)] [154] [] FI FI' ∧ ((FI' 121 90).toInt ≤ (FI 121 90).toInt) ∧ ((FI' 121 73).toInt + 4 * (FI' 121 90).toInt ≤ (FI 121 73).toInt + 4 * (FI 121 90).toInt) ∧ ((FI 121 73).toInt ≤ (FI' 121 73).toInt) ∧ (sk (FI 166) (FI' 121 90).toInt.toNat = au_red (a1).toInt (sk (FI 166) (FI 121 90).toInt.toNat)) ∧ (rl_pm (FI' 121 90) (FI' 121 73) (FI' 166) (FI' 167) (FI' 168)))) := by
  have rg_a1 := i_rng a1
  obtain ⟨x1, h2⟩ : ∃ y, FI 121 73 = y := ⟨_, rfl⟩
  have h2l := congrArg Int32.toInt h2
  have b3 := gI_121_73 hI; rw [h2] at b3
  obtain ⟨x4, h5⟩ : ∃ y, FI 121 90 = y := ⟨_, rfl⟩
  have h5l := congrArg Int32.toInt h5
  have b6 := gI_121_90 hI; rw [h5] at b6
  have lp16 : ∀ (m : Nat) (FIv7 : Nat → Nat → Int32), (g_fr n SH [(121, 73), (121, 90)] [154] [] FI FIv7) → (g_I FIv7) → (rl_pm (FIv7 121 90) (FIv7 121 73) (FIv7 166) (FIv7 167) (FIv7 168)) → (0 ≤ (FIv7 121 90).toInt ∧ (FIv7 121 90).toInt ≤ 256) → ((FIv7 121 90).toInt ≤ (FI 121 90).toInt) → ((FIv7 121 73).toInt + 4 * (FIv7 121 90).toInt ≤ (FI 121 73).toInt + 4 * (FI 121 90).toInt) → ((FI 121 73).toInt ≤ (FIv7 121 73).toInt) → (au_red (a1).toInt (sk (FI 166) ((FIv7 121 90).toInt).toNat) = au_red (a1).toInt (sk (FI 166) (FI 121 90).toInt.toNat)) → (FIv7 166 = FI 166) → (FIv7 121 90).toInt < m → hw zk base (d + 1) none 235 0 [(0, .ref (base + 121)), (1, .int (a1))] [] (n, sl, SH, FIv7, FL, FR) (h_V (fun s => ∃ FI', s = (n, sl, SH, FI', FL, FR) ∧ g_I FI' ∧ g_fr n SH [(121, 73), (121, 90)] [154] [] FI FI' ∧ ((FI' 121 90).toInt ≤ (FI 121 90).toInt) ∧ ((FI' 121 73).toInt + 4 * (FI' 121 90).toInt ≤ (FI 121 73).toInt + 4 * (FI 121 90).toInt) ∧ ((FI 121 73).toInt ≤ (FI' 121 73).toInt) ∧ (sk (FI 166) (FI' 121 90).toInt.toNat = au_red (a1).toInt (sk (FI 166) (FI 121 90).toInt.toNat)) ∧ (rl_pm (FI' 121 90) (FI' 121 73) (FI' 166) (FI' 167) (FI' 168)))) := by
    intro m
    induction m with
    | zero => intro FIv7 fr8 hI9 rl10 iv11 iv12 iv13 iv14 xi0_0 rw15 hm; omega
    | succ m ih =>
      intro FIv7 fr8 hI9 rl10 iv11 iv12 iv13 iv14 xi0_0 rw15 hm
      obtain ⟨x17, h18⟩ : ∃ y, FIv7 121 90 = y := ⟨_, rfl⟩
      have h18l := congrArg Int32.toInt h18
      have b19 := gI_121_90 hI9; rw [h18] at b19
      obtain ⟨x20, h21⟩ : ∃ y, FIv7 121 73 = y := ⟨_, rfl⟩
      have h21l := congrArg Int32.toInt h21
      have b22 := gI_121_73 hI9; rw [h21] at b22
      refine hw_aloadn (aX12_reduced 0 rfl) rfl ?_
      refine hw_callV (Bs := []) (rest := []) (aX12_reduced 1 rfl) wc_RX12_559 (by decide) rfl wi_yX12_tops wv_yX12_tops (c121 hS) (s121 hS) rfl rfl rfl (Nat.le_of_ble_eq_true rfl) (Nat.le_of_ble_eq_true rfl) (n_tops (d := d) hS hF hI9 ) (fun v23 sv24 p25 => ?_)
      have := congrArg Int32.toInt (show FIv7 121 90 = x17 from h18)
      obtain ⟨r26, rfl, rfl, t28, u29, u30⟩ := p25
      have rg_r26 := i_rng r26
      show hw zk base _ _ _ _ _ [.int (r26)] _ _
      refine xw_iloadn (aX12_reduced 2 rfl) rfl ?_
      refine hw_iclt (tgt := 34) (aX12_reduced 3 rfl) (by decide) rfl rfl (fun cd31 => ?_) (fun cd31 => ?_)
      · refine xw_vret (aX12_reduced 18 rfl) rfl ?_
        exact ⟨rfl, FIv7, rfl, hI9, fr8, (by have := congrArg Int32.toInt (show FIv7 121 90 = x17 from h18); omega), (by have := congrArg Int32.toInt (show FIv7 121 73 = x20 from h21); have := congrArg Int32.toInt (show FIv7 121 90 = x17 from h18); omega), (by have := congrArg Int32.toInt (show FIv7 121 73 = x20 from h21); omega), (by have hi := xi0_0; rw [show FIv7 121 90 = x17 from h18] at hi; rw [show FIv7 121 90 = x17 from h18]; rcases Int.lt_or_le 0 (x17).toInt with h0 | h0; { have hh := u29 (by omega); rw [show FIv7 166 = FI 166 from rw15, show FIv7 121 90 = x17 from h18] at hh; rw [hh, au_red_stop (by omega)] at hi; rw [← hi, ← hh] }; { rw [show (x17).toInt.toNat = 0 by omega] at hi ⊢; exact hi }), (show rl_pm (FIv7 121 90) (FIv7 121 73) (FIv7 166) (FIv7 167) (FIv7 168) from rl10)⟩
      · refine hw_aloadn (aX12_reduced 4 rfl) rfl ?_
        refine hw_aloadn (aX12_reduced 5 rfl) rfl ?_
        refine hw_get (v := .int (x17)) (aX12_reduced 6 rfl) wf_RX12_556 (c121 hS) (s121 hS) (by decide) (congrArg Value.int (show FIv7 121 90 = x17 from h18)) ?_
        refine hw_ic (v := (1 : Int32)) (aX12_reduced 7 rfl) (by decide) ?_
        refine xw_isub (aX12_reduced 8 rfl) ?_
        refine hw_tie (A := ((x17).toInt) - (1)) (i_sub rfl (by decide : (1 : Int32).toInt = 1) (by omega) (by omega)) (fun x32 e33 => ?_)
        refine hv_puti (aX12_reduced 9 rfl) wf_RX12_556 (c121 hS) (s121 hS) (by decide) rfl rfl (fun FI34 u35 => ?_)
        have rl36 : rl_pm (FI34 121 90) (FI34 121 73) (FI34 166) (FI34 167) (FI34 168) := by have z0 := congrArg Int32.toInt (show FIv7 121 90 = x17 from h18); have z1 := congrArg Int32.toInt (show FI34 121 90 = x32 from up_eq u35); have := (e33 : (x32).toInt = ((x17).toInt) - (1)); rw [show FI34 166 = FIv7 166 from up_row u35 (by decide) rfl, show FI34 167 = FIv7 167 from up_row u35 (by decide) rfl, show FI34 168 = FIv7 168 from up_row u35 (by decide) rfl, show FI34 121 73 = FIv7 121 73 from up_k u35 (by decide) rfl]; exact rl_pm_mono rl10 (by omega) (by omega)
        have hI37 : g_I FI34 := gU_121_90 hI9 u35 (by have := (e33 : (x32).toInt = ((x17).toInt) - (1)); omega) (by have := (e33 : (x32).toInt = ((x17).toInt) - (1)); omega)
        refine hw_aloadn (aX12_reduced 10 rfl) rfl ?_
        refine hw_aloadn (aX12_reduced 11 rfl) rfl ?_
        refine hw_get (v := .ref (base + 165)) (aX12_reduced 12 rfl) wf_RX12_154 (c121 hS) (s121 hS) (by decide) (congrArg (fun r => va_rf (h_rf base r)) (r121_86 hF)) ?_
        refine hw_aloadn (aX12_reduced 13 rfl) rfl ?_
        refine hw_get (v := .int (x32)) (aX12_reduced 14 rfl) wf_RX12_556 (c121 hS) (s121 hS) (by decide) (congrArg Value.int (show FI34 121 90 = x32 from up_eq u35)) ?_
        obtain ⟨x38, h39⟩ : ∃ y, FI34 165 (x32).toNatClampNeg = y := ⟨_, rfl⟩
        have h39l := congrArg Int32.toInt h39
        have := i_rng x38
        refine hw_iald (v := x38) (aX12_reduced 15 rfl) (c165 hS) (s165 hS) (h_in e33 (by omega) (by omega)) (show FI34 165 (x32).toNatClampNeg = x38 from h39) ?_
        refine hw_callV (Bs := [.int (x38)]) (rest := []) (aX12_reduced 16 rfl) wc_RX12_496 (by decide) rfl wi_yX12_emit wv_yX12_emit (c121 hS) (s121 hS) rfl rfl rfl (Nat.le_of_ble_eq_true rfl) (Nat.le_of_ble_eq_true rfl) (n_emit (d := d) hS hF hI37 (x38) (by have := congrArg Int32.toInt (show FI34 121 73 = x20 from (up_k u35 (by decide) (h21))); omega) (show rl_pm (FI34 121 90) (FI34 121 73) (FI34 166) (FI34 167) (FI34 168) from rl36)) (fun v40 sv41 p42 => ?_)
        have := congrArg Int32.toInt (show FI34 121 73 = x20 from (up_k u35 (by decide) (h21)))
        obtain ⟨rfl, FI44, rfl, hI45, f46, t47, rl48⟩ := p42
        obtain ⟨x49, h50⟩ : ∃ y, FI44 121 73 = y := ⟨_, rfl⟩
        have h50l := congrArg Int32.toInt h50
        have b51 := gI_121_73 hI45; rw [h50] at b51
        show hw zk base _ _ _ _ _ [] _ _
        refine xw_goto (tgt := 0) (aX12_reduced 17 rfl) (by decide) ?_
        exact hw_L (ih FI44 (gf_tr ex_rf (gf_f fr8 u35 (by decide)) f46 rfl rfl rfl) hI45 (show rl_pm (FI44 121 90) (FI44 121 73) (FI44 166) (FI44 167) (FI44 168) from rl48) (by have := congrArg Int32.toInt (show FI44 121 90 = x32 from (gf_at f46 (c121 hS) (s121 hS) rfl (up_eq u35))); have := (e33 : (x32).toInt = ((x17).toInt) - (1)); omega) (by have := congrArg Int32.toInt (show FI44 121 90 = x32 from (gf_at f46 (c121 hS) (s121 hS) rfl (up_eq u35))); have := (e33 : (x32).toInt = ((x17).toInt) - (1)); omega) (by have := congrArg Int32.toInt (show FI44 121 73 = x49 from h50); have := congrArg Int32.toInt (show FI44 121 90 = x32 from (gf_at f46 (c121 hS) (s121 hS) rfl (up_eq u35))); have := (e33 : (x32).toInt = ((x17).toInt) - (1)); omega) (by have := congrArg Int32.toInt (show FI44 121 73 = x49 from h50); omega) (show au_red (a1).toInt (sk (FI 166) ((FI44 121 90).toInt).toNat) = au_red (a1).toInt (sk (FI 166) (FI 121 90).toInt.toNat) from (by have := congrArg Int32.toInt (show FI44 121 90 = x32 from (gf_at f46 (c121 hS) (s121 hS) rfl (up_eq u35))); have := (e33 : (x32).toInt = ((x17).toInt) - (1)); exact (by have hh := u29 (by omega); rw [show FIv7 166 = FI 166 from rw15, show FIv7 121 90 = x17 from h18] at hh; have hi := xi0_0; rw [show FIv7 121 90 = x17 from h18, hh, au_red_pop (by omega)] at hi; rw [show ((FI44 121 90).toInt : Int) = (x17).toInt - 1 by omega]; exact hi))) (show FI44 166 = FI 166 from (gf_row f46 (c166 hS) (s166 hS) rfl ((up_row u35 (by decide) (rw15))))) (by have := congrArg Int32.toInt (show FI44 121 90 = x32 from (gf_at f46 (c121 hS) (s121 hS) rfl (up_eq u35))); have := (e33 : (x32).toInt = ((x17).toInt) - (1)); omega)) ⟨rfl, rfl, trivial⟩
  exact hw_L (lp16 (((x4).toInt : Int).toNat + 1) FI gf_rf hI (show rl_pm (FI 121 90) (FI 121 73) (FI 166) (FI 167) (FI 168) from rel_pm) (by have := congrArg Int32.toInt (show FI 121 90 = x4 from h5); omega) (by have := congrArg Int32.toInt (show FI 121 90 = x4 from h5); omega) (by have := congrArg Int32.toInt (show FI 121 73 = x1 from h2); have := congrArg Int32.toInt (show FI 121 90 = x4 from h5); omega) (by have := congrArg Int32.toInt (show FI 121 73 = x1 from h2); omega) (show au_red (a1).toInt (sk (FI 166) ((FI 121 90).toInt).toNat) = au_red (a1).toInt (sk (FI 166) (FI 121 90).toInt.toNat) from (by have := congrArg Int32.toInt (show FI 121 90 = x4 from h5); exact rfl)) (show FI 166 = FI 166 from rfl) (by have := congrArg Int32.toInt (show FI 121 90 = x4 from h5); omega)) ⟨rfl, rfl, trivial⟩
