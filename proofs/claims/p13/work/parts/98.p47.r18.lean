def nX12_isPlace : Nat := 0xac030400a7040700991702b6062a0b009a1702b6052a13009a1702b6042a1b009a1702b6032a23009ae401b65b102a
theorem bX12_isPlace : cX12_isPlace.data.toList.map UInt8.toNat = x_un nX12_isPlace 47 := by decide +kernel
def iX12_isPlace : List (Nat × Jvm.ClassFile.Instr × Nat) := [(0, .aload_n 0, 1), (1, .bipush 91, 2), (3, .invokevirtual 484, 3), (6, .ifCond .ne 35, 3), (9, .aload_n 0, 1), (10, .iconst 0, 1), (11, .invokevirtual 535, 3), (14, .ifCond .ne 27, 3), (17, .aload_n 0, 1), (18, .iconst 1, 1), (19, .invokevirtual 535, 3), (22, .ifCond .ne 19, 3), (25, .aload_n 0, 1), (26, .iconst 2, 1), (27, .invokevirtual 535, 3), (30, .ifCond .ne 11, 3), (33, .aload_n 0, 1), (34, .iconst 3, 1), (35, .invokevirtual 535, 3), (38, .ifCond .eq 7, 3), (41, .iconst 1, 1), (42, .goto 4, 3), (45, .iconst 0, 1), (46, .ireturn, 1)]
theorem dX12_isPlace : x_il nX12_isPlace 47 iX12_isPlace = true := by decide +kernel
theorem aX12_isPlace (k : Nat) {pc : Nat} {i : Jvm.ClassFile.Instr} {len : Nat} (hk : iX12_isPlace[k]? = some (pc, i, len)) : x_at xMM 228 pc i len yX12_isPlace 1 (some .boolean) := ⟨cX12_isPlace, rfl, x_il_ok bX12_isPlace dX12_isPlace k hk⟩
set_option maxHeartbeats 4000000 in
set_option maxRecDepth 100000 in
theorem n_isPlace {zk : xK} {base d n sl : Nat} {SH : Nat → Nat × Nat} {FI : Nat → Nat → Int32} {FL : Nat → Nat → Int64} {FR : Nat → Nat → Option Nat} (hS : h_S n SH) (hF : h_FR FR) (hI : g_I FI) (g0 : (FI 121 68).toInt ≤ (FI 121 67).toInt - 1) (rel_tend : rl_e (FI 149) (FI 121 67)) : hw zk base (d + 1) none 228 0 [(0, .ref (base + 121))] [] (n, sl, SH, FI, FL, FR) (h_I (fun r s => s = (n, sl, SH, FI, FL, FR) ∧ (r.toInt = 1 → (FI 121 68).toInt < (FI 121 67).toInt - 1) ∧ (0 ≤ r.toInt ∧ r.toInt ≤ 1) ∧ ((r.toInt = 1 ↔ ((kf (FI 149) (FI 121 68).toInt.toNat = 5 ∧ wf (FL 150) (FI 121 68).toInt.toNat = 91) ∨ (kf (FI 149) (FI 121 68).toInt.toNat = 2 ∧ (wf (FL 150) (FI 121 68).toInt.toNat = 0 ∨ wf (FL 150) (FI 121 68).toInt.toNat = 1 ∨ wf (FL 150) (FI 121 68).toInt.toNat = 2 ∨ wf (FL 150) (FI 121 68).toInt.toNat = 3))))))) := by
  obtain ⟨x1, h2⟩ : ∃ y, FI 121 68 = y := ⟨_, rfl⟩
  have h2l := congrArg Int32.toInt h2
  have b3 := gI_121_68 hI; rw [h2] at b3
  obtain ⟨x4, h5⟩ : ∃ y, FI 121 67 = y := ⟨_, rfl⟩
  have h5l := congrArg Int32.toInt h5
  have b6 := gI_121_67 hI; rw [h5] at b6
  refine hw_aloadn (aX12_isPlace 0 rfl) rfl ?_
  refine hw_bp (v := (91 : Int32)) (aX12_isPlace 1 rfl) (by decide) ?_
  refine hw_callV (Bs := [.int ((91 : Int32))]) (rest := []) (aX12_isPlace 2 rfl) wc_RX12_484 (by decide) rfl wi_yX12_isSign wv_yX12_isSign (c121 hS) (s121 hS) rfl rfl rfl (Nat.le_of_ble_eq_true rfl) (Nat.le_of_ble_eq_true rfl) (n_isSign (d := d) hS hF hI ((91 : Int32)) (by have := congrArg Int32.toInt (show FI 121 68 = x1 from h2); have := congrArg Int32.toInt (show FI 121 67 = x4 from h5); omega) (show rl_e (FI 149) (FI 121 67) from rel_tend)) (fun v7 sv8 p9 => ?_)
  have := congrArg Int32.toInt (show FI 121 68 = x1 from h2)
  have := congrArg Int32.toInt (show FI 121 67 = x4 from h5)
  obtain ⟨r10, rfl, rfl, t12, t13, u14⟩ := p9
  show hw zk base _ _ _ _ _ [.int (r10)] _ _
  refine hw_ifne (tgt := 41) (aX12_isPlace 3 rfl) (by decide) rfl (fun cd15 => ?_) (fun cd15 => ?_)
  · replace t12 := t12 (by omega)
    refine hw_ic (v := (1 : Int32)) (aX12_isPlace 20 rfl) (by decide) ?_
    refine xw_goto (tgt := 46) (aX12_isPlace 21 rfl) (by decide) ?_
    refine xw_iret (aX12_isPlace 23 rfl) rfl (by decide) ?_
    have e16 : ((1 : Int32)).toInt = 1 := (by decide : (1 : Int32).toInt = 1)
    exact ⟨(1 : Int32), rfl, rfl, (by have : ((1 : Int32)).toInt = 1 := (by decide); omega), (by have : ((1 : Int32)).toInt = 1 := (by decide); omega), (by have hz : (((1 : Int32))).toInt = 1 := (by decide : (1 : Int32).toInt = 1); have q91 := u14; rw [show ((91 : Int32)).toInt = (91 : Int) from by decide] at q91; omega)⟩
  · clear t12
    refine hw_aloadn (aX12_isPlace 4 rfl) rfl ?_
    refine hw_ic (v := (0 : Int32)) (aX12_isPlace 5 rfl) (by decide) ?_
    refine hw_callV (Bs := [.int ((0 : Int32))]) (rest := []) (aX12_isPlace 6 rfl) wc_RX12_535 (by decide) rfl wi_yX12_isWord wv_yX12_isWord (c121 hS) (s121 hS) rfl rfl rfl (Nat.le_of_ble_eq_true rfl) (Nat.le_of_ble_eq_true rfl) (n_isWord (d := d) hS hF hI ((0 : Int32)) (by have := congrArg Int32.toInt (show FI 121 68 = x1 from h2); have := congrArg Int32.toInt (show FI 121 67 = x4 from h5); omega) (show rl_e (FI 149) (FI 121 67) from rel_tend)) (fun v17 sv18 p19 => ?_)
    have := congrArg Int32.toInt (show FI 121 68 = x1 from h2)
    have := congrArg Int32.toInt (show FI 121 67 = x4 from h5)
    obtain ⟨r20, rfl, rfl, t22, t23, u24⟩ := p19
    show hw zk base _ _ _ _ _ [.int (r20)] _ _
    refine hw_ifne (tgt := 41) (aX12_isPlace 7 rfl) (by decide) rfl (fun cd25 => ?_) (fun cd25 => ?_)
    · replace t22 := t22 (by omega)
      refine hw_ic (v := (1 : Int32)) (aX12_isPlace 20 rfl) (by decide) ?_
      refine xw_goto (tgt := 46) (aX12_isPlace 21 rfl) (by decide) ?_
      refine xw_iret (aX12_isPlace 23 rfl) rfl (by decide) ?_
      have e26 : ((1 : Int32)).toInt = 1 := (by decide : (1 : Int32).toInt = 1)
      exact ⟨(1 : Int32), rfl, rfl, (by have : ((1 : Int32)).toInt = 1 := (by decide); omega), (by have : ((1 : Int32)).toInt = 1 := (by decide); omega), (by have hz : (((1 : Int32))).toInt = 1 := (by decide : (1 : Int32).toInt = 1); have q91 := u14; rw [show ((91 : Int32)).toInt = (91 : Int) from by decide] at q91; have q0 := u24; rw [show ((0 : Int32)).toInt = (0 : Int) from by decide] at q0; omega)⟩
    · clear t22
      refine hw_aloadn (aX12_isPlace 8 rfl) rfl ?_
      refine hw_ic (v := (1 : Int32)) (aX12_isPlace 9 rfl) (by decide) ?_
      refine hw_callV (Bs := [.int ((1 : Int32))]) (rest := []) (aX12_isPlace 10 rfl) wc_RX12_535 (by decide) rfl wi_yX12_isWord wv_yX12_isWord (c121 hS) (s121 hS) rfl rfl rfl (Nat.le_of_ble_eq_true rfl) (Nat.le_of_ble_eq_true rfl) (n_isWord (d := d) hS hF hI ((1 : Int32)) (by have := congrArg Int32.toInt (show FI 121 68 = x1 from h2); have := congrArg Int32.toInt (show FI 121 67 = x4 from h5); omega) (show rl_e (FI 149) (FI 121 67) from rel_tend)) (fun v27 sv28 p29 => ?_)
      have := congrArg Int32.toInt (show FI 121 68 = x1 from h2)
      have := congrArg Int32.toInt (show FI 121 67 = x4 from h5)
      obtain ⟨r30, rfl, rfl, t32, t33, u34⟩ := p29
      show hw zk base _ _ _ _ _ [.int (r30)] _ _
      refine hw_ifne (tgt := 41) (aX12_isPlace 11 rfl) (by decide) rfl (fun cd35 => ?_) (fun cd35 => ?_)
      · replace t32 := t32 (by omega)
        refine hw_ic (v := (1 : Int32)) (aX12_isPlace 20 rfl) (by decide) ?_
        refine xw_goto (tgt := 46) (aX12_isPlace 21 rfl) (by decide) ?_
        refine xw_iret (aX12_isPlace 23 rfl) rfl (by decide) ?_
        have e36 : ((1 : Int32)).toInt = 1 := (by decide : (1 : Int32).toInt = 1)
        exact ⟨(1 : Int32), rfl, rfl, (by have : ((1 : Int32)).toInt = 1 := (by decide); omega), (by have : ((1 : Int32)).toInt = 1 := (by decide); omega), (by have hz : (((1 : Int32))).toInt = 1 := (by decide : (1 : Int32).toInt = 1); have q91 := u14; rw [show ((91 : Int32)).toInt = (91 : Int) from by decide] at q91; have q0 := u24; rw [show ((0 : Int32)).toInt = (0 : Int) from by decide] at q0; have q1 := u34; rw [show ((1 : Int32)).toInt = (1 : Int) from by decide] at q1; omega)⟩
      · clear t32
        refine hw_aloadn (aX12_isPlace 12 rfl) rfl ?_
        refine hw_ic (v := (2 : Int32)) (aX12_isPlace 13 rfl) (by decide) ?_
        refine hw_callV (Bs := [.int ((2 : Int32))]) (rest := []) (aX12_isPlace 14 rfl) wc_RX12_535 (by decide) rfl wi_yX12_isWord wv_yX12_isWord (c121 hS) (s121 hS) rfl rfl rfl (Nat.le_of_ble_eq_true rfl) (Nat.le_of_ble_eq_true rfl) (n_isWord (d := d) hS hF hI ((2 : Int32)) (by have := congrArg Int32.toInt (show FI 121 68 = x1 from h2); have := congrArg Int32.toInt (show FI 121 67 = x4 from h5); omega) (show rl_e (FI 149) (FI 121 67) from rel_tend)) (fun v37 sv38 p39 => ?_)
        have := congrArg Int32.toInt (show FI 121 68 = x1 from h2)
        have := congrArg Int32.toInt (show FI 121 67 = x4 from h5)
        obtain ⟨r40, rfl, rfl, t42, t43, u44⟩ := p39
        show hw zk base _ _ _ _ _ [.int (r40)] _ _
        refine hw_ifne (tgt := 41) (aX12_isPlace 15 rfl) (by decide) rfl (fun cd45 => ?_) (fun cd45 => ?_)
        · replace t42 := t42 (by omega)
          refine hw_ic (v := (1 : Int32)) (aX12_isPlace 20 rfl) (by decide) ?_
          refine xw_goto (tgt := 46) (aX12_isPlace 21 rfl) (by decide) ?_
          refine xw_iret (aX12_isPlace 23 rfl) rfl (by decide) ?_
          have e46 : ((1 : Int32)).toInt = 1 := (by decide : (1 : Int32).toInt = 1)
          exact ⟨(1 : Int32), rfl, rfl, (by have : ((1 : Int32)).toInt = 1 := (by decide); omega), (by have : ((1 : Int32)).toInt = 1 := (by decide); omega), (by have hz : (((1 : Int32))).toInt = 1 := (by decide : (1 : Int32).toInt = 1); have q91 := u14; rw [show ((91 : Int32)).toInt = (91 : Int) from by decide] at q91; have q0 := u24; rw [show ((0 : Int32)).toInt = (0 : Int) from by decide] at q0; have q1 := u34; rw [show ((1 : Int32)).toInt = (1 : Int) from by decide] at q1; have q2 := u44; rw [show ((2 : Int32)).toInt = (2 : Int) from by decide] at q2; omega)⟩
        · clear t42
          refine hw_aloadn (aX12_isPlace 16 rfl) rfl ?_
          refine hw_ic (v := (3 : Int32)) (aX12_isPlace 17 rfl) (by decide) ?_
          refine hw_callV (Bs := [.int ((3 : Int32))]) (rest := []) (aX12_isPlace 18 rfl) wc_RX12_535 (by decide) rfl wi_yX12_isWord wv_yX12_isWord (c121 hS) (s121 hS) rfl rfl rfl (Nat.le_of_ble_eq_true rfl) (Nat.le_of_ble_eq_true rfl) (n_isWord (d := d) hS hF hI ((3 : Int32)) (by have := congrArg Int32.toInt (show FI 121 68 = x1 from h2); have := congrArg Int32.toInt (show FI 121 67 = x4 from h5); omega) (show rl_e (FI 149) (FI 121 67) from rel_tend)) (fun v47 sv48 p49 => ?_)
          have := congrArg Int32.toInt (show FI 121 68 = x1 from h2)
          have := congrArg Int32.toInt (show FI 121 67 = x4 from h5)
          obtain ⟨r50, rfl, rfl, t52, t53, u54⟩ := p49
          show hw zk base _ _ _ _ _ [.int (r50)] _ _
          refine hw_ifeq (tgt := 45) (aX12_isPlace 19 rfl) (by decide) rfl (fun cd55 => ?_) (fun cd55 => ?_)
          · clear t52
            refine hw_ic (v := (0 : Int32)) (aX12_isPlace 22 rfl) (by decide) ?_
            refine xw_iret (aX12_isPlace 23 rfl) rfl (by decide) ?_
            have e56 : ((0 : Int32)).toInt = 0 := (by decide : (0 : Int32).toInt = 0)
            exact ⟨(0 : Int32), rfl, rfl, (by have : ((0 : Int32)).toInt = 0 := (by decide); omega), (by have : ((0 : Int32)).toInt = 0 := (by decide); omega), (by have hz : (((0 : Int32))).toInt = 0 := (by decide : (0 : Int32).toInt = 0); have q91 := u14; rw [show ((91 : Int32)).toInt = (91 : Int) from by decide] at q91; have q0 := u24; rw [show ((0 : Int32)).toInt = (0 : Int) from by decide] at q0; have q1 := u34; rw [show ((1 : Int32)).toInt = (1 : Int) from by decide] at q1; have q2 := u44; rw [show ((2 : Int32)).toInt = (2 : Int) from by decide] at q2; have q3 := u54; rw [show ((3 : Int32)).toInt = (3 : Int) from by decide] at q3; omega)⟩
          · replace t52 := t52 (by omega)
            refine hw_ic (v := (1 : Int32)) (aX12_isPlace 20 rfl) (by decide) ?_
            refine xw_goto (tgt := 46) (aX12_isPlace 21 rfl) (by decide) ?_
            refine xw_iret (aX12_isPlace 23 rfl) rfl (by decide) ?_
            have e57 : ((1 : Int32)).toInt = 1 := (by decide : (1 : Int32).toInt = 1)
            exact ⟨(1 : Int32), rfl, rfl, (by have : ((1 : Int32)).toInt = 1 := (by decide); omega), (by have : ((1 : Int32)).toInt = 1 := (by decide); omega), (by have hz : (((1 : Int32))).toInt = 1 := (by decide : (1 : Int32).toInt = 1); have q91 := u14; rw [show ((91 : Int32)).toInt = (91 : Int) from by decide] at q91; have q0 := u24; rw [show ((0 : Int32)).toInt = (0 : Int) from by decide] at q0; have q1 := u34; rw [show ((1 : Int32)).toInt = (1 : Int) from by decide] at q1; have q2 := u44; rw [show ((2 : Int32)).toInt = (2 : Int) from by decide] at q2; have q3 := u54; rw [show ((3 : Int32)).toInt = (3 : Int) from by decide] at q3; omega)⟩
