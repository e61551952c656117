def nX11_number : Nat := 0xad21d0ffa70105844281796805150810852e6005151b2a211300a2be2a6005151b1c009b6005151b2900a2081005153000a21c05150536034209
theorem bX11_number : cX11_number.data.toList.map UInt8.toNat = x_un nX11_number 58 := by decide +kernel
def iX11_number : List (Nat × Jvm.ClassFile.Instr × Nat) := [(0, .lconst 0, 1), (1, .lstore_n 3, 1), (2, .iconst 0, 1), (3, .istore 5, 2), (5, .iload 5, 2), (7, .iload_n 2, 1), (8, .if_icmp .ge 48, 3), (11, .iload 5, 2), (13, .bipush 8, 2), (15, .if_icmp .ge 41, 3), (18, .iload_n 1, 1), (19, .iload 5, 2), (21, .iadd, 1), (22, .ifCond .lt 28, 3), (25, .iload_n 1, 1), (26, .iload 5, 2), (28, .iadd, 1), (29, .aload_n 0, 1), (30, .arraylength, 1), (31, .if_icmp .ge 19, 3), (34, .lload_n 3, 1), (35, .aload_n 0, 1), (36, .iload_n 1, 1), (37, .iload 5, 2), (39, .iadd, 1), (40, .iaload, 1), (41, .i2l, 1), (42, .bipush 8, 2), (44, .iload 5, 2), (46, .imul, 1), (47, .lshl, 1), (48, .lor, 1), (49, .lstore_n 3, 1), (50, .iinc 5 1, 3), (53, .goto (-48), 3), (56, .lload_n 3, 1), (57, .lreturn, 1)]
theorem dX11_number : x_il nX11_number 58 iX11_number = true := by decide +kernel
theorem aX11_number (k : Nat) {pc : Nat} {i : Jvm.ClassFile.Instr} {len : Nat} (hk : iX11_number[k]? = some (pc, i, len)) : x_at xMM 139 pc i len yX11_number 6 (some .long) := ⟨cX11_number, rfl, x_il_ok bX11_number dX11_number k hk⟩
set_option maxHeartbeats 4000000 in
set_option maxRecDepth 100000 in
theorem k_X11_number {sk : xK} {base d n sl : Nat} {SH : Nat → Nat × Nat} {FI : Nat → Nat → Int32} {FL : Nat → Nat → Int64} {FR : Nat → Nat → Option Nat} (hS : h_S n SH) (hF : h_FR FR) (hI : g_I FI) (hR : g_R n SH FR) (a1 : Nat) {z1 : Nat} (ha1l : a1 < n) (ha1s : SH a1 = (100, z1)) (ha1o : own a1) (a2 : Int32) (a3 : Int32) : hw sk base d none 139 0 [(0, .ref (base + a1)), (1, .int (a2)), (2, .int (a3))] [] (n, sl, SH, FI, FL, FR) (h_J (fun r s => s = (n, sl, SH, FI, FL, FR))) := by
  have rg_a2 := i_rng a2
  have rg_a3 := i_rng a3
  refine hw_lc (v := (0 : Int64)) (aX11_number 0 rfl) (by decide) ?_
  refine xw_lstoren (L2 := [(3, .long ((0 : Int64))), (0, .ref (base + a1)), (1, .int (a2)), (2, .int (a3))]) (aX11_number 1 rfl) (by decide) rfl ?_
  refine hw_ic (v := (0 : Int32)) (aX11_number 2 rfl) (by decide) ?_
  refine xw_istore (L2 := [(5, .int ((0 : Int32))), (3, .long ((0 : Int64))), (0, .ref (base + a1)), (1, .int (a2)), (2, .int (a3))]) (aX11_number 3 rfl) (by decide) rfl ?_
  have lp2 : ∀ (m : Nat) (y5 : Int32) (y3 : Int64), (0 ≤ (y5).toInt ∧ (y5).toInt ≤ 8) → 8 - (y5).toInt < m → hw sk base d none 139 5 [(5, .int (y5)), (3, .long (y3)), (0, .ref (base + a1)), (1, .int (a2)), (2, .int (a3))] [] (n, sl, SH, FI, FL, FR) (h_J (fun r s => s = (n, sl, SH, FI, FL, FR))) := by
    intro m
    induction m with
    | zero => intro y5 y3 iv1 hm; omega
    | succ m ih =>
      intro y5 y3 iv1 hm
      have rg_y5 := i_rng y5
      have rg_y3 := l_rng y3
      refine xw_iload (aX11_number 4 rfl) rfl ?_
      refine xw_iloadn (aX11_number 5 rfl) rfl ?_
      refine hw_icge (tgt := 56) (aX11_number 6 rfl) (by decide) rfl rfl (fun cd3 => ?_) (fun cd3 => ?_)
      · refine xw_lloadn (aX11_number 35 rfl) rfl ?_
        refine xw_lret (aX11_number 36 rfl) rfl ?_
        exact ⟨y3, rfl, rfl⟩
      · refine xw_iload (aX11_number 7 rfl) rfl ?_
        refine hw_bp (v := (8 : Int32)) (aX11_number 8 rfl) (by decide) ?_
        refine hw_icge (tgt := 56) (aX11_number 9 rfl) (by decide) rfl (by decide : (8 : Int32).toInt = 8) (fun cd4 => ?_) (fun cd4 => ?_)
        · refine xw_lloadn (aX11_number 35 rfl) rfl ?_
          refine xw_lret (aX11_number 36 rfl) rfl ?_
          exact ⟨y3, rfl, rfl⟩
        · refine xw_iloadn (aX11_number 10 rfl) rfl ?_
          refine xw_iload (aX11_number 11 rfl) rfl ?_
          refine xw_iadd (aX11_number 12 rfl) ?_
          have := i_rng ((a2) + (y5))
          refine hw_iflt (tgt := 50) (aX11_number 13 rfl) (by decide) rfl (fun cd5 => ?_) (fun cd5 => ?_)
          · obtain ⟨x6, q8⟩ : ∃ y : Int32, (y5) + Int32.ofInt (1) = y := ⟨_, rfl⟩
            have e7 : (x6).toInt = (y5).toInt + (1) := by rw [← q8]; exact i_add rfl (by decide) (by omega) (by omega)
            refine xw_iinc (L2 := [(5, .int (x6)), (3, .long (y3)), (0, .ref (base + a1)), (1, .int (a2)), (2, .int (a3))]) (aX11_number 33 rfl) rfl (by decide) (by rw [q8]; rfl) ?_
            refine xw_goto (tgt := 5) (aX11_number 34 rfl) (by decide) ?_
            exact hw_L (ih (x6) (y3) (by have := (e7 : (x6).toInt = (y5).toInt + (1)); omega) (by have := (e7 : (x6).toInt = (y5).toInt + (1)); omega)) ⟨rfl, rfl, rfl, rfl, rfl, trivial⟩
          · refine xw_iloadn (aX11_number 14 rfl) rfl ?_
            refine xw_iload (aX11_number 15 rfl) rfl ?_
            refine xw_iadd (aX11_number 16 rfl) ?_
            have := i_rng ((a2) + (y5))
            refine hw_aloadn (aX11_number 17 rfl) rfl ?_
            obtain ⟨x9, h10⟩ : ∃ y, Int32.ofNat z1 = y := ⟨_, rfl⟩
            have b11 : (x9).toInt ≤ ((z1 : Nat) : Int) := by rw [← h10]; exact i_len
            have := i_rng x9
            refine hw_alen (k := 0) (v := x9) (aX11_number 18 rfl) ha1l ha1s (by decide) h10 ?_
            refine hw_icge (tgt := 50) (aX11_number 19 rfl) (by decide) rfl rfl (fun cd12 => ?_) (fun cd12 => ?_)
            · obtain ⟨x13, q15⟩ : ∃ y : Int32, (y5) + Int32.ofInt (1) = y := ⟨_, rfl⟩
              have e14 : (x13).toInt = (y5).toInt + (1) := by rw [← q15]; exact i_add rfl (by decide) (by omega) (by omega)
              refine xw_iinc (L2 := [(5, .int (x13)), (3, .long (y3)), (0, .ref (base + a1)), (1, .int (a2)), (2, .int (a3))]) (aX11_number 33 rfl) rfl (by decide) (by rw [q15]; rfl) ?_
              refine xw_goto (tgt := 5) (aX11_number 34 rfl) (by decide) ?_
              exact hw_L (ih (x13) (y3) (by have := (e14 : (x13).toInt = (y5).toInt + (1)); omega) (by have := (e14 : (x13).toInt = (y5).toInt + (1)); omega)) ⟨rfl, rfl, rfl, rfl, rfl, trivial⟩
            · refine xw_lloadn (aX11_number 20 rfl) rfl ?_
              refine hw_aloadn (aX11_number 21 rfl) rfl ?_
              refine xw_iloadn (aX11_number 22 rfl) rfl ?_
              refine xw_iload (aX11_number 23 rfl) rfl ?_
              refine xw_iadd (aX11_number 24 rfl) ?_
              have := i_rng ((a2) + (y5))
              obtain ⟨x16, h17⟩ : ∃ y, FI a1 (((a2) + (y5))).toNatClampNeg = y := ⟨_, rfl⟩
              have h17l := congrArg Int32.toInt h17
              have := i_rng x16
              refine hw_iald (v := x16) (aX11_number 25 rfl) ha1l ha1s (h_in rfl (by omega) (by omega)) (show FI a1 (((a2) + (y5))).toNatClampNeg = x16 from h17) ?_
              refine xw_i2l (aX11_number 26 rfl) ?_
              refine hw_tle (A := (x16).toInt) (i_2l rfl) (fun x18 e19 => ?_)
              refine hw_bp (v := (8 : Int32)) (aX11_number 27 rfl) (by decide) ?_
              refine xw_iload (aX11_number 28 rfl) rfl ?_
              refine xw_imul (aX11_number 29 rfl) ?_
              refine hw_tie (A := (8) * ((y5).toInt)) (i_mul (by decide : (8 : Int32).toInt = 8) rfl (by omega) (by omega)) (fun x20 e21 => ?_)
              refine xw_lshl (aX11_number 30 rfl) ?_
              refine hw_tl (fun x22 => ?_)
              have b23 := l_rng x22
              refine xw_lor (aX11_number 31 rfl) ?_
              refine hw_tl (fun x24 => ?_)
              have b25 := l_rng x24
              refine xw_lstoren (L2 := [(3, .long (x24)), (5, .int (y5)), (0, .ref (base + a1)), (1, .int (a2)), (2, .int (a3))]) (aX11_number 32 rfl) (by decide) rfl ?_
              obtain ⟨x26, q28⟩ : ∃ y : Int32, (y5) + Int32.ofInt (1) = y := ⟨_, rfl⟩
              have e27 : (x26).toInt = (y5).toInt + (1) := by rw [← q28]; exact i_add rfl (by decide) (by omega) (by omega)
              refine xw_iinc (L2 := [(5, .int (x26)), (3, .long (x24)), (0, .ref (base + a1)), (1, .int (a2)), (2, .int (a3))]) (aX11_number 33 rfl) rfl (by decide) (by rw [q28]; rfl) ?_
              refine xw_goto (tgt := 5) (aX11_number 34 rfl) (by decide) ?_
              exact hw_L (ih (x26) (x24) (by have := (e27 : (x26).toInt = (y5).toInt + (1)); omega) (by have := (e27 : (x26).toInt = (y5).toInt + (1)); omega)) ⟨rfl, rfl, rfl, rfl, rfl, trivial⟩
  exact hw_L (lp2 ((8 - 0 : Int).toNat + 1) ((0 : Int32)) ((0 : Int64)) (by have := ((by decide : (0 : Int32).toInt = 0) : ((0 : Int32)).toInt = 0); have := ((by decide : (0 : Int64).toInt = 0) : ((0 : Int64)).toInt = 0); omega) (by have := ((by decide : (0 : Int32).toInt = 0) : ((0 : Int32)).toInt = 0); have := ((by decide : (0 : Int64).toInt = 0) : ((0 : Int64)).toInt = 0); omega)) ⟨rfl, rfl, rfl, rfl, rfl, trivial⟩
def nX0_putNumber : Nat := 0xb1e4ffa70104843e00b6887d68041508101f2a1500a2081004151c00a21d0415043603
theorem bX0_putNumber : cX0_putNumber.data.toList.map UInt8.toNat = x_un nX0_putNumber 35 := by decide +kernel
def iX0_putNumber : List (Nat × Jvm.ClassFile.Instr × Nat) := [(0, .iconst 0, 1), (1, .istore 4, 2), (3, .iload 4, 2), (5, .iload_n 3, 1), (6, .if_icmp .ge 28, 3), (9, .iload 4, 2), (11, .bipush 8, 2), (13, .if_icmp .ge 21, 3), (16, .aload_n 0, 1), (17, .lload_n 1, 1), (18, .bipush 8, 2), (20, .iload 4, 2), (22, .imul, 1), (23, .lushr, 1), (24, .l2i, 1), (25, .invokevirtual 62, 3), (28, .iinc 4 1, 3), (31, .goto (-28), 3), (34, .return_, 1)]
theorem dX0_putNumber : x_il nX0_putNumber 35 iX0_putNumber = true := by decide +kernel
theorem aX0_putNumber (k : Nat) {pc : Nat} {i : Jvm.ClassFile.Instr} {len : Nat} (hk : iX0_putNumber[k]? = some (pc, i, len)) : x_at xMM 15 pc i len yX0_putNumber 5 none := ⟨cX0_putNumber, rfl, x_il_ok bX0_putNumber dX0_putNumber k hk⟩
set_option maxHeartbeats 4000000 in
set_option maxRecDepth 100000 in
theorem k_X0_putNumber {sk : xK} {base d n sl : Nat} {SH : Nat → Nat × Nat} {FI : Nat → Nat → Int32} {FL : Nat → Nat → Int64} {FR : Nat → Nat → Option Nat} (hS : h_S n SH) (hF : h_FR FR) (hI : g_I FI) (hR : g_R n SH FR) (a1 : Int64) (a2 : Int32) (g0 : (FI 119 1).toInt ≤ 1999999980) : hw sk base (d + 1) none 15 0 [(0, .ref (base + 119)), (1, .long (a1)), (3, .int (a2))] [] (n, sl, SH, FI, FL, FR) (h_V (fun s => ∃ FI', s = (n, sl, SH, FI', FL, FR) ∧ g_I FI' ∧ g_fr n (shd SH) [(119, 1)] [120] [] FI FI' ∧ ((FI' 119 1).toInt ≤ (FI 119 1).toInt + 8) ∧ ((FI 119 1).toInt ≤ (FI' 119 1).toInt))) := by
  have rg_a1 := l_rng a1
  have rg_a2 := i_rng a2
  obtain ⟨x1, h2⟩ : ∃ y, FI 119 1 = y := ⟨_, rfl⟩
  have h2l := congrArg Int32.toInt h2
  have b3 := gI_119_1 hI; rw [h2] at b3
  refine hw_ic (v := (0 : Int32)) (aX0_putNumber 0 rfl) (by decide) ?_
  refine xw_istore (L2 := [(4, .int ((0 : Int32))), (0, .ref (base + 119)), (1, .long (a1)), (3, .int (a2))]) (aX0_putNumber 1 rfl) (by decide) rfl ?_
  have lp9 : ∀ (m : Nat) (y4 : Int32) (FIv4 : Nat → Nat → Int32), (g_fr n (shd SH) [(119, 1)] [120] [] FI FIv4) → (g_I FIv4) → (0 ≤ (y4).toInt ∧ (y4).toInt ≤ 8) → ((FIv4 119 1).toInt = (FI 119 1).toInt + (y4).toInt) → 8 - (y4).toInt < m → hw sk base (d + 1) none 15 3 [(4, .int (y4)), (0, .ref (base + 119)), (1, .long (a1)), (3, .int (a2))] [] (n, sl, SH, FIv4, FL, FR) (h_V (fun s => ∃ FI', s = (n, sl, SH, FI', FL, FR) ∧ g_I FI' ∧ g_fr n (shd SH) [(119, 1)] [120] [] FI FI' ∧ ((FI' 119 1).toInt ≤ (FI 119 1).toInt + 8) ∧ ((FI 119 1).toInt ≤ (FI' 119 1).toInt))) := by
    intro m
    induction m with
    | zero => intro y4 FIv4 fr5 hI6 iv7 iv8 hm; omega
    | succ m ih =>
      intro y4 FIv4 fr5 hI6 iv7 iv8 hm
      have rg_y4 := i_rng y4
      obtain ⟨x10, h11⟩ : ∃ y, FIv4 119 1 = y := ⟨_, rfl⟩
      have h11l := congrArg Int32.toInt h11
      have b12 := gI_119_1 hI6; rw [h11] at b12
      refine xw_iload (aX0_putNumber 2 rfl) rfl ?_
      refine xw_iloadn (aX0_putNumber 3 rfl) rfl ?_
      refine hw_icge (tgt := 34) (aX0_putNumber 4 rfl) (by decide) rfl rfl (fun cd13 => ?_) (fun cd13 => ?_)
      · refine xw_vret (aX0_putNumber 18 rfl) rfl ?_
        exact ⟨rfl, FIv4, rfl, hI6, fr5, (by have := congrArg Int32.toInt (show FIv4 119 1 = x10 from h11); omega), (by have := congrArg Int32.toInt (show FIv4 119 1 = x10 from h11); omega)⟩
      · refine xw_iload (aX0_putNumber 5 rfl) rfl ?_
        refine hw_bp (v := (8 : Int32)) (aX0_putNumber 6 rfl) (by decide) ?_
        refine hw_icge (tgt := 34) (aX0_putNumber 7 rfl) (by decide) rfl (by decide : (8 : Int32).toInt = 8) (fun cd14 => ?_) (fun cd14 => ?_)
        · refine xw_vret (aX0_putNumber 18 rfl) rfl ?_
          exact ⟨rfl, FIv4, rfl, hI6, fr5, (by have := congrArg Int32.toInt (show FIv4 119 1 = x10 from h11); omega), (by have := congrArg Int32.toInt (show FIv4 119 1 = x10 from h11); omega)⟩
        · refine hw_aloadn (aX0_putNumber 8 rfl) rfl ?_
          refine xw_lloadn (aX0_putNumber 9 rfl) rfl ?_
          refine hw_bp (v := (8 : Int32)) (aX0_putNumber 10 rfl) (by decide) ?_
          refine xw_iload (aX0_putNumber 11 rfl) rfl ?_
          refine xw_imul (aX0_putNumber 12 rfl) ?_
          refine hw_tie (A := (8) * ((y4).toInt)) (i_mul (by decide : (8 : Int32).toInt = 8) rfl (by omega) (by omega)) (fun x15 e16 => ?_)
          refine xw_lushr (aX0_putNumber 13 rfl) ?_
          refine hw_tl (fun x17 => ?_)
          have b18 := l_rng x17
          refine xw_l2i (aX0_putNumber 14 rfl) ?_
          refine hw_ti (fun x19 => ?_)
          have b20 := i_rng x19
          refine hw_callV (Bs := [.int (x19)]) (rest := []) (aX0_putNumber 15 rfl) wc_RX0_62 (by decide) rfl wi_yX0_put wv_yX0_put (c119 hS) (s119 hS) rfl rfl rfl (Nat.le_of_ble_eq_true rfl) (Nat.le_of_ble_eq_true rfl) (k_X0_put (d := d) hS hF hI6 hR (x19) (by have := congrArg Int32.toInt (show FIv4 119 1 = x10 from h11); omega)) (fun v21 sv22 p23 => ?_)
          have := congrArg Int32.toInt (show FIv4 119 1 = x10 from h11)
          obtain ⟨rfl, FI25, rfl, hI26, f27, t30⟩ := p23
          obtain ⟨x33, h34⟩ : ∃ y, FI25 119 1 = y := ⟨_, rfl⟩
          have h34l := congrArg Int32.toInt h34
          have b35 := gI_119_1 hI26; rw [h34] at b35
          show hw sk base _ _ _ _ _ [] _ _
          obtain ⟨x36, q38⟩ : ∃ y : Int32, (y4) + Int32.ofInt (1) = y := ⟨_, rfl⟩
          have e37 : (x36).toInt = (y4).toInt + (1) := by rw [← q38]; exact i_add rfl (by decide) (by omega) (by omega)
          refine xw_iinc (L2 := [(4, .int (x36)), (0, .ref (base + 119)), (1, .long (a1)), (3, .int (a2))]) (aX0_putNumber 16 rfl) rfl (by decide) (by rw [q38]; rfl) ?_
          refine xw_goto (tgt := 3) (aX0_putNumber 17 rfl) (by decide) ?_
          exact hw_L (ih (x36) FI25 (gf_tr ex_rf fr5 f27 rfl rfl rfl) hI26 (by have := (e37 : (x36).toInt = (y4).toInt + (1)); omega) (by have := (e37 : (x36).toInt = (y4).toInt + (1)); have := congrArg Int32.toInt (show FI25 119 1 = x33 from h34); omega) (by have := (e37 : (x36).toInt = (y4).toInt + (1)); omega)) ⟨rfl, rfl, rfl, rfl, trivial⟩
  exact hw_L (lp9 ((8 - 0 : Int).toNat + 1) ((0 : Int32)) FI gf_rf hI (by have := ((by decide : (0 : Int32).toInt = 0) : ((0 : Int32)).toInt = 0); omega) (by have := ((by decide : (0 : Int32).toInt = 0) : ((0 : Int32)).toInt = 0); have := congrArg Int32.toInt (show FI 119 1 = x1 from h2); omega) (by have := ((by decide : (0 : Int32).toInt = 0) : ((0 : Int32)).toInt = 0); omega)) ⟨rfl, rfl, rfl, rfl, trivial⟩
def nX0_putLeb : Nat := 0xb13e00b688212ad5ffa7010584427d0710213e00b680800011887fa10014212a1c009e94a10014210b009b9409212a00a209100515053603421f
theorem bX0_putLeb : cX0_putLeb.data.toList.map UInt8.toNat = x_un nX0_putLeb 58 := by decide +kernel
def iX0_putLeb : List (Nat × Jvm.ClassFile.Instr × Nat) := [(0, .lload_n 1, 1), (1, .lstore_n 3, 1), (2, .iconst 0, 1), (3, .istore 5, 2), (5, .iload 5, 2), (7, .bipush 9, 2), (9, .if_icmp .ge 42, 3), (12, .lload_n 3, 1), (13, .lconst 0, 1), (14, .lcmp, 1), (15, .ifCond .lt 11, 3), (18, .lload_n 3, 1), (19, .ldc2_w 161, 3), (22, .lcmp, 1), (23, .ifCond .le 28, 3), (26, .aload_n 0, 1), (27, .lload_n 3, 1), (28, .ldc2_w 161, 3), (31, .land, 1), (32, .l2i, 1), (33, .sipush 128, 3), (36, .ior, 1), (37, .invokevirtual 62, 3), (40, .lload_n 3, 1), (41, .bipush 7, 2), (43, .lushr, 1), (44, .lstore_n 3, 1), (45, .iinc 5 1, 3), (48, .goto (-43), 3), (51, .aload_n 0, 1), (52, .lload_n 3, 1), (53, .l2i, 1), (54, .invokevirtual 62, 3), (57, .return_, 1)]
theorem dX0_putLeb : x_il nX0_putLeb 58 iX0_putLeb = true := by decide +kernel
theorem aX0_putLeb (k : Nat) {pc : Nat} {i : Jvm.ClassFile.Instr} {len : Nat} (hk : iX0_putLeb[k]? = some (pc, i, len)) : x_at xMM 17 pc i len yX0_putLeb 6 none := ⟨cX0_putLeb, rfl, x_il_ok bX0_putLeb dX0_putLeb k hk⟩
set_option maxHeartbeats 4000000 in
set_option maxRecDepth 100000 in
theorem k_X0_putLeb {sk : xK} {base d n sl : Nat} {SH : Nat → Nat × Nat} {FI : Nat → Nat → Int32} {FL : Nat → Nat → Int64} {FR : Nat → Nat → Option Nat} (hS : h_S n SH) (hF : h_FR FR) (hI : g_I FI) (hR : g_R n SH FR) (a1 : Int64) (g0 : (FI 119 1).toInt ≤ 1999999980) : hw sk base (d + 1) none 17 0 [(0, .ref (base + 119)), (1, .long (a1))] [] (n, sl, SH, FI, FL, FR) (h_V (fun s => ∃ FI', s = (n, sl, SH, FI', FL, FR) ∧ g_I FI' ∧ g_fr n (shd SH) [(119, 1)] [120] [] FI FI' ∧ ((FI' 119 1).toInt ≤ (FI 119 1).toInt + 10) ∧ ((FI 119 1).toInt ≤ (FI' 119 1).toInt))) := by
  have rg_a1 := l_rng a1
  obtain ⟨x1, h2⟩ : ∃ y, FI 119 1 = y := ⟨_, rfl⟩
  have h2l := congrArg Int32.toInt h2
  have b3 := gI_119_1 hI; rw [h2] at b3
  refine xw_lloadn (aX0_putLeb 0 rfl) rfl ?_
  refine xw_lstoren (L2 := [(3, .long (a1)), (0, .ref (base + 119)), (1, .long (a1))]) (aX0_putLeb 1 rfl) (by decide) rfl ?_
  refine hw_ic (v := (0 : Int32)) (aX0_putLeb 2 rfl) (by decide) ?_
  refine xw_istore (L2 := [(5, .int ((0 : Int32))), (3, .long (a1)), (0, .ref (base + 119)), (1, .long (a1))]) (aX0_putLeb 3 rfl) (by decide) rfl ?_
  have lp9 : ∀ (m : Nat) (y5 : Int32) (y3 : Int64) (FIv4 : Nat → Nat → Int32), (g_fr n (shd SH) [(119, 1)] [120] [] FI FIv4) → (g_I FIv4) → (0 ≤ (y5).toInt ∧ (y5).toInt ≤ 9) → ((FIv4 119 1).toInt = (FI 119 1).toInt + (y5).toInt) → 9 - (y5).toInt < m → hw sk base (d + 1) none 17 5 [(5, .int (y5)), (3, .long (y3)), (0, .ref (base + 119))] [] (n, sl, SH, FIv4, FL, FR) (h_V (fun s => ∃ FI', s = (n, sl, SH, FI', FL, FR) ∧ g_I FI' ∧ g_fr n (shd SH) [(119, 1)] [120] [] FI FI' ∧ ((FI' 119 1).toInt ≤ (FI 119 1).toInt + 10) ∧ ((FI 119 1).toInt ≤ (FI' 119 1).toInt))) := by
    intro m
    induction m with
    | zero => intro y5 y3 FIv4 fr5 hI6 iv7 iv8 hm; omega
    | succ m ih =>
      intro y5 y3 FIv4 fr5 hI6 iv7 iv8 hm
      have rg_y5 := i_rng y5
      have rg_y3 := l_rng y3
      obtain ⟨x10, h11⟩ : ∃ y, FIv4 119 1 = y := ⟨_, rfl⟩
      have h11l := congrArg Int32.toInt h11
      have b12 := gI_119_1 hI6; rw [h11] at b12
      refine xw_iload (aX0_putLeb 4 rfl) rfl ?_
      refine hw_bp (v := (9 : Int32)) (aX0_putLeb 5 rfl) (by decide) ?_
      refine hw_icge (tgt := 51) (aX0_putLeb 6 rfl) (by decide) rfl (by decide : (9 : Int32).toInt = 9) (fun cd13 => ?_) (fun cd13 => ?_)
      · refine hw_aloadn (aX0_putLeb 29 rfl) rfl ?_
        refine xw_lloadn (aX0_putLeb 30 rfl) rfl ?_
        refine xw_l2i (aX0_putLeb 31 rfl) ?_
        refine hw_ti (fun x14 => ?_)
        have b15 := i_rng x14
        refine hw_callV (Bs := [.int (x14)]) (rest := []) (aX0_putLeb 32 rfl) wc_RX0_62 (by decide) rfl wi_yX0_put wv_yX0_put (c119 hS) (s119 hS) rfl rfl rfl (Nat.le_of_ble_eq_true rfl) (Nat.le_of_ble_eq_true rfl) (k_X0_put (d := d) hS hF hI6 hR (x14) (by have := congrArg Int32.toInt (show FIv4 119 1 = x10 from h11); omega)) (fun v16 sv17 p18 => ?_)
        have := congrArg Int32.toInt (show FIv4 119 1 = x10 from h11)
        obtain ⟨rfl, FI20, rfl, hI21, f22, t25⟩ := p18
        obtain ⟨x28, h29⟩ : ∃ y, FI20 119 1 = y := ⟨_, rfl⟩
        have h29l := congrArg Int32.toInt h29
        have b30 := gI_119_1 hI21; rw [h29] at b30
        show hw sk base _ _ _ _ _ [] _ _
        refine xw_vret (aX0_putLeb 33 rfl) rfl ?_
        exact ⟨rfl, FI20, rfl, hI21, (gf_tr ex_rf fr5 f22 rfl rfl rfl), (by have := congrArg Int32.toInt (show FI20 119 1 = x28 from h29); omega), (by have := congrArg Int32.toInt (show FI20 119 1 = x28 from h29); omega)⟩
      · refine xw_lloadn (aX0_putLeb 7 rfl) rfl ?_
        refine hw_lc (v := (0 : Int64)) (aX0_putLeb 8 rfl) (by decide) ?_
        refine hw_lclt (tgt := 26) (aX0_putLeb 9 rfl) (aX0_putLeb 10 rfl) (by decide) rfl (by decide : (0 : Int64).toInt = 0) (fun cd31 => ?_) (fun cd31 => ?_)
        · refine hw_aloadn (aX0_putLeb 15 rfl) rfl ?_
          refine xw_lloadn (aX0_putLeb 16 rfl) rfl ?_
          refine xw_ldc2 (aX0_putLeb 17 rfl) wk_RX0_161 ?_
          refine xw_land (aX0_putLeb 18 rfl) ?_
          refine hw_tlb (lo := 0) (hi := 127) (l_and (x := y3) (m := (127 : Int64)) (M := 127) (by decide) (by decide)) (fun x32 b33 => ?_)
          refine xw_l2i (aX0_putLeb 19 rfl) ?_
          refine hw_tie (A := (x32).toInt) (l_2i rfl (by omega) (by omega)) (fun x34 e35 => ?_)
          refine hw_sp (v := (128 : Int32)) (aX0_putLeb 20 rfl) (by decide) ?_
          refine xw_ior (aX0_putLeb 21 rfl) ?_
          refine hw_ti (fun x36 => ?_)
          have b37 := i_rng x36
          refine hw_callV (Bs := [.int (x36)]) (rest := []) (aX0_putLeb 22 rfl) wc_RX0_62 (by decide) rfl wi_yX0_put wv_yX0_put (c119 hS) (s119 hS) rfl rfl rfl (Nat.le_of_ble_eq_true rfl) (Nat.le_of_ble_eq_true rfl) (k_X0_put (d := d) hS hF hI6 hR (x36) (by have := congrArg Int32.toInt (show FIv4 119 1 = x10 from h11); omega)) (fun v38 sv39 p40 => ?_)
          have := congrArg Int32.toInt (show FIv4 119 1 = x10 from h11)
          obtain ⟨rfl, FI42, rfl, hI43, f44, t47⟩ := p40
          obtain ⟨x50, h51⟩ : ∃ y, FI42 119 1 = y := ⟨_, rfl⟩
          have h51l := congrArg Int32.toInt h51
          have b52 := gI_119_1 hI43; rw [h51] at b52
          show hw sk base _ _ _ _ _ [] _ _
          refine xw_lloadn (aX0_putLeb 23 rfl) rfl ?_
          refine hw_bp (v := (7 : Int32)) (aX0_putLeb 24 rfl) (by decide) ?_
          refine xw_lushr (aX0_putLeb 25 rfl) ?_
          refine hw_tl (fun x53 => ?_)
          have b54 := l_rng x53
          refine xw_lstoren (L2 := [(3, .long (x53)), (5, .int (y5)), (0, .ref (base + 119))]) (aX0_putLeb 26 rfl) (by decide) rfl ?_
          obtain ⟨x55, q57⟩ : ∃ y : Int32, (y5) + Int32.ofInt (1) = y := ⟨_, rfl⟩
          have e56 : (x55).toInt = (y5).toInt + (1) := by rw [← q57]; exact i_add rfl (by decide) (by omega) (by omega)
          refine xw_iinc (L2 := [(5, .int (x55)), (3, .long (x53)), (0, .ref (base + 119))]) (aX0_putLeb 27 rfl) rfl (by decide) (by rw [q57]; rfl) ?_
          refine xw_goto (tgt := 5) (aX0_putLeb 28 rfl) (by decide) ?_
          exact hw_L (ih (x55) (x53) FI42 (gf_tr ex_rf fr5 f44 rfl rfl rfl) hI43 (by have := (e56 : (x55).toInt = (y5).toInt + (1)); omega) (by have := (e56 : (x55).toInt = (y5).toInt + (1)); have := congrArg Int32.toInt (show FI42 119 1 = x50 from h51); omega) (by have := (e56 : (x55).toInt = (y5).toInt + (1)); omega)) ⟨rfl, rfl, rfl, trivial⟩
        · refine xw_lloadn (aX0_putLeb 11 rfl) rfl ?_
          refine xw_ldc2 (aX0_putLeb 12 rfl) wk_RX0_161 ?_
          refine hw_lcle (tgt := 51) (aX0_putLeb 13 rfl) (aX0_putLeb 14 rfl) (by decide) rfl (by decide : (127 : Int64).toInt = 127) (fun cd58 => ?_) (fun cd58 => ?_)
          · refine hw_aloadn (aX0_putLeb 29 rfl) rfl ?_
            refine xw_lloadn (aX0_putLeb 30 rfl) rfl ?_
            refine xw_l2i (aX0_putLeb 31 rfl) ?_
            refine hw_tie (A := (y3).toInt) (l_2i rfl (by omega) (by omega)) (fun x59 e60 => ?_)
            refine hw_callV (Bs := [.int (x59)]) (rest := []) (aX0_putLeb 32 rfl) wc_RX0_62 (by decide) rfl wi_yX0_put wv_yX0_put (c119 hS) (s119 hS) rfl rfl rfl (Nat.le_of_ble_eq_true rfl) (Nat.le_of_ble_eq_true rfl) (k_X0_put (d := d) hS hF hI6 hR (x59) (by have := congrArg Int32.toInt (show FIv4 119 1 = x10 from h11); omega)) (fun v61 sv62 p63 => ?_)
            have := congrArg Int32.toInt (show FIv4 119 1 = x10 from h11)
            obtain ⟨rfl, FI65, rfl, hI66, f67, t70⟩ := p63
            obtain ⟨x73, h74⟩ : ∃ y, FI65 119 1 = y := ⟨_, rfl⟩
            have h74l := congrArg Int32.toInt h74
            have b75 := gI_119_1 hI66; rw [h74] at b75
            show hw sk base _ _ _ _ _ [] _ _
            refine xw_vret (aX0_putLeb 33 rfl) rfl ?_
            exact ⟨rfl, FI65, rfl, hI66, (gf_tr ex_rf fr5 f67 rfl rfl rfl), (by have := congrArg Int32.toInt (show FI65 119 1 = x73 from h74); omega), (by have := congrArg Int32.toInt (show FI65 119 1 = x73 from h74); omega)⟩
          · refine hw_aloadn (aX0_putLeb 15 rfl) rfl ?_
            refine xw_lloadn (aX0_putLeb 16 rfl) rfl ?_
            refine xw_ldc2 (aX0_putLeb 17 rfl) wk_RX0_161 ?_
            refine xw_land (aX0_putLeb 18 rfl) ?_
            refine hw_tlb (lo := 0) (hi := 127) (l_and (x := y3) (m := (127 : Int64)) (M := 127) (by decide) (by decide)) (fun x76 b77 => ?_)
            refine xw_l2i (aX0_putLeb 19 rfl) ?_
            refine hw_tie (A := (x76).toInt) (l_2i rfl (by omega) (by omega)) (fun x78 e79 => ?_)
            refine hw_sp (v := (128 : Int32)) (aX0_putLeb 20 rfl) (by decide) ?_
            refine xw_ior (aX0_putLeb 21 rfl) ?_
            refine hw_ti (fun x80 => ?_)
            have b81 := i_rng x80
            refine hw_callV (Bs := [.int (x80)]) (rest := []) (aX0_putLeb 22 rfl) wc_RX0_62 (by decide) rfl wi_yX0_put wv_yX0_put (c119 hS) (s119 hS) rfl rfl rfl (Nat.le_of_ble_eq_true rfl) (Nat.le_of_ble_eq_true rfl) (k_X0_put (d := d) hS hF hI6 hR (x80) (by have := congrArg Int32.toInt (show FIv4 119 1 = x10 from h11); omega)) (fun v82 sv83 p84 => ?_)
            have := congrArg Int32.toInt (show FIv4 119 1 = x10 from h11)
            obtain ⟨rfl, FI86, rfl, hI87, f88, t91⟩ := p84
            obtain ⟨x94, h95⟩ : ∃ y, FI86 119 1 = y := ⟨_, rfl⟩
            have h95l := congrArg Int32.toInt h95
            have b96 := gI_119_1 hI87; rw [h95] at b96
            show hw sk base _ _ _ _ _ [] _ _
            refine xw_lloadn (aX0_putLeb 23 rfl) rfl ?_
            refine hw_bp (v := (7 : Int32)) (aX0_putLeb 24 rfl) (by decide) ?_
            refine xw_lushr (aX0_putLeb 25 rfl) ?_
            refine hw_tl (fun x97 => ?_)
            have b98 := l_rng x97
            refine xw_lstoren (L2 := [(3, .long (x97)), (5, .int (y5)), (0, .ref (base + 119))]) (aX0_putLeb 26 rfl) (by decide) rfl ?_
            obtain ⟨x99, q101⟩ : ∃ y : Int32, (y5) + Int32.ofInt (1) = y := ⟨_, rfl⟩
            have e100 : (x99).toInt = (y5).toInt + (1) := by rw [← q101]; exact i_add rfl (by decide) (by omega) (by omega)
            refine xw_iinc (L2 := [(5, .int (x99)), (3, .long (x97)), (0, .ref (base + 119))]) (aX0_putLeb 27 rfl) rfl (by decide) (by rw [q101]; rfl) ?_
            refine xw_goto (tgt := 5) (aX0_putLeb 28 rfl) (by decide) ?_
            exact hw_L (ih (x99) (x97) FI86 (gf_tr ex_rf fr5 f88 rfl rfl rfl) hI87 (by have := (e100 : (x99).toInt = (y5).toInt + (1)); omega) (by have := (e100 : (x99).toInt = (y5).toInt + (1)); have := congrArg Int32.toInt (show FI86 119 1 = x94 from h95); omega) (by have := (e100 : (x99).toInt = (y5).toInt + (1)); omega)) ⟨rfl, rfl, rfl, trivial⟩
  exact hw_L (lp9 ((9 - 0 : Int).toNat + 1) ((0 : Int32)) (a1) FI gf_rf hI (by have := ((by decide : (0 : Int32).toInt = 0) : ((0 : Int32)).toInt = 0); omega) (by have := ((by decide : (0 : Int32).toInt = 0) : ((0 : Int32)).toInt = 0); have := congrArg Int32.toInt (show FI 119 1 = x1 from h2); omega) (by have := ((by decide : (0 : Int32).toInt = 0) : ((0 : Int32)).toInt = 0); omega)) ⟨rfl, rfl, rfl, trivial⟩
def nX0_putSignedLeb : Nat := 0xb13e00b6887fa10014212ad3ffa7010584427b0710213e00b680800011887fa10014212a1c009e94a50014210b009b94a30014212c00a209100515053603421f
theorem bX0_putSignedLeb : cX0_putSignedLeb.data.toList.map UInt8.toNat = x_un nX0_putSignedLeb 64 := by decide +kernel
def iX0_putSignedLeb : List (Nat × Jvm.ClassFile.Instr × Nat) := [(0, .lload_n 1, 1), (1, .lstore_n 3, 1), (2, .iconst 0, 1), (3, .istore 5, 2), (5, .iload 5, 2), (7, .bipush 9, 2), (9, .if_icmp .ge 44, 3), (12, .lload_n 3, 1), (13, .ldc2_w 163, 3), (16, .lcmp, 1), (17, .ifCond .lt 11, 3), (20, .lload_n 3, 1), (21, .ldc2_w 165, 3), (24, .lcmp, 1), (25, .ifCond .le 28, 3), (28, .aload_n 0, 1), (29, .lload_n 3, 1), (30, .ldc2_w 161, 3), (33, .land, 1), (34, .l2i, 1), (35, .sipush 128, 3), (38, .ior, 1), (39, .invokevirtual 62, 3), (42, .lload_n 3, 1), (43, .bipush 7, 2), (45, .lshr, 1), (46, .lstore_n 3, 1), (47, .iinc 5 1, 3), (50, .goto (-45), 3), (53, .aload_n 0, 1), (54, .lload_n 3, 1), (55, .ldc2_w 161, 3), (58, .land, 1), (59, .l2i, 1), (60, .invokevirtual 62, 3), (63, .return_, 1)]
theorem dX0_putSignedLeb : x_il nX0_putSignedLeb 64 iX0_putSignedLeb = true := by decide +kernel
theorem aX0_putSignedLeb (k : Nat) {pc : Nat} {i : Jvm.ClassFile.Instr} {len : Nat} (hk : iX0_putSignedLeb[k]? = some (pc, i, len)) : x_at xMM 18 pc i len yX0_putSignedLeb 6 none := ⟨cX0_putSignedLeb, rfl, x_il_ok bX0_putSignedLeb dX0_putSignedLeb k hk⟩
set_option maxHeartbeats 4000000 in
set_option maxRecDepth 100000 in
theorem k_X0_putSignedLeb {sk : xK} {base d n sl : Nat} {SH : Nat → Nat × Nat} {FI : Nat → Nat → Int32} {FL : Nat → Nat → Int64} {FR : Nat → Nat → Option Nat} (hS : h_S n SH) (hF : h_FR FR) (hI : g_I FI) (hR : g_R n SH FR) (a1 : Int64) (g0 : (FI 119 1).toInt ≤ 1999999980) : hw sk base (d + 1) none 18 0 [(0, .ref (base + 119)), (1, .long (a1))] [] (n, sl, SH, FI, FL, FR) (h_V (fun s => ∃ FI', s = (n, sl, SH, FI', FL, FR) ∧ g_I FI' ∧ g_fr n (shd SH) [(119, 1)] [120] [] FI FI' ∧ ((FI' 119 1).toInt ≤ (FI 119 1).toInt + 10) ∧ ((FI 119 1).toInt ≤ (FI' 119 1).toInt))) := by
  have rg_a1 := l_rng a1
  obtain ⟨x1, h2⟩ : ∃ y, FI 119 1 = y := ⟨_, rfl⟩
  have h2l := congrArg Int32.toInt h2
  have b3 := gI_119_1 hI; rw [h2] at b3
  refine xw_lloadn (aX0_putSignedLeb 0 rfl) rfl ?_
  refine xw_lstoren (L2 := [(3, .long (a1)), (0, .ref (base + 119)), (1, .long (a1))]) (aX0_putSignedLeb 1 rfl) (by decide) rfl ?_
  refine hw_ic (v := (0 : Int32)) (aX0_putSignedLeb 2 rfl) (by decide) ?_
  refine xw_istore (L2 := [(5, .int ((0 : Int32))), (3, .long (a1)), (0, .ref (base + 119)), (1, .long (a1))]) (aX0_putSignedLeb 3 rfl) (by decide) rfl ?_
  have lp9 : ∀ (m : Nat) (y5 : Int32) (y3 : Int64) (FIv4 : Nat → Nat → Int32), (g_fr n (shd SH) [(119, 1)] [120] [] FI FIv4) → (g_I FIv4) → (0 ≤ (y5).toInt ∧ (y5).toInt ≤ 9) → ((FIv4 119 1).toInt = (FI 119 1).toInt + (y5).toInt) → 9 - (y5).toInt < m → hw sk base (d + 1) none 18 5 [(5, .int (y5)), (3, .long (y3)), (0, .ref (base + 119))] [] (n, sl, SH, FIv4, FL, FR) (h_V (fun s => ∃ FI', s = (n, sl, SH, FI', FL, FR) ∧ g_I FI' ∧ g_fr n (shd SH) [(119, 1)] [120] [] FI FI' ∧ ((FI' 119 1).toInt ≤ (FI 119 1).toInt + 10) ∧ ((FI 119 1).toInt ≤ (FI' 119 1).toInt))) := by
    intro m
    induction m with
    | zero => intro y5 y3 FIv4 fr5 hI6 iv7 iv8 hm; omega
    | succ m ih =>
      intro y5 y3 FIv4 fr5 hI6 iv7 iv8 hm
      have rg_y5 := i_rng y5
      have rg_y3 := l_rng y3
      obtain ⟨x10, h11⟩ : ∃ y, FIv4 119 1 = y := ⟨_, rfl⟩
      have h11l := congrArg Int32.toInt h11
      have b12 := gI_119_1 hI6; rw [h11] at b12
      refine xw_iload (aX0_putSignedLeb 4 rfl) rfl ?_
      refine hw_bp (v := (9 : Int32)) (aX0_putSignedLeb 5 rfl) (by decide) ?_
      refine hw_icge (tgt := 53) (aX0_putSignedLeb 6 rfl) (by decide) rfl (by decide : (9 : Int32).toInt = 9) (fun cd13 => ?_) (fun cd13 => ?_)
      · refine hw_aloadn (aX0_putSignedLeb 29 rfl) rfl ?_
        refine xw_lloadn (aX0_putSignedLeb 30 rfl) rfl ?_
        refine xw_ldc2 (aX0_putSignedLeb 31 rfl) wk_RX0_161 ?_
        refine xw_land (aX0_putSignedLeb 32 rfl) ?_
        refine hw_tlb (lo := 0) (hi := 127) (l_and (x := y3) (m := (127 : Int64)) (M := 127) (by decide) (by decide)) (fun x14 b15 => ?_)
        refine xw_l2i (aX0_putSignedLeb 33 rfl) ?_
        refine hw_tie (A := (x14).toInt) (l_2i rfl (by omega) (by omega)) (fun x16 e17 => ?_)
        refine hw_callV (Bs := [.int (x16)]) (rest := []) (aX0_putSignedLeb 34 rfl) wc_RX0_62 (by decide) rfl wi_yX0_put wv_yX0_put (c119 hS) (s119 hS) rfl rfl rfl (Nat.le_of_ble_eq_true rfl) (Nat.le_of_ble_eq_true rfl) (k_X0_put (d := d) hS hF hI6 hR (x16) (by have := congrArg Int32.toInt (show FIv4 119 1 = x10 from h11); omega)) (fun v18 sv19 p20 => ?_)
        have := congrArg Int32.toInt (show FIv4 119 1 = x10 from h11)
        obtain ⟨rfl, FI22, rfl, hI23, f24, t27⟩ := p20
        obtain ⟨x30, h31⟩ : ∃ y, FI22 119 1 = y := ⟨_, rfl⟩
        have h31l := congrArg Int32.toInt h31
        have b32 := gI_119_1 hI23; rw [h31] at b32
        show hw sk base _ _ _ _ _ [] _ _
        refine xw_vret (aX0_putSignedLeb 35 rfl) rfl ?_
        exact ⟨rfl, FI22, rfl, hI23, (gf_tr ex_rf fr5 f24 rfl rfl rfl), (by have := congrArg Int32.toInt (show FI22 119 1 = x30 from h31); omega), (by have := congrArg Int32.toInt (show FI22 119 1 = x30 from h31); omega)⟩
      · refine xw_lloadn (aX0_putSignedLeb 7 rfl) rfl ?_
        refine xw_ldc2 (aX0_putSignedLeb 8 rfl) wk_RX0_163 ?_
        refine hw_lclt (tgt := 28) (aX0_putSignedLeb 9 rfl) (aX0_putSignedLeb 10 rfl) (by decide) rfl (by decide : ((-64) : Int64).toInt = (-64)) (fun cd33 => ?_) (fun cd33 => ?_)
        · refine hw_aloadn (aX0_putSignedLeb 15 rfl) rfl ?_
          refine xw_lloadn (aX0_putSignedLeb 16 rfl) rfl ?_
          refine xw_ldc2 (aX0_putSignedLeb 17 rfl) wk_RX0_161 ?_
          refine xw_land (aX0_putSignedLeb 18 rfl) ?_
          refine hw_tlb (lo := 0) (hi := 127) (l_and (x := y3) (m := (127 : Int64)) (M := 127) (by decide) (by decide)) (fun x34 b35 => ?_)
          refine xw_l2i (aX0_putSignedLeb 19 rfl) ?_
          refine hw_tie (A := (x34).toInt) (l_2i rfl (by omega) (by omega)) (fun x36 e37 => ?_)
          refine hw_sp (v := (128 : Int32)) (aX0_putSignedLeb 20 rfl) (by decide) ?_
          refine xw_ior (aX0_putSignedLeb 21 rfl) ?_
          refine hw_ti (fun x38 => ?_)
          have b39 := i_rng x38
          refine hw_callV (Bs := [.int (x38)]) (rest := []) (aX0_putSignedLeb 22 rfl) wc_RX0_62 (by decide) rfl wi_yX0_put wv_yX0_put (c119 hS) (s119 hS) rfl rfl rfl (Nat.le_of_ble_eq_true rfl) (Nat.le_of_ble_eq_true rfl) (k_X0_put (d := d) hS hF hI6 hR (x38) (by have := congrArg Int32.toInt (show FIv4 119 1 = x10 from h11); omega)) (fun v40 sv41 p42 => ?_)
          have := congrArg Int32.toInt (show FIv4 119 1 = x10 from h11)
          obtain ⟨rfl, FI44, rfl, hI45, f46, t49⟩ := p42
          obtain ⟨x52, h53⟩ : ∃ y, FI44 119 1 = y := ⟨_, rfl⟩
          have h53l := congrArg Int32.toInt h53
          have b54 := gI_119_1 hI45; rw [h53] at b54
          show hw sk base _ _ _ _ _ [] _ _
          refine xw_lloadn (aX0_putSignedLeb 23 rfl) rfl ?_
          refine hw_bp (v := (7 : Int32)) (aX0_putSignedLeb 24 rfl) (by decide) ?_
          refine xw_lshr (aX0_putSignedLeb 25 rfl) ?_
          refine hw_tl (fun x55 => ?_)
          have b56 := l_rng x55
          refine xw_lstoren (L2 := [(3, .long (x55)), (5, .int (y5)), (0, .ref (base + 119))]) (aX0_putSignedLeb 26 rfl) (by decide) rfl ?_
          obtain ⟨x57, q59⟩ : ∃ y : Int32, (y5) + Int32.ofInt (1) = y := ⟨_, rfl⟩
          have e58 : (x57).toInt = (y5).toInt + (1) := by rw [← q59]; exact i_add rfl (by decide) (by omega) (by omega)
          refine xw_iinc (L2 := [(5, .int (x57)), (3, .long (x55)), (0, .ref (base + 119))]) (aX0_putSignedLeb 27 rfl) rfl (by decide) (by rw [q59]; rfl) ?_
          refine xw_goto (tgt := 5) (aX0_putSignedLeb 28 rfl) (by decide) ?_
          exact hw_L (ih (x57) (x55) FI44 (gf_tr ex_rf fr5 f46 rfl rfl rfl) hI45 (by have := (e58 : (x57).toInt = (y5).toInt + (1)); omega) (by have := (e58 : (x57).toInt = (y5).toInt + (1)); have := congrArg Int32.toInt (show FI44 119 1 = x52 from h53); omega) (by have := (e58 : (x57).toInt = (y5).toInt + (1)); omega)) ⟨rfl, rfl, rfl, trivial⟩
        · refine xw_lloadn (aX0_putSignedLeb 11 rfl) rfl ?_
          refine xw_ldc2 (aX0_putSignedLeb 12 rfl) wk_RX0_165 ?_
          refine hw_lcle (tgt := 53) (aX0_putSignedLeb 13 rfl) (aX0_putSignedLeb 14 rfl) (by decide) rfl (by decide : (63 : Int64).toInt = 63) (fun cd60 => ?_) (fun cd60 => ?_)
          · refine hw_aloadn (aX0_putSignedLeb 29 rfl) rfl ?_
            refine xw_lloadn (aX0_putSignedLeb 30 rfl) rfl ?_
            refine xw_ldc2 (aX0_putSignedLeb 31 rfl) wk_RX0_161 ?_
            refine xw_land (aX0_putSignedLeb 32 rfl) ?_
            refine hw_tlb (lo := 0) (hi := 127) (l_and (x := y3) (m := (127 : Int64)) (M := 127) (by decide) (by decide)) (fun x61 b62 => ?_)
            refine xw_l2i (aX0_putSignedLeb 33 rfl) ?_
            refine hw_tie (A := (x61).toInt) (l_2i rfl (by omega) (by omega)) (fun x63 e64 => ?_)
            refine hw_callV (Bs := [.int (x63)]) (rest := []) (aX0_putSignedLeb 34 rfl) wc_RX0_62 (by decide) rfl wi_yX0_put wv_yX0_put (c119 hS) (s119 hS) rfl rfl rfl (Nat.le_of_ble_eq_true rfl) (Nat.le_of_ble_eq_true rfl) (k_X0_put (d := d) hS hF hI6 hR (x63) (by have := congrArg Int32.toInt (show FIv4 119 1 = x10 from h11); omega)) (fun v65 sv66 p67 => ?_)
            have := congrArg Int32.toInt (show FIv4 119 1 = x10 from h11)
            obtain ⟨rfl, FI69, rfl, hI70, f71, t74⟩ := p67
            obtain ⟨x77, h78⟩ : ∃ y, FI69 119 1 = y := ⟨_, rfl⟩
            have h78l := congrArg Int32.toInt h78
            have b79 := gI_119_1 hI70; rw [h78] at b79
            show hw sk base _ _ _ _ _ [] _ _
            refine xw_vret (aX0_putSignedLeb 35 rfl) rfl ?_
            exact ⟨rfl, FI69, rfl, hI70, (gf_tr ex_rf fr5 f71 rfl rfl rfl), (by have := congrArg Int32.toInt (show FI69 119 1 = x77 from h78); omega), (by have := congrArg Int32.toInt (show FI69 119 1 = x77 from h78); omega)⟩
          · refine hw_aloadn (aX0_putSignedLeb 15 rfl) rfl ?_
            refine xw_lloadn (aX0_putSignedLeb 16 rfl) rfl ?_
            refine xw_ldc2 (aX0_putSignedLeb 17 rfl) wk_RX0_161 ?_
            refine xw_land (aX0_putSignedLeb 18 rfl) ?_
            refine hw_tlb (lo := 0) (hi := 127) (l_and (x := y3) (m := (127 : Int64)) (M := 127) (by decide) (by decide)) (fun x80 b81 => ?_)
            refine xw_l2i (aX0_putSignedLeb 19 rfl) ?_
            refine hw_tie (A := (x80).toInt) (l_2i rfl (by omega) (by omega)) (fun x82 e83 => ?_)
            refine hw_sp (v := (128 : Int32)) (aX0_putSignedLeb 20 rfl) (by decide) ?_
            refine xw_ior (aX0_putSignedLeb 21 rfl) ?_
            refine hw_ti (fun x84 => ?_)
            have b85 := i_rng x84
            refine hw_callV (Bs := [.int (x84)]) (rest := []) (aX0_putSignedLeb 22 rfl) wc_RX0_62 (by decide) rfl wi_yX0_put wv_yX0_put (c119 hS) (s119 hS) rfl rfl rfl (Nat.le_of_ble_eq_true rfl) (Nat.le_of_ble_eq_true rfl) (k_X0_put (d := d) hS hF hI6 hR (x84) (by have := congrArg Int32.toInt (show FIv4 119 1 = x10 from h11); omega)) (fun v86 sv87 p88 => ?_)
            have := congrArg Int32.toInt (show FIv4 119 1 = x10 from h11)
            obtain ⟨rfl, FI90, rfl, hI91, f92, t95⟩ := p88
            obtain ⟨x98, h99⟩ : ∃ y, FI90 119 1 = y := ⟨_, rfl⟩
            have h99l := congrArg Int32.toInt h99
            have b100 := gI_119_1 hI91; rw [h99] at b100
            show hw sk base _ _ _ _ _ [] _ _
            refine xw_lloadn (aX0_putSignedLeb 23 rfl) rfl ?_
            refine hw_bp (v := (7 : Int32)) (aX0_putSignedLeb 24 rfl) (by decide) ?_
            refine xw_lshr (aX0_putSignedLeb 25 rfl) ?_
            refine hw_tl (fun x101 => ?_)
            have b102 := l_rng x101
            refine xw_lstoren (L2 := [(3, .long (x101)), (5, .int (y5)), (0, .ref (base + 119))]) (aX0_putSignedLeb 26 rfl) (by decide) rfl ?_
            obtain ⟨x103, q105⟩ : ∃ y : Int32, (y5) + Int32.ofInt (1) = y := ⟨_, rfl⟩
            have e104 : (x103).toInt = (y5).toInt + (1) := by rw [← q105]; exact i_add rfl (by decide) (by omega) (by omega)
            refine xw_iinc (L2 := [(5, .int (x103)), (3, .long (x101)), (0, .ref (base + 119))]) (aX0_putSignedLeb 27 rfl) rfl (by decide) (by rw [q105]; rfl) ?_
            refine xw_goto (tgt := 5) (aX0_putSignedLeb 28 rfl) (by decide) ?_
            exact hw_L (ih (x103) (x101) FI90 (gf_tr ex_rf fr5 f92 rfl rfl rfl) hI91 (by have := (e104 : (x103).toInt = (y5).toInt + (1)); omega) (by have := (e104 : (x103).toInt = (y5).toInt + (1)); have := congrArg Int32.toInt (show FI90 119 1 = x98 from h99); omega) (by have := (e104 : (x103).toInt = (y5).toInt + (1)); omega)) ⟨rfl, rfl, rfl, trivial⟩
  exact hw_L (lp9 ((9 - 0 : Int).toNat + 1) ((0 : Int32)) (a1) FI gf_rf hI (by have := ((by decide : (0 : Int32).toInt = 0) : ((0 : Int32)).toInt = 0); omega) (by have := ((by decide : (0 : Int32).toInt = 0) : ((0 : Int32)).toInt = 0); have := congrArg Int32.toInt (show FI 119 1 = x1 from h2); omega) (by have := ((by decide : (0 : Int32).toInt = 0) : ((0 : Int32)).toInt = 0); omega)) ⟨rfl, rfl, rfl, trivial⟩
def nX11_feedFour : Nat := 0xb1d5ffa7f802844500b560044500b4592a4f7eff00117c1c1b4500b42a1000b42a2300a2e803114500b42a2d009b1c3d1810
theorem bX11_feedFour : cX11_feedFour.data.toList.map UInt8.toNat = x_un nX11_feedFour 50 := by decide +kernel
def iX11_feedFour : List (Nat × Jvm.ClassFile.Instr × Nat) := [(0, .bipush 24, 2), (2, .istore_n 2, 1), (3, .iload_n 2, 1), (4, .ifCond .lt 45, 3), (7, .aload_n 0, 1), (8, .getfield 69, 3), (11, .sipush 1000, 3), (14, .if_icmp .ge 35, 3), (17, .aload_n 0, 1), (18, .getfield 16, 3), (21, .aload_n 0, 1), (22, .getfield 69, 3), (25, .iload_n 1, 1), (26, .iload_n 2, 1), (27, .iushr, 1), (28, .sipush 255, 3), (31, .iand, 1), (32, .iastore, 1), (33, .aload_n 0, 1), (34, .dup, 1), (35, .getfield 69, 3), (38, .iconst 1, 1), (39, .iadd, 1), (40, .putfield 69, 3), (43, .iinc 2 (-8), 3), (46, .goto (-43), 3), (49, .return_, 1)]
theorem dX11_feedFour : x_il nX11_feedFour 50 iX11_feedFour = true := by decide +kernel
theorem aX11_feedFour (k : Nat) {pc : Nat} {i : Jvm.ClassFile.Instr} {len : Nat} (hk : iX11_feedFour[k]? = some (pc, i, len)) : x_at xMM 119 pc i len yX11_feedFour 3 none := ⟨cX11_feedFour, rfl, x_il_ok bX11_feedFour dX11_feedFour k hk⟩
set_option maxHeartbeats 4000000 in
set_option maxRecDepth 100000 in
theorem k_X11_feedFour {sk : xK} {base d n sl : Nat} {SH : Nat → Nat × Nat} {FI : Nat → Nat → Int32} {FL : Nat → Nat → Int64} {FR : Nat → Nat → Option Nat} (hS : h_S n SH) (hF : h_FR FR) (hI : g_I FI) (hR : g_R n SH FR) (a1 : Int32) : hw sk base d none 119 0 [(0, .ref (base + 0)), (1, .int (a1))] [] (n, sl, SH, FI, FL, FR) (h_V (fun s => ∃ FI', s = (n, sl, SH, FI', FL, FR) ∧ g_I FI' ∧ g_fr n (shd SH) [(0, 9)] [19] [] FI FI' ∧ ((FI' 0 9).toInt ≤ (FI 0 9).toInt + 4))) := by
  have rg_a1 := i_rng a1
  obtain ⟨x1, h2⟩ : ∃ y, FI 0 9 = y := ⟨_, rfl⟩
  have h2l := congrArg Int32.toInt h2
  have b3 := gI_0_9 hI; rw [h2] at b3
  refine hw_bp (v := (24 : Int32)) (aX11_feedFour 0 rfl) (by decide) ?_
  refine xw_istoren (L2 := [(2, .int ((24 : Int32))), (0, .ref (base + 0)), (1, .int (a1))]) (aX11_feedFour 1 rfl) (by decide) rfl ?_
  have lp9 : ∀ (m : Nat) (y2 : Int32) (FIv4 : Nat → Nat → Int32), (g_fr n (shd SH) [(0, 9)] [19] [] FI FIv4) → (g_I FIv4) → (-8 ≤ (y2).toInt ∧ (y2).toInt ≤ 24) → (8 * ((FIv4 0 9).toInt - (FI 0 9).toInt) ≤ 24 - (y2).toInt) → (y2).toInt + 8 < m → hw sk base d none 119 3 [(2, .int (y2)), (0, .ref (base + 0)), (1, .int (a1))] [] (n, sl, SH, FIv4, FL, FR) (h_V (fun s => ∃ FI', s = (n, sl, SH, FI', FL, FR) ∧ g_I FI' ∧ g_fr n (shd SH) [(0, 9)] [19] [] FI FI' ∧ ((FI' 0 9).toInt ≤ (FI 0 9).toInt + 4))) := by
    intro m
    induction m with
    | zero => intro y2 FIv4 fr5 hI6 iv7 iv8 hm; omega
    | succ m ih =>
      intro y2 FIv4 fr5 hI6 iv7 iv8 hm
      have rg_y2 := i_rng y2
      obtain ⟨x10, h11⟩ : ∃ y, FIv4 0 9 = y := ⟨_, rfl⟩
      have h11l := congrArg Int32.toInt h11
      have b12 := gI_0_9 hI6; rw [h11] at b12
      refine xw_iloadn (aX11_feedFour 2 rfl) rfl ?_
      refine hw_iflt (tgt := 49) (aX11_feedFour 3 rfl) (by decide) rfl (fun cd13 => ?_) (fun cd13 => ?_)
      · refine xw_vret (aX11_feedFour 26 rfl) rfl ?_
        exact ⟨rfl, FIv4, rfl, hI6, fr5, (by have := congrArg Int32.toInt (show FIv4 0 9 = x10 from h11); omega)⟩
      · refine hw_aloadn (aX11_feedFour 4 rfl) rfl ?_
        refine hw_get (v := .int (x10)) (aX11_feedFour 5 rfl) wf_RX11_69 (c0 hS) (s0 hS) (by decide) (congrArg Value.int (show FIv4 0 9 = x10 from h11)) ?_
        refine hw_sp (v := (1000 : Int32)) (aX11_feedFour 6 rfl) (by decide) ?_
        refine hw_icge (tgt := 49) (aX11_feedFour 7 rfl) (by decide) rfl (by decide : (1000 : Int32).toInt = 1000) (fun cd14 => ?_) (fun cd14 => ?_)
        · refine xw_vret (aX11_feedFour 26 rfl) rfl ?_
          exact ⟨rfl, FIv4, rfl, hI6, fr5, (by have := congrArg Int32.toInt (show FIv4 0 9 = x10 from h11); omega)⟩
        · refine hw_aloadn (aX11_feedFour 8 rfl) rfl ?_
          refine hw_get (v := .ref (base + 19)) (aX11_feedFour 9 rfl) wf_RX11_16 (c0 hS) (s0 hS) (by decide) (congrArg (fun r => va_rf (h_rf base r)) (r0_6 hF)) ?_
          refine hw_aloadn (aX11_feedFour 10 rfl) rfl ?_
          refine hw_get (v := .int (x10)) (aX11_feedFour 11 rfl) wf_RX11_69 (c0 hS) (s0 hS) (by decide) (congrArg Value.int (show FIv4 0 9 = x10 from h11)) ?_
          refine xw_iloadn (aX11_feedFour 12 rfl) rfl ?_
          refine xw_iloadn (aX11_feedFour 13 rfl) rfl ?_
          refine xw_iushr (aX11_feedFour 14 rfl) ?_
          refine hw_ti (fun x15 => ?_)
          have b16 := i_rng x15
          refine hw_sp (v := (255 : Int32)) (aX11_feedFour 15 rfl) (by decide) ?_
          refine xw_iand (aX11_feedFour 16 rfl) ?_
          refine hw_tib (lo := 0) (hi := 255) (i_and (x := x15) (m := (255 : Int32)) (M := 255) (by decide) (by decide)) (fun x17 b18 => ?_)
          refine hv_iast (k := (x10).toNatClampNeg) (aX11_feedFour 17 rfl) (c19 hS) (s19 hS) (h_in rfl (by omega) (by omega)) rfl (fun FI19 u20 => ?_)
          have hI21 : g_I FI19 := gU_F hI6 u20 rfl
          refine hw_aloadn (aX11_feedFour 18 rfl) rfl ?_
          refine xw_dup (aX11_feedFour 19 rfl) rfl ?_
          refine hw_get (v := .int (x10)) (aX11_feedFour 20 rfl) wf_RX11_69 (c0 hS) (s0 hS) (by decide) (congrArg Value.int (show FI19 0 9 = x10 from (up_c u20 (by decide) (h11)))) ?_
          refine hw_ic (v := (1 : Int32)) (aX11_feedFour 21 rfl) (by decide) ?_
          refine xw_iadd (aX11_feedFour 22 rfl) ?_
          refine hw_tie (A := ((x10).toInt) + (1)) (i_add rfl (by decide : (1 : Int32).toInt = 1) (by omega) (by omega)) (fun x22 e23 => ?_)
          refine hv_puti (aX11_feedFour 23 rfl) wf_RX11_69 (c0 hS) (s0 hS) (by decide) rfl rfl (fun FI24 u25 => ?_)
          have hI26 : g_I FI24 := gU_0_9 hI21 u25 (by have := (e23 : (x22).toInt = ((x10).toInt) + (1)); omega) (by have := (e23 : (x22).toInt = ((x10).toInt) + (1)); omega)
          obtain ⟨x27, q29⟩ : ∃ y : Int32, (y2) + Int32.ofInt (-8) = y := ⟨_, rfl⟩
          have e28 : (x27).toInt = (y2).toInt + (-8) := by rw [← q29]; exact i_add rfl (by decide) (by omega) (by omega)
          refine xw_iinc (L2 := [(2, .int (x27)), (0, .ref (base + 0)), (1, .int (a1))]) (aX11_feedFour 24 rfl) rfl (by decide) (by rw [q29]; rfl) ?_
          refine xw_goto (tgt := 3) (aX11_feedFour 25 rfl) (by decide) ?_
          exact hw_L (ih (x27) FI24 (gf_f (gf_a fr5 u20 (by decide)) u25 (by decide)) hI26 (by have := (e28 : (x27).toInt = (y2).toInt + (-8)); omega) (by have := (e28 : (x27).toInt = (y2).toInt + (-8)); have := congrArg Int32.toInt (show FI24 0 9 = x22 from up_eq u25); have := (e23 : (x22).toInt = ((x10).toInt) + (1)); omega) (by have := (e28 : (x27).toInt = (y2).toInt + (-8)); omega)) ⟨rfl, rfl, rfl, trivial⟩
  exact hw_L (lp9 ((24 + 8 : Int).toNat + 1) ((24 : Int32)) FI gf_rf hI (by have := ((by decide : (24 : Int32).toInt = 24) : ((24 : Int32)).toInt = 24); omega) (by have := ((by decide : (24 : Int32).toInt = 24) : ((24 : Int32)).toInt = 24); have := congrArg Int32.toInt (show FI 0 9 = x1 from h2); omega) (by have := ((by decide : (24 : Int32).toInt = 24) : ((24 : Int32)).toInt = 24); omega)) ⟨rfl, rfl, rfl, trivial⟩
def nX11_feed : Nat := 0xac4500b42a4900b605152a4900b604152a4900b61d2a4900b61c2a4900b61b2aac020500a4e803116014104500b42a
theorem bX11_feed : cX11_feed.data.toList.map UInt8.toNat = x_un nX11_feed 47 := by decide +kernel
def iX11_feed : List (Nat × Jvm.ClassFile.Instr × Nat) := [(0, .aload_n 0, 1), (1, .getfield 69, 3), (4, .bipush 20, 2), (6, .iadd, 1), (7, .sipush 1000, 3), (10, .if_icmp .le 5, 3), (13, .iconst (-1), 1), (14, .ireturn, 1), (15, .aload_n 0, 1), (16, .iload_n 1, 1), (17, .invokevirtual 73, 3), (20, .aload_n 0, 1), (21, .iload_n 2, 1), (22, .invokevirtual 73, 3), (25, .aload_n 0, 1), (26, .iload_n 3, 1), (27, .invokevirtual 73, 3), (30, .aload_n 0, 1), (31, .iload 4, 2), (33, .invokevirtual 73, 3), (36, .aload_n 0, 1), (37, .iload 5, 2), (39, .invokevirtual 73, 3), (42, .aload_n 0, 1), (43, .getfield 69, 3), (46, .ireturn, 1)]
theorem dX11_feed : x_il nX11_feed 47 iX11_feed = true := by decide +kernel
theorem aX11_feed (k : Nat) {pc : Nat} {i : Jvm.ClassFile.Instr} {len : Nat} (hk : iX11_feed[k]? = some (pc, i, len)) : x_at xMM 118 pc i len yX11_feed 6 (some .int) := ⟨cX11_feed, rfl, x_il_ok bX11_feed dX11_feed k hk⟩
set_option maxHeartbeats 4000000 in
set_option maxRecDepth 100000 in
theorem k_X11_feed {sk : xK} {base d n sl : Nat} {SH : Nat → Nat × Nat} {FI : Nat → Nat → Int32} {FL : Nat → Nat → Int64} {FR : Nat → Nat → Option Nat} (hS : h_S n SH) (hF : h_FR FR) (hI : g_I FI) (hR : g_R n SH FR) (a1 : Int32) (a2 : Int32) (a3 : Int32) (a4 : Int32) (a5 : Int32) : hw sk base (d + 1) none 118 0 [(0, .ref (base + 0)), (1, .int (a1)), (2, .int (a2)), (3, .int (a3)), (4, .int (a4)), (5, .int (a5))] [] (n, sl, SH, FI, FL, FR) (h_I (fun r s => ∃ FI', s = (n, sl, SH, FI', FL, FR) ∧ g_I FI' ∧ g_fr n (shd SH) [(0, 9)] [19] [] FI FI' ∧ ((FI' 0 9).toInt ≤ (FI 0 9).toInt + 20))) := by
  have rg_a1 := i_rng a1
  have rg_a2 := i_rng a2
  have rg_a3 := i_rng a3
  have rg_a4 := i_rng a4
  have rg_a5 := i_rng a5
  obtain ⟨x1, h2⟩ : ∃ y, FI 0 9 = y := ⟨_, rfl⟩
  have h2l := congrArg Int32.toInt h2
  have b3 := gI_0_9 hI; rw [h2] at b3
  refine hw_aloadn (aX11_feed 0 rfl) rfl ?_
  refine hw_get (v := .int (x1)) (aX11_feed 1 rfl) wf_RX11_69 (c0 hS) (s0 hS) (by decide) (congrArg Value.int (show FI 0 9 = x1 from h2)) ?_
  refine hw_bp (v := (20 : Int32)) (aX11_feed 2 rfl) (by decide) ?_
  refine xw_iadd (aX11_feed 3 rfl) ?_
  refine hw_tie (A := ((x1).toInt) + (20)) (i_add rfl (by decide : (20 : Int32).toInt = 20) (by omega) (by omega)) (fun x4 e5 => ?_)
  refine hw_sp (v := (1000 : Int32)) (aX11_feed 4 rfl) (by decide) ?_
  refine hw_icle (tgt := 15) (aX11_feed 5 rfl) (by decide) e5 (by decide : (1000 : Int32).toInt = 1000) (fun cd6 => ?_) (fun cd6 => ?_)
  · refine hw_aloadn (aX11_feed 8 rfl) rfl ?_
    refine xw_iloadn (aX11_feed 9 rfl) rfl ?_
    refine hw_callV (Bs := [.int (a1)]) (rest := []) (aX11_feed 10 rfl) wc_RX11_73 (by decide) rfl wi_yX11_feedFour wv_yX11_feedFour (c0 hS) (s0 hS) rfl rfl rfl (Nat.le_of_ble_eq_true rfl) (Nat.le_of_ble_eq_true rfl) (k_X11_feedFour (d := d) hS hF hI hR (a1) ) (fun v7 sv8 p9 => ?_)
    have := congrArg Int32.toInt (show FI 0 9 = x1 from h2)
    obtain ⟨rfl, FI11, rfl, hI12, f13, t16⟩ := p9
    obtain ⟨x19, h20⟩ : ∃ y, FI11 0 9 = y := ⟨_, rfl⟩
    have h20l := congrArg Int32.toInt h20
    have b21 := gI_0_9 hI12; rw [h20] at b21
    show hw sk base _ _ _ _ _ [] _ _
    refine hw_aloadn (aX11_feed 11 rfl) rfl ?_
    refine xw_iloadn (aX11_feed 12 rfl) rfl ?_
    refine hw_callV (Bs := [.int (a2)]) (rest := []) (aX11_feed 13 rfl) wc_RX11_73 (by decide) rfl wi_yX11_feedFour wv_yX11_feedFour (c0 hS) (s0 hS) rfl rfl rfl (Nat.le_of_ble_eq_true rfl) (Nat.le_of_ble_eq_true rfl) (k_X11_feedFour (d := d) hS hF hI12 hR (a2) ) (fun v22 sv23 p24 => ?_)
    have := congrArg Int32.toInt (show FI11 0 9 = x19 from h20)
    obtain ⟨rfl, FI26, rfl, hI27, f28, t31⟩ := p24
    obtain ⟨x34, h35⟩ : ∃ y, FI26 0 9 = y := ⟨_, rfl⟩
    have h35l := congrArg Int32.toInt h35
    have b36 := gI_0_9 hI27; rw [h35] at b36
    show hw sk base _ _ _ _ _ [] _ _
    refine hw_aloadn (aX11_feed 14 rfl) rfl ?_
    refine xw_iloadn (aX11_feed 15 rfl) rfl ?_
    refine hw_callV (Bs := [.int (a3)]) (rest := []) (aX11_feed 16 rfl) wc_RX11_73 (by decide) rfl wi_yX11_feedFour wv_yX11_feedFour (c0 hS) (s0 hS) rfl rfl rfl (Nat.le_of_ble_eq_true rfl) (Nat.le_of_ble_eq_true rfl) (k_X11_feedFour (d := d) hS hF hI27 hR (a3) ) (fun v37 sv38 p39 => ?_)
    have := congrArg Int32.toInt (show FI26 0 9 = x34 from h35)
    obtain ⟨rfl, FI41, rfl, hI42, f43, t46⟩ := p39
    obtain ⟨x49, h50⟩ : ∃ y, FI41 0 9 = y := ⟨_, rfl⟩
    have h50l := congrArg Int32.toInt h50
    have b51 := gI_0_9 hI42; rw [h50] at b51
    show hw sk base _ _ _ _ _ [] _ _
    refine hw_aloadn (aX11_feed 17 rfl) rfl ?_
    refine xw_iload (aX11_feed 18 rfl) rfl ?_
    refine hw_callV (Bs := [.int (a4)]) (rest := []) (aX11_feed 19 rfl) wc_RX11_73 (by decide) rfl wi_yX11_feedFour wv_yX11_feedFour (c0 hS) (s0 hS) rfl rfl rfl (Nat.le_of_ble_eq_true rfl) (Nat.le_of_ble_eq_true rfl) (k_X11_feedFour (d := d) hS hF hI42 hR (a4) ) (fun v52 sv53 p54 => ?_)
    have := congrArg Int32.toInt (show FI41 0 9 = x49 from h50)
    obtain ⟨rfl, FI56, rfl, hI57, f58, t61⟩ := p54
    obtain ⟨x64, h65⟩ : ∃ y, FI56 0 9 = y := ⟨_, rfl⟩
    have h65l := congrArg Int32.toInt h65
    have b66 := gI_0_9 hI57; rw [h65] at b66
    show hw sk base _ _ _ _ _ [] _ _
    refine hw_aloadn (aX11_feed 20 rfl) rfl ?_
    refine xw_iload (aX11_feed 21 rfl) rfl ?_
    refine hw_callV (Bs := [.int (a5)]) (rest := []) (aX11_feed 22 rfl) wc_RX11_73 (by decide) rfl wi_yX11_feedFour wv_yX11_feedFour (c0 hS) (s0 hS) rfl rfl rfl (Nat.le_of_ble_eq_true rfl) (Nat.le_of_ble_eq_true rfl) (k_X11_feedFour (d := d) hS hF hI57 hR (a5) ) (fun v67 sv68 p69 => ?_)
    have := congrArg Int32.toInt (show FI56 0 9 = x64 from h65)
    obtain ⟨rfl, FI71, rfl, hI72, f73, t76⟩ := p69
    obtain ⟨x79, h80⟩ : ∃ y, FI71 0 9 = y := ⟨_, rfl⟩
    have h80l := congrArg Int32.toInt h80
    have b81 := gI_0_9 hI72; rw [h80] at b81
    show hw sk base _ _ _ _ _ [] _ _
    refine hw_aloadn (aX11_feed 23 rfl) rfl ?_
    refine hw_get (v := .int (x79)) (aX11_feed 24 rfl) wf_RX11_69 (c0 hS) (s0 hS) (by decide) (congrArg Value.int (show FI71 0 9 = x79 from h80)) ?_
    refine xw_iret (aX11_feed 25 rfl) rfl rfl ?_
    exact ⟨x79, rfl, FI71, rfl, hI72, (gf_tr ex_rf (gf_tr ex_rf (gf_tr ex_rf (gf_tr ex_rf (gf_tr ex_rf gf_rf f13 rfl rfl rfl) f28 rfl rfl rfl) f43 rfl rfl rfl) f58 rfl rfl rfl) f73 rfl rfl rfl), (by have := congrArg Int32.toInt (show FI71 0 9 = x79 from h80); omega)⟩
  · refine hw_ic (v := ((-1) : Int32)) (aX11_feed 6 rfl) (by decide) ?_
    refine xw_iret (aX11_feed 7 rfl) rfl rfl ?_
    have e82 : (((-1) : Int32)).toInt = (-1) := (by decide : ((-1) : Int32).toInt = (-1))
    exact ⟨((-1) : Int32), rfl, FI, rfl, hI, gf_rf, (by have : (((-1) : Int32)).toInt = (-1) := (by decide); have := congrArg Int32.toInt (show FI 0 9 = x1 from h2); omega)⟩
