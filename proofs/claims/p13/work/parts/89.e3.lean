def nX0_putBlock : Nat := 0xb1f0ffa70102843e00b62e1c2b2a1000a2be2b1c3d034200b685be2b2a3e00b69e00112ab10400c72b
theorem bX0_putBlock : cX0_putBlock.data.toList.map UInt8.toNat = x_un nX0_putBlock 41 := by decide +kernel
def iX0_putBlock : List (Nat × Jvm.ClassFile.Instr × Nat) := [(0, .aload_n 1, 1), (1, .ifnonnull 4, 3), (4, .return_, 1), (5, .aload_n 0, 1), (6, .sipush 158, 3), (9, .invokevirtual 62, 3), (12, .aload_n 0, 1), (13, .aload_n 1, 1), (14, .arraylength, 1), (15, .i2l, 1), (16, .invokevirtual 66, 3), (19, .iconst 0, 1), (20, .istore_n 2, 1), (21, .iload_n 2, 1), (22, .aload_n 1, 1), (23, .arraylength, 1), (24, .if_icmp .ge 16, 3), (27, .aload_n 0, 1), (28, .aload_n 1, 1), (29, .iload_n 2, 1), (30, .iaload, 1), (31, .invokevirtual 62, 3), (34, .iinc 2 1, 3), (37, .goto (-16), 3), (40, .return_, 1)]
theorem dX0_putBlock : x_il nX0_putBlock 41 iX0_putBlock = true := by decide +kernel
theorem aX0_putBlock (k : Nat) {pc : Nat} {i : Jvm.ClassFile.Instr} {len : Nat} (hk : iX0_putBlock[k]? = some (pc, i, len)) : x_at xMM 5 pc i len yX0_putBlock 3 none := ⟨cX0_putBlock, rfl, x_il_ok bX0_putBlock dX0_putBlock k hk⟩
set_option maxHeartbeats 4000000 in
set_option maxRecDepth 100000 in
theorem k_X0_putBlock {sk : xK} {base d n sl : Nat} {SH : Nat → Nat × Nat} {FI : Nat → Nat → Int32} {FL : Nat → Nat → Int64} {FR : Nat → Nat → Option Nat} (hS : h_S n SH) (hF : h_FR FR) (hI : g_I FI) (hR : g_R n SH FR) (a1 : Option Nat) (ha1t : ∀ q, a1 = some q → q < n ∧ own q ∧ SH q = (100, (SH q).2)) (g0 : (FI 119 1).toInt ≤ 1999999780) (gg0 : ∀ q, a1 = some q → (SH q).2 ≤ 64) : hw sk base (d + 2) none 5 0 [(0, .ref (base + 119)), (1, va_rf (h_rf base (a1)))] [] (n, sl, SH, FI, FL, FR) (h_V (fun s => ∃ FI', s = (n, sl, SH, FI', FL, FR) ∧ g_I FI' ∧ g_fr n (shd SH) [(119, 1)] [120] [] FI FI' ∧ ((FI' 119 1).toInt ≤ (FI 119 1).toInt + 80) ∧ ((FI 119 1).toInt ≤ (FI' 119 1).toInt))) := by
  obtain ⟨x1, h2⟩ : ∃ y, FI 119 1 = y := ⟨_, rfl⟩
  have h2l := congrArg Int32.toInt h2
  have b3 := gI_119_1 hI; rw [h2] at b3
  refine xw_aloadn (aX0_putBlock 0 rfl) rfl ?_
  refine xw_ifnonnull (v := h_rf base a1) (tgt := 5) (aX0_putBlock 1 rfl) (by decide) (fun hn4 => ?_) (fun hn4 => ?_)
  · obtain ⟨r5, rfl⟩ := h_rf_s hn4
    obtain ⟨lt6, ow7, sh8⟩ := ha1t r5 rfl
    show hw sk base _ _ _ _ [(0, .ref (base + 119)), (1, .ref (base + r5))] [] _ _
    have hz := gg0 r5 rfl
    refine hw_aloadn (aX0_putBlock 3 rfl) rfl ?_
    refine hw_sp (v := (158 : Int32)) (aX0_putBlock 4 rfl) (by decide) ?_
    refine hw_callV (Bs := [.int ((158 : Int32))]) (rest := []) (aX0_putBlock 5 rfl) wc_RX0_62 (by decide) rfl wi_yX0_put wv_yX0_put (c119 hS) (s119 hS) rfl rfl rfl (Nat.le_of_ble_eq_true rfl) (Nat.le_of_ble_eq_true rfl) (k_X0_put (d := d + 1) hS hF hI hR ((158 : Int32)) (by have := congrArg Int32.toInt (show FI 119 1 = x1 from h2); omega)) (fun v9 sv10 p11 => ?_)
    have := congrArg Int32.toInt (show FI 119 1 = x1 from h2)
    obtain ⟨rfl, FI13, rfl, hI14, f15, t18⟩ := p11
    obtain ⟨x21, h22⟩ : ∃ y, FI13 119 1 = y := ⟨_, rfl⟩
    have h22l := congrArg Int32.toInt h22
    have b23 := gI_119_1 hI14; rw [h22] at b23
    show hw sk base _ _ _ _ _ [] _ _
    refine hw_aloadn (aX0_putBlock 6 rfl) rfl ?_
    refine hw_aloadn (aX0_putBlock 7 rfl) rfl ?_
    obtain ⟨x24, h25⟩ : ∃ y, Int32.ofNat (SH r5).2 = y := ⟨_, rfl⟩
    have b26 : (x24).toInt ≤ (((SH r5).2 : Nat) : Int) := by rw [← h25]; exact i_len
    have := i_rng x24
    refine hw_alen (k := 0) (v := x24) (aX0_putBlock 8 rfl) lt6 sh8 (by decide) h25 ?_
    refine xw_i2l (aX0_putBlock 9 rfl) ?_
    refine hw_tle (A := (x24).toInt) (i_2l rfl) (fun x27 e28 => ?_)
    refine hw_callV (Bs := [.long (x27)]) (rest := []) (aX0_putBlock 10 rfl) wc_RX0_66 (by decide) rfl wi_yX0_putLeb wv_yX0_putLeb (c119 hS) (s119 hS) rfl rfl rfl (Nat.le_of_ble_eq_true rfl) (Nat.le_of_ble_eq_true rfl) (k_X0_putLeb (d := d) hS hF hI14 hR (x27) (by have := congrArg Int32.toInt (show FI13 119 1 = x21 from h22); omega)) (fun v29 sv30 p31 => ?_)
    have := congrArg Int32.toInt (show FI13 119 1 = x21 from h22)
    have := congrArg Int32.toInt (show FI13 119 1 = x21 from h22)
    obtain ⟨rfl, FI33, rfl, hI34, f35, t38, t39⟩ := p31
    obtain ⟨x42, h43⟩ : ∃ y, FI33 119 1 = y := ⟨_, rfl⟩
    have h43l := congrArg Int32.toInt h43
    have b44 := gI_119_1 hI34; rw [h43] at b44
    show hw sk base _ _ _ _ _ [] _ _
    refine hw_ic (v := (0 : Int32)) (aX0_putBlock 11 rfl) (by decide) ?_
    refine xw_istoren (L2 := [(2, .int ((0 : Int32))), (0, .ref (base + 119)), (1, .ref (base + r5))]) (aX0_putBlock 12 rfl) (by decide) rfl ?_
    have lp51 : ∀ (m : Nat) (y2 : Int32) (FIv45 : Nat → Nat → Int32), (g_fr n (shd SH) [(119, 1)] [120] [] FI FIv45) → (g_I FIv45) → (0 ≤ (y2).toInt ∧ (y2).toInt ≤ 64) → ((FIv45 119 1).toInt ≤ (FI 119 1).toInt + 11 + (y2).toInt) → ((FI 119 1).toInt ≤ (FIv45 119 1).toInt) → 64 - (y2).toInt < m → hw sk base (d + 2) none 5 21 [(2, .int (y2)), (0, .ref (base + 119)), (1, .ref (base + r5))] [] (n, sl, SH, FIv45, FL, FR) (h_V (fun s => ∃ FI', s = (n, sl, SH, FI', FL, FR) ∧ g_I FI' ∧ g_fr n (shd SH) [(119, 1)] [120] [] FI FI' ∧ ((FI' 119 1).toInt ≤ (FI 119 1).toInt + 80) ∧ ((FI 119 1).toInt ≤ (FI' 119 1).toInt))) := by
      intro m
      induction m with
      | zero => intro y2 FIv45 fr46 hI47 iv48 iv49 iv50 hm; omega
      | succ m ih =>
        intro y2 FIv45 fr46 hI47 iv48 iv49 iv50 hm
        have rg_y2 := i_rng y2
        obtain ⟨x52, h53⟩ : ∃ y, FIv45 119 1 = y := ⟨_, rfl⟩
        have h53l := congrArg Int32.toInt h53
        have b54 := gI_119_1 hI47; rw [h53] at b54
        refine xw_iloadn (aX0_putBlock 13 rfl) rfl ?_
        refine hw_aloadn (aX0_putBlock 14 rfl) rfl ?_
        obtain ⟨x55, h56⟩ : ∃ y, Int32.ofNat (SH r5).2 = y := ⟨_, rfl⟩
        have b57 : (x55).toInt ≤ (((SH r5).2 : Nat) : Int) := by rw [← h56]; exact i_len
        have := i_rng x55
        refine hw_alen (k := 0) (v := x55) (aX0_putBlock 15 rfl) lt6 sh8 (by decide) h56 ?_
        refine hw_icge (tgt := 40) (aX0_putBlock 16 rfl) (by decide) rfl rfl (fun cd58 => ?_) (fun cd58 => ?_)
        · refine xw_vret (aX0_putBlock 24 rfl) rfl ?_
          exact ⟨rfl, FIv45, rfl, hI47, fr46, (by have := congrArg Int32.toInt (show FIv45 119 1 = x52 from h53); omega), (by have := congrArg Int32.toInt (show FIv45 119 1 = x52 from h53); omega)⟩
        · refine hw_aloadn (aX0_putBlock 17 rfl) rfl ?_
          refine hw_aloadn (aX0_putBlock 18 rfl) rfl ?_
          refine xw_iloadn (aX0_putBlock 19 rfl) rfl ?_
          obtain ⟨x59, h60⟩ : ∃ y, FIv45 r5 (y2).toNatClampNeg = y := ⟨_, rfl⟩
          have h60l := congrArg Int32.toInt h60
          have := i_rng x59
          refine hw_iald (v := x59) (aX0_putBlock 20 rfl) lt6 sh8 (h_in rfl (by omega) (by omega)) (show FIv45 r5 (y2).toNatClampNeg = x59 from h60) ?_
          refine hw_callV (Bs := [.int (x59)]) (rest := []) (aX0_putBlock 21 rfl) wc_RX0_62 (by decide) rfl wi_yX0_put wv_yX0_put (c119 hS) (s119 hS) rfl rfl rfl (Nat.le_of_ble_eq_true rfl) (Nat.le_of_ble_eq_true rfl) (k_X0_put (d := d + 1) hS hF hI47 hR (x59) (by have := congrArg Int32.toInt (show FIv45 119 1 = x52 from h53); omega)) (fun v61 sv62 p63 => ?_)
          have := congrArg Int32.toInt (show FIv45 119 1 = x52 from h53)
          obtain ⟨rfl, FI65, rfl, hI66, f67, t70⟩ := p63
          obtain ⟨x73, h74⟩ : ∃ y, FI65 119 1 = y := ⟨_, rfl⟩
          have h74l := congrArg Int32.toInt h74
          have b75 := gI_119_1 hI66; rw [h74] at b75
          show hw sk base _ _ _ _ _ [] _ _
          obtain ⟨x76, q78⟩ : ∃ y : Int32, (y2) + Int32.ofInt (1) = y := ⟨_, rfl⟩
          have e77 : (x76).toInt = (y2).toInt + (1) := by rw [← q78]; exact i_add rfl (by decide) (by omega) (by omega)
          refine xw_iinc (L2 := [(2, .int (x76)), (0, .ref (base + 119)), (1, .ref (base + r5))]) (aX0_putBlock 22 rfl) rfl (by decide) (by rw [q78]; rfl) ?_
          refine xw_goto (tgt := 21) (aX0_putBlock 23 rfl) (by decide) ?_
          exact hw_L (ih (x76) FI65 (gf_tr ex_rf fr46 f67 rfl rfl rfl) hI66 (by have := (e77 : (x76).toInt = (y2).toInt + (1)); omega) (by have := (e77 : (x76).toInt = (y2).toInt + (1)); have := congrArg Int32.toInt (show FI65 119 1 = x73 from h74); omega) (by have := (e77 : (x76).toInt = (y2).toInt + (1)); have := congrArg Int32.toInt (show FI65 119 1 = x73 from h74); omega) (by have := (e77 : (x76).toInt = (y2).toInt + (1)); omega)) ⟨rfl, rfl, rfl, trivial⟩
    exact hw_L (lp51 ((64 - 0 : Int).toNat + 1) ((0 : Int32)) FI33 (gf_tr ex_rf (gf_tr ex_rf gf_rf f15 rfl rfl rfl) f35 rfl rfl rfl) hI34 (by have := ((by decide : (0 : Int32).toInt = 0) : ((0 : Int32)).toInt = 0); omega) (by have := ((by decide : (0 : Int32).toInt = 0) : ((0 : Int32)).toInt = 0); have := congrArg Int32.toInt (show FI33 119 1 = x42 from h43); omega) (by have := ((by decide : (0 : Int32).toInt = 0) : ((0 : Int32)).toInt = 0); have := congrArg Int32.toInt (show FI33 119 1 = x42 from h43); omega) (by have := ((by decide : (0 : Int32).toInt = 0) : ((0 : Int32)).toInt = 0); omega)) ⟨rfl, rfl, rfl, trivial⟩
  · obtain rfl := h_rf_n hn4
    show hw sk base _ _ _ _ [(0, .ref (base + 119)), (1, .null)] [] _ _
    refine xw_vret (aX0_putBlock 2 rfl) rfl ?_
    exact ⟨rfl, FI, rfl, hI, gf_rf, (by have := congrArg Int32.toInt (show FI 119 1 = x1 from h2); omega), (by have := congrArg Int32.toInt (show FI 119 1 = x1 from h2); omega)⟩
def nX0_putPlace : Nat := 0xb10300a75c00b65900b42b2a0e00a73e00b69f00112a5500b6035100b42b2a2100a75500b6035100b42b2a2d00a73e00b660884d00b42b50102a4e0000003b000000200000002f000000040000000100000059000000000000aa4a00b42b
theorem bX0_putPlace : cX0_putPlace.data.toList.map UInt8.toNat = x_un nX0_putPlace 94 := by decide +kernel
def iX0_putPlace : List (Nat × Jvm.ClassFile.Instr × Nat) := [(0, .aload_n 1, 1), (1, .getfield 74, 3), (36, .aload_n 0, 1), (37, .bipush 80, 2), (39, .aload_n 1, 1), (40, .getfield 77, 3), (43, .l2i, 1), (44, .iadd, 1), (45, .invokevirtual 62, 3), (48, .goto 45, 3), (51, .aload_n 0, 1), (52, .aload_n 1, 1), (53, .getfield 81, 3), (56, .iconst 0, 1), (57, .invokevirtual 85, 3), (60, .goto 33, 3), (63, .aload_n 0, 1), (64, .aload_n 1, 1), (65, .getfield 81, 3), (68, .iconst 0, 1), (69, .invokevirtual 85, 3), (72, .aload_n 0, 1), (73, .sipush 159, 3), (76, .invokevirtual 62, 3), (79, .goto 14, 3), (82, .aload_n 0, 1), (83, .aload_n 1, 1), (84, .getfield 89, 3), (87, .invokevirtual 92, 3), (90, .goto 3, 3), (93, .return_, 1)]
theorem dX0_putPlace : x_il nX0_putPlace 94 iX0_putPlace = true := by decide +kernel
theorem aX0_putPlace (k : Nat) {pc : Nat} {i : Jvm.ClassFile.Instr} {len : Nat} (hk : iX0_putPlace[k]? = some (pc, i, len)) : x_at xMM 4 pc i len yX0_putPlace 2 none := ⟨cX0_putPlace, rfl, x_il_ok bX0_putPlace dX0_putPlace k hk⟩
theorem aX0_putPlace_4 : x_at xMM 4 4 (.tableswitch 89 1 4 #[47, 32, 59, 78]) 32 yX0_putPlace 2 none := ⟨cX0_putPlace, rfl, by decide +kernel⟩
set_option maxHeartbeats 4000000 in
set_option maxRecDepth 100000 in
theorem k_X0_putPlace {sk : xK} {base d n sl : Nat} {SH : Nat → Nat × Nat} {FI : Nat → Nat → Int32} {FL : Nat → Nat → Int64} {FR : Nat → Nat → Option Nat} (hS : h_S n SH) (hF : h_FR FR) (hI : g_I FI) (hR : g_R n SH FR) (a1 : Nat) {z1 : Nat} (ha1l : a1 < n) (ha1s : SH a1 = (6, z1)) (ha1o : own a1) (gp : Nat → Nat) (gw : Nat → Nat) (gs : Nat → Nat) (g0 : (FI 119 1).toInt + (gw a1 : Nat) ≤ 1999999880) (gg0 : g_T n SH FI FR gp gw gs) : hw sk base (d + 249) none 4 0 [(0, .ref (base + 119)), (1, .ref (base + a1))] [] (n, sl, SH, FI, FL, FR) (h_V (fun s => ∃ FI', s = (n, sl, SH, FI', FL, FR) ∧ g_I FI' ∧ g_fr n (shd SH) [(119, 1)] [120] [] FI FI' ∧ ((FI' 119 1).toInt + 100 ≤ (FI 119 1).toInt + (gw a1 : Nat)) ∧ ((FI 119 1).toInt ≤ (FI' 119 1).toInt))) := by
  obtain ⟨x1, h2⟩ : ∃ y, FI 119 1 = y := ⟨_, rfl⟩
  have h2l := congrArg Int32.toInt h2
  have b3 := gI_119_1 hI; rw [h2] at b3
  obtain ⟨o4, h5⟩ : ∃ y, FR a1 2 = y := ⟨_, rfl⟩
  have ht6 : ∀ r, o4 = some r → r < n ∧ own r ∧ SH r = (3, (SH r).2) := fun r e => gR_get hR ha1l ha1o ha1s (h5.trans e)
  have hwe : g_w gw (o4) + 200 ≤ gw a1 := gT_e gg0 ha1l ha1s (show FR a1 2 = o4 from h5)
  refine hw_aloadn (aX0_putPlace 0 rfl) rfl ?_
  obtain ⟨x7, h8⟩ : ∃ y, FI a1 0 = y := ⟨_, rfl⟩
  have h8l := congrArg Int32.toInt h8
  have := i_rng x7
  refine hw_get (v := .int (x7)) (aX0_putPlace 1 rfl) wf_RX0_74 ha1l ha1s (by decide) (congrArg Value.int (show FI a1 0 = x7 from h8)) ?_
  have hsw : ((x7).toInt < 1 ∨ 4 < (x7).toInt) ∨ ((x7).toInt = 1) ∨ ((x7).toInt = 2) ∨ ((x7).toInt = 3) ∨ ((x7).toInt = 4) := by omega
  rcases hsw with hsw | hsw | hsw | hsw | hsw
  · refine xw_tsw (tgt := 93) aX0_putPlace_4 (Or.inl ⟨hsw, by decide⟩) ?_
    refine xw_vret (aX0_putPlace 30 rfl) rfl ?_
    exact ⟨rfl, FI, rfl, hI, gf_rf, (by have := congrArg Int32.toInt (show FI 119 1 = x1 from h2); omega), (by have := congrArg Int32.toInt (show FI 119 1 = x1 from h2); omega)⟩
  · refine xw_tsw (tgt := 51) aX0_putPlace_4 (by exact Or.inr ⟨by omega, by omega, _, by rw [hsw]; rfl, by decide⟩) ?_
    refine hw_aloadn (aX0_putPlace 10 rfl) rfl ?_
    refine hw_aloadn (aX0_putPlace 11 rfl) rfl ?_
    refine hw_get (v := va_rf (h_rf base (o4))) (aX0_putPlace 12 rfl) wf_RX0_81 ha1l ha1s (by decide) (congrArg (fun r => va_rf (h_rf base r)) (show FR a1 2 = o4 from h5)) ?_
    refine hw_ic (v := (0 : Int32)) (aX0_putPlace 13 rfl) (by decide) ?_
    refine hw_callVo (Bs := [va_rf (h_rf base (o4)), .int ((0 : Int32))]) (rest := []) (L2 := [(0, .ref (base + 119)), (1, va_rf (h_rf base (o4))), (2, .int ((0 : Int32)))]) (aX0_putPlace 14 rfl) wc_RX0_85 (by decide) rfl wi_yX0_putNode wv_yX0_putNode (c119 hS) (s119 hS) rfl rfl rfl (Nat.le_of_ble_eq_true rfl) (by simp [lg_sl, va_cat, va_ci, va_cl, va_cr, va_cn]) (by simp [lv_args, va_cat, va_ci, va_cl, va_cr, va_cn]) (k_putNode (d := d) hS hF hI hR (o4) ht6 ((0 : Int32)) (gp) (gw) (gs) (by have := congrArg Int32.toInt (show FI 119 1 = x1 from h2); omega) (by have := ((by decide : (0 : Int32).toInt = 0) : ((0 : Int32)).toInt = 0); have := ((by decide : (0 : Int32).toInt = 0) : ((0 : Int32)).toInt = 0); omega) (gT_mv (L := [(119, 1)]) (A := [120]) (T := []) hS gg0 gf_rf (by decide))) (fun v9 sv10 p11 => ?_)
    have := congrArg Int32.toInt (show FI 119 1 = x1 from h2)
    have := congrArg Int32.toInt (show FI 119 1 = x1 from h2)
    obtain ⟨rfl, FI13, rfl, hI14, f15, t18, t19⟩ := p11
    obtain ⟨x22, h23⟩ : ∃ y, FI13 119 1 = y := ⟨_, rfl⟩
    have h23l := congrArg Int32.toInt h23
    have b24 := gI_119_1 hI14; rw [h23] at b24
    show hw sk base _ _ _ _ _ [] _ _
    refine xw_goto (tgt := 93) (aX0_putPlace 15 rfl) (by decide) ?_
    refine xw_vret (aX0_putPlace 30 rfl) rfl ?_
    exact ⟨rfl, FI13, rfl, hI14, (gf_tr ex_rf gf_rf f15 rfl rfl rfl), (by have := congrArg Int32.toInt (show FI13 119 1 = x22 from h23); omega), (by have := congrArg Int32.toInt (show FI13 119 1 = x22 from h23); omega)⟩
  · refine xw_tsw (tgt := 36) aX0_putPlace_4 (by exact Or.inr ⟨by omega, by omega, _, by rw [hsw]; rfl, by decide⟩) ?_
    refine hw_aloadn (aX0_putPlace 2 rfl) rfl ?_
    refine hw_bp (v := (80 : Int32)) (aX0_putPlace 3 rfl) (by decide) ?_
    refine hw_aloadn (aX0_putPlace 4 rfl) rfl ?_
    obtain ⟨x25, h26⟩ : ∃ y, FL a1 1 = y := ⟨_, rfl⟩
    have h26l := congrArg Int64.toInt h26
    have := l_rng x25
    refine hw_get (v := .long (x25)) (aX0_putPlace 5 rfl) wf_RX0_77 ha1l ha1s (by decide) (congrArg Value.long (show FL a1 1 = x25 from h26)) ?_
    refine xw_l2i (aX0_putPlace 6 rfl) ?_
    refine hw_ti (fun x27 => ?_)
    have b28 := i_rng x27
    refine xw_iadd (aX0_putPlace 7 rfl) ?_
    have := i_rng (((80 : Int32)) + (x27))
    refine hw_callV (Bs := [.int ((((80 : Int32)) + (x27)))]) (rest := []) (aX0_putPlace 8 rfl) wc_RX0_62 (by decide) rfl wi_yX0_put wv_yX0_put (c119 hS) (s119 hS) rfl rfl rfl (Nat.le_of_ble_eq_true rfl) (Nat.le_of_ble_eq_true rfl) (k_X0_put (d := d + 248) hS hF hI hR ((((80 : Int32)) + (x27))) (by have := congrArg Int32.toInt (show FI 119 1 = x1 from h2); omega)) (fun v29 sv30 p31 => ?_)
    have := congrArg Int32.toInt (show FI 119 1 = x1 from h2)
    obtain ⟨rfl, FI33, rfl, hI34, f35, t38⟩ := p31
    obtain ⟨x41, h42⟩ : ∃ y, FI33 119 1 = y := ⟨_, rfl⟩
    have h42l := congrArg Int32.toInt h42
    have b43 := gI_119_1 hI34; rw [h42] at b43
    show hw sk base _ _ _ _ _ [] _ _
    refine xw_goto (tgt := 93) (aX0_putPlace 9 rfl) (by decide) ?_
    refine xw_vret (aX0_putPlace 30 rfl) rfl ?_
    exact ⟨rfl, FI33, rfl, hI34, (gf_tr ex_rf gf_rf f35 rfl rfl rfl), (by have := congrArg Int32.toInt (show FI33 119 1 = x41 from h42); omega), (by have := congrArg Int32.toInt (show FI33 119 1 = x41 from h42); omega)⟩
  · refine xw_tsw (tgt := 63) aX0_putPlace_4 (by exact Or.inr ⟨by omega, by omega, _, by rw [hsw]; rfl, by decide⟩) ?_
    refine hw_aloadn (aX0_putPlace 16 rfl) rfl ?_
    refine hw_aloadn (aX0_putPlace 17 rfl) rfl ?_
    refine hw_get (v := va_rf (h_rf base (o4))) (aX0_putPlace 18 rfl) wf_RX0_81 ha1l ha1s (by decide) (congrArg (fun r => va_rf (h_rf base r)) (show FR a1 2 = o4 from h5)) ?_
    refine hw_ic (v := (0 : Int32)) (aX0_putPlace 19 rfl) (by decide) ?_
    refine hw_callVo (Bs := [va_rf (h_rf base (o4)), .int ((0 : Int32))]) (rest := []) (L2 := [(0, .ref (base + 119)), (1, va_rf (h_rf base (o4))), (2, .int ((0 : Int32)))]) (aX0_putPlace 20 rfl) wc_RX0_85 (by decide) rfl wi_yX0_putNode wv_yX0_putNode (c119 hS) (s119 hS) rfl rfl rfl (Nat.le_of_ble_eq_true rfl) (by simp [lg_sl, va_cat, va_ci, va_cl, va_cr, va_cn]) (by simp [lv_args, va_cat, va_ci, va_cl, va_cr, va_cn]) (k_putNode (d := d) hS hF hI hR (o4) ht6 ((0 : Int32)) (gp) (gw) (gs) (by have := congrArg Int32.toInt (show FI 119 1 = x1 from h2); omega) (by have := ((by decide : (0 : Int32).toInt = 0) : ((0 : Int32)).toInt = 0); have := ((by decide : (0 : Int32).toInt = 0) : ((0 : Int32)).toInt = 0); omega) (gT_mv (L := [(119, 1)]) (A := [120]) (T := []) hS gg0 gf_rf (by decide))) (fun v44 sv45 p46 => ?_)
    have := congrArg Int32.toInt (show FI 119 1 = x1 from h2)
    have := congrArg Int32.toInt (show FI 119 1 = x1 from h2)
    obtain ⟨rfl, FI48, rfl, hI49, f50, t53, t54⟩ := p46
    obtain ⟨x57, h58⟩ : ∃ y, FI48 119 1 = y := ⟨_, rfl⟩
    have h58l := congrArg Int32.toInt h58
    have b59 := gI_119_1 hI49; rw [h58] at b59
    show hw sk base _ _ _ _ _ [] _ _
    refine hw_aloadn (aX0_putPlace 21 rfl) rfl ?_
    refine hw_sp (v := (159 : Int32)) (aX0_putPlace 22 rfl) (by decide) ?_
    refine hw_callV (Bs := [.int ((159 : Int32))]) (rest := []) (aX0_putPlace 23 rfl) wc_RX0_62 (by decide) rfl wi_yX0_put wv_yX0_put (c119 hS) (s119 hS) rfl rfl rfl (Nat.le_of_ble_eq_true rfl) (Nat.le_of_ble_eq_true rfl) (k_X0_put (d := d + 248) hS hF hI49 hR ((159 : Int32)) (by have := congrArg Int32.toInt (show FI48 119 1 = x57 from h58); omega)) (fun v60 sv61 p62 => ?_)
    have := congrArg Int32.toInt (show FI48 119 1 = x57 from h58)
    obtain ⟨rfl, FI64, rfl, hI65, f66, t69⟩ := p62
    obtain ⟨x72, h73⟩ : ∃ y, FI64 119 1 = y := ⟨_, rfl⟩
    have h73l := congrArg Int32.toInt h73
    have b74 := gI_119_1 hI65; rw [h73] at b74
    show hw sk base _ _ _ _ _ [] _ _
    refine xw_goto (tgt := 93) (aX0_putPlace 24 rfl) (by decide) ?_
    refine xw_vret (aX0_putPlace 30 rfl) rfl ?_
    exact ⟨rfl, FI64, rfl, hI65, (gf_tr ex_rf (gf_tr ex_rf gf_rf f50 rfl rfl rfl) f66 rfl rfl rfl), (by have := congrArg Int32.toInt (show FI64 119 1 = x72 from h73); omega), (by have := congrArg Int32.toInt (show FI64 119 1 = x72 from h73); omega)⟩
  · refine xw_tsw (tgt := 82) aX0_putPlace_4 (by exact Or.inr ⟨by omega, by omega, _, by rw [hsw]; rfl, by decide⟩) ?_
    refine hw_aloadn (aX0_putPlace 25 rfl) rfl ?_
    refine hw_aloadn (aX0_putPlace 26 rfl) rfl ?_
    obtain ⟨o75, h76⟩ : ∃ y, FR a1 3 = y := ⟨_, rfl⟩
    have ht77 : ∀ r, o75 = some r → r < n ∧ own r ∧ SH r = (100, (SH r).2) := fun r e => gR_get hR ha1l ha1o ha1s (h76.trans e)
    refine hw_get (v := va_rf (h_rf base (o75))) (aX0_putPlace 27 rfl) wf_RX0_89 ha1l ha1s (by decide) (congrArg (fun r => va_rf (h_rf base r)) (show FR a1 3 = o75 from h76)) ?_
    refine hw_callVo (Bs := [va_rf (h_rf base (o75))]) (rest := []) (L2 := [(0, .ref (base + 119)), (1, va_rf (h_rf base (o75)))]) (aX0_putPlace 28 rfl) wc_RX0_92 (by decide) rfl wi_yX0_putBlock wv_yX0_putBlock (c119 hS) (s119 hS) rfl rfl rfl (Nat.le_of_ble_eq_true rfl) (by simp [lg_sl, va_cat, va_ci, va_cl, va_cr, va_cn]) (by simp [lv_args, va_cat, va_ci, va_cl, va_cr, va_cn]) (k_X0_putBlock (d := d + 246) hS hF hI hR (o75) ht77 (by have := congrArg Int32.toInt (show FI 119 1 = x1 from h2); omega) (fun q hq => gT_b gg0 ha1l ha1s ((show FR a1 3 = o75 from h76).trans hq))) (fun v78 sv79 p80 => ?_)
    have := congrArg Int32.toInt (show FI 119 1 = x1 from h2)
    have := congrArg Int32.toInt (show FI 119 1 = x1 from h2)
    obtain ⟨rfl, FI82, rfl, hI83, f84, t87, t88⟩ := p80
    obtain ⟨x91, h92⟩ : ∃ y, FI82 119 1 = y := ⟨_, rfl⟩
    have h92l := congrArg Int32.toInt h92
    have b93 := gI_119_1 hI83; rw [h92] at b93
    show hw sk base _ _ _ _ _ [] _ _
    refine xw_goto (tgt := 93) (aX0_putPlace 29 rfl) (by decide) ?_
    refine xw_vret (aX0_putPlace 30 rfl) rfl ?_
    exact ⟨rfl, FI82, rfl, hI83, (gf_tr ex_rf gf_rf f84 rfl rfl rfl), (by have := congrArg Int32.toInt (show FI82 119 1 = x91 from h92); omega), (by have := congrArg Int32.toInt (show FI82 119 1 = x91 from h92); omega)⟩
def nX0_putLocation : Nat := 0xac030400a7040700a32c0111641c0f00b42adaffa74e4600b42d4200b6853900b42d2a3e00b69300112a13009f023900b42d3500b62d2a2800c62d4e2b3d0f00b42a
theorem bX0_putLocation : cX0_putLocation.data.toList.map UInt8.toNat = x_un nX0_putLocation 66 := by decide +kernel
def iX0_putLocation : List (Nat × Jvm.ClassFile.Instr × Nat) := [(0, .aload_n 0, 1), (1, .getfield 15, 3), (4, .istore_n 2, 1), (5, .aload_n 1, 1), (6, .astore_n 3, 1), (7, .aload_n 3, 1), (8, .ifnull 40, 3), (11, .aload_n 0, 1), (12, .aload_n 3, 1), (13, .invokevirtual 53, 3), (16, .aload_n 3, 1), (17, .getfield 57, 3), (20, .iconst (-1), 1), (21, .if_icmp .eq 19, 3), (24, .aload_n 0, 1), (25, .sipush 147, 3), (28, .invokevirtual 62, 3), (31, .aload_n 0, 1), (32, .aload_n 3, 1), (33, .getfield 57, 3), (36, .i2l, 1), (37, .invokevirtual 66, 3), (40, .aload_n 3, 1), (41, .getfield 70, 3), (44, .astore_n 3, 1), (45, .goto (-38), 3), (48, .aload_n 0, 1), (49, .getfield 15, 3), (52, .iload_n 2, 1), (53, .isub, 1), (54, .sipush 300, 3), (57, .if_icmp .gt 7, 3), (60, .iconst 1, 1), (61, .goto 4, 3), (64, .iconst 0, 1), (65, .ireturn, 1)]
theorem dX0_putLocation : x_il nX0_putLocation 66 iX0_putLocation = true := by decide +kernel
theorem aX0_putLocation (k : Nat) {pc : Nat} {i : Jvm.ClassFile.Instr} {len : Nat} (hk : iX0_putLocation[k]? = some (pc, i, len)) : x_at xMM 3 pc i len yX0_putLocation 4 (some .boolean) := ⟨cX0_putLocation, rfl, x_il_ok bX0_putLocation dX0_putLocation k hk⟩
set_option maxHeartbeats 4000000 in
set_option maxRecDepth 100000 in
theorem k_X0_putLocation {sk : xK} {base d n sl : Nat} {SH : Nat → Nat × Nat} {FI : Nat → Nat → Int32} {FL : Nat → Nat → Int64} {FR : Nat → Nat → Option Nat} (hS : h_S n SH) (hF : h_FR FR) (hI : g_I FI) (hR : g_R n SH FR) (a1 : Option Nat) (ha1t : ∀ q, a1 = some q → q < n ∧ own q ∧ SH q = (6, (SH q).2)) (gp : Nat → Nat) (gw : Nat → Nat) (gs : Nat → Nat) (g0 : (FI 119 1).toInt ≤ 1799998980) (gg0 : g_T n SH FI FR gp gw gs) : hw sk base (d + 250) none 3 0 [(0, .ref (base + 119)), (1, va_rf (h_rf base (a1)))] [] (n, sl, SH, FI, FL, FR) (h_I (fun r s => ∃ FI', s = (n, sl, SH, FI', FL, FR) ∧ g_I FI' ∧ g_fr n (shd SH) [(119, 1)] [120] [] FI FI' ∧ ((FI' 119 1).toInt ≤ (FI 119 1).toInt + 200000000) ∧ ((FI 119 1).toInt ≤ (FI' 119 1).toInt) ∧ (0 ≤ r.toInt ∧ r.toInt ≤ 1))) := by
  obtain ⟨x1, h2⟩ : ∃ y, FI 119 1 = y := ⟨_, rfl⟩
  have h2l := congrArg Int32.toInt h2
  have b3 := gI_119_1 hI; rw [h2] at b3
  refine hw_aloadn (aX0_putLocation 0 rfl) rfl ?_
  refine hw_get (v := .int (x1)) (aX0_putLocation 1 rfl) wf_RX0_15 (c119 hS) (s119 hS) (by decide) (congrArg Value.int (show FI 119 1 = x1 from h2)) ?_
  refine xw_istoren (L2 := [(2, .int (x1)), (0, .ref (base + 119)), (1, va_rf (h_rf base (a1)))]) (aX0_putLocation 2 rfl) (by decide) (by first | rfl | simp [x_s1, x_s2, va_cat, va_ci, va_cl, va_cr, va_cn] | (simp [x_s1, x_s2, va_cat, va_ci, va_cl, va_cr, va_cn]; decide)) ?_
  refine xw_aloadn (aX0_putLocation 3 rfl) rfl ?_
  refine xw_astoren (L2 := [(3, va_rf (h_rf base (a1))), (2, .int (x1)), (0, .ref (base + 119)), (1, va_rf (h_rf base (a1)))]) (aX0_putLocation 4 rfl) (by decide) (by first | rfl | simp [x_s1, x_s2, va_cat, va_ci, va_cl, va_cr, va_cn] | (simp [x_s1, x_s2, va_cat, va_ci, va_cl, va_cr, va_cn]; decide)) ?_
  have lp10 : ∀ (m : Nat) (y3 : Option Nat) (FIv5 : Nat → Nat → Int32), (∀ q, y3 = some q → q < n ∧ own q ∧ SH q = (6, (SH q).2)) → (g_fr n (shd SH) [(119, 1)] [120] [] FI FIv5) → (g_I FIv5) → ((FI 119 1).toInt ≤ (FIv5 119 1).toInt) → ((FIv5 119 1).toInt ≤ (FI 119 1).toInt + 200000000) → (∀ m, (y3) = some m → (FIv5 119 1).toInt ≤ (FI 119 1).toInt + (gs m : Nat)) → ((g_ms gs 200000000 (y3) : Nat) : Int) < m → hw sk base (d + 250) none 3 7 [(3, va_rf (h_rf base (y3))), (2, .int (x1)), (0, .ref (base + 119))] [] (n, sl, SH, FIv5, FL, FR) (h_I (fun r s => ∃ FI', s = (n, sl, SH, FI', FL, FR) ∧ g_I FI' ∧ g_fr n (shd SH) [(119, 1)] [120] [] FI FI' ∧ ((FI' 119 1).toInt ≤ (FI 119 1).toInt + 200000000) ∧ ((FI 119 1).toInt ≤ (FI' 119 1).toInt) ∧ (0 ≤ r.toInt ∧ r.toInt ≤ 1))) := by
    intro m
    induction m with
    | zero => intro y3 FIv5 ty4 fr6 hI7 iv8 iv9 xi7_0 hm; omega
    | succ m ih =>
      intro y3 FIv5 ty4 fr6 hI7 iv8 iv9 xi7_0 hm
      obtain ⟨x11, h12⟩ : ∃ y, FIv5 119 1 = y := ⟨_, rfl⟩
      have h12l := congrArg Int32.toInt h12
      have b13 := gI_119_1 hI7; rw [h12] at b13
      refine xw_aloadn (aX0_putLocation 5 rfl) rfl ?_
      refine xw_ifnull (v := h_rf base y3) (tgt := 48) (aX0_putLocation 6 rfl) (by decide) (fun hn14 => ?_) (fun hn14 => ?_)
      · obtain rfl := h_rf_n hn14
        show hw sk base _ _ _ _ [(3, .null), (2, .int (x1)), (0, .ref (base + 119))] [] _ _
        refine hw_aloadn (aX0_putLocation 26 rfl) rfl ?_
        refine hw_get (v := .int (x11)) (aX0_putLocation 27 rfl) wf_RX0_15 (c119 hS) (s119 hS) (by decide) (congrArg Value.int (show FIv5 119 1 = x11 from h12)) ?_
        refine xw_iloadn (aX0_putLocation 28 rfl) rfl ?_
        refine xw_isub (aX0_putLocation 29 rfl) ?_
        refine hw_tie (A := ((x11).toInt) - ((x1).toInt)) (i_sub rfl rfl (by omega) (by omega)) (fun x15 e16 => ?_)
        refine hw_sp (v := (300 : Int32)) (aX0_putLocation 30 rfl) (by decide) ?_
        refine hw_icgt (tgt := 64) (aX0_putLocation 31 rfl) (by decide) e16 (by decide : (300 : Int32).toInt = 300) (fun cd17 => ?_) (fun cd17 => ?_)
        · refine hw_ic (v := (0 : Int32)) (aX0_putLocation 34 rfl) (by decide) ?_
          refine xw_iret (aX0_putLocation 35 rfl) rfl (by decide) ?_
          have e18 : ((0 : Int32)).toInt = 0 := (by decide : (0 : Int32).toInt = 0)
          exact ⟨(0 : Int32), rfl, FIv5, rfl, hI7, fr6, (by have : ((0 : Int32)).toInt = 0 := (by decide); have := congrArg Int32.toInt (show FIv5 119 1 = x11 from h12); omega), (by have : ((0 : Int32)).toInt = 0 := (by decide); have := congrArg Int32.toInt (show FIv5 119 1 = x11 from h12); omega), (by have : ((0 : Int32)).toInt = 0 := (by decide); omega)⟩
        · refine hw_ic (v := (1 : Int32)) (aX0_putLocation 32 rfl) (by decide) ?_
          refine xw_goto (tgt := 65) (aX0_putLocation 33 rfl) (by decide) ?_
          refine xw_iret (aX0_putLocation 35 rfl) rfl (by decide) ?_
          have e19 : ((1 : Int32)).toInt = 1 := (by decide : (1 : Int32).toInt = 1)
          exact ⟨(1 : Int32), rfl, FIv5, rfl, hI7, fr6, (by have : ((1 : Int32)).toInt = 1 := (by decide); have := congrArg Int32.toInt (show FIv5 119 1 = x11 from h12); omega), (by have : ((1 : Int32)).toInt = 1 := (by decide); have := congrArg Int32.toInt (show FIv5 119 1 = x11 from h12); omega), (by have : ((1 : Int32)).toInt = 1 := (by decide); omega)⟩
      · obtain ⟨r20, rfl⟩ := h_rf_s hn14
        obtain ⟨lt21, ow22, sh23⟩ := ty4 r20 rfl
        show hw sk base _ _ _ _ [(3, .ref (base + r20)), (2, .int (x1)), (0, .ref (base + 119))] [] _ _
        have hb3 := xi7_0 r20 rfl
        have hm3 := gT_m gg0 lt21 sh23
        clear xi7_0
        refine hw_aloadn (aX0_putLocation 7 rfl) rfl ?_
        refine hw_aloadn (aX0_putLocation 8 rfl) rfl ?_
        refine hw_callV (Bs := [.ref (base + r20)]) (rest := []) (aX0_putLocation 9 rfl) wc_RX0_53 (by decide) rfl wi_yX0_putPlace wv_yX0_putPlace (c119 hS) (s119 hS) rfl rfl rfl (Nat.le_of_ble_eq_true rfl) (Nat.le_of_ble_eq_true rfl) (k_X0_putPlace (d := d) hS hF hI7 hR (r20) lt21 sh23 ow22 (gp) (gw) (gs) (by have := congrArg Int32.toInt (show FIv5 119 1 = x11 from h12); omega) (gT_mv (L := [(119, 1)]) (A := [120]) (T := []) hS gg0 fr6 (by decide))) (fun v24 sv25 p26 => ?_)
        have := congrArg Int32.toInt (show FIv5 119 1 = x11 from h12)
        have := congrArg Int32.toInt (show FIv5 119 1 = x11 from h12)
        obtain ⟨rfl, FI28, rfl, hI29, f30, t33, t34⟩ := p26
        obtain ⟨x37, h38⟩ : ∃ y, FI28 119 1 = y := ⟨_, rfl⟩
        have h38l := congrArg Int32.toInt h38
        have b39 := gI_119_1 hI29; rw [h38] at b39
        show hw sk base _ _ _ _ _ [] _ _
        refine hw_aloadn (aX0_putLocation 10 rfl) rfl ?_
        obtain ⟨x40, h41⟩ : ∃ y, FI28 r20 4 = y := ⟨_, rfl⟩
        have h41l := congrArg Int32.toInt h41
        have := i_rng x40
        refine hw_get (v := .int (x40)) (aX0_putLocation 11 rfl) wf_RX0_57 lt21 sh23 (by decide) (congrArg Value.int (show FI28 r20 4 = x40 from h41)) ?_
        refine hw_ic (v := ((-1) : Int32)) (aX0_putLocation 12 rfl) (by decide) ?_
        refine hw_iceq (tgt := 40) (aX0_putLocation 13 rfl) (by decide) rfl (by decide : ((-1) : Int32).toInt = (-1)) (fun cd42 => ?_) (fun cd42 => ?_)
        · refine hw_aloadn (aX0_putLocation 22 rfl) rfl ?_
          obtain ⟨o43, h44⟩ : ∃ y, FR r20 5 = y := ⟨_, rfl⟩
          have ht45 : ∀ r, o43 = some r → r < n ∧ own r ∧ SH r = (6, (SH r).2) := fun r e => gR_get hR lt21 ow22 sh23 (h44.trans e)
          refine hw_get (v := va_rf (h_rf base (o43))) (aX0_putLocation 23 rfl) wf_RX0_70 lt21 sh23 (by decide) (congrArg (fun r => va_rf (h_rf base r)) (show FR r20 5 = o43 from h44)) ?_
          refine xw_astoren (L2 := [(3, va_rf (h_rf base (o43))), (2, .int (x1)), (0, .ref (base + 119))]) (aX0_putLocation 24 rfl) (by decide) (by first | rfl | simp [x_s1, x_s2, va_cat, va_ci, va_cl, va_cr, va_cn] | (simp [x_s1, x_s2, va_cat, va_ci, va_cl, va_cr, va_cn]; decide)) ?_
          refine xw_goto (tgt := 7) (aX0_putLocation 25 rfl) (by decide) ?_
          exact hw_L (ih (o43) FI28 (ht45) (gf_tr ex_rf fr6 f30 rfl rfl rfl) hI29 (by have := congrArg Int32.toInt (show FI28 119 1 = x37 from h38); omega) (by have := congrArg Int32.toInt (show FI28 119 1 = x37 from h38); omega) (show ∀ m, (o43) = some m → (FI28 119 1).toInt ≤ (FI 119 1).toInt + (gs m : Nat) from (by have := congrArg Int32.toInt (show FI28 119 1 = x37 from h38); exact (fun m hm => by have q1 := gT_l gg0 lt21 sh23 (r := m) ((show FR r20 5 = o43 from h44).trans hm); omega))) (by rcases hq : (o43) with _ | q9; { simp only [g_ms] at hm ⊢; omega }; { have q8 := gT_l gg0 lt21 sh23 (r := q9) ((show FR r20 5 = o43 from h44).trans hq); simp only [g_ms] at hm ⊢; omega })) ⟨rfl, rfl, rfl, trivial⟩
        · refine hw_aloadn (aX0_putLocation 14 rfl) rfl ?_
          refine hw_sp (v := (147 : Int32)) (aX0_putLocation 15 rfl) (by decide) ?_
          refine hw_callV (Bs := [.int ((147 : Int32))]) (rest := []) (aX0_putLocation 16 rfl) wc_RX0_62 (by decide) rfl wi_yX0_put wv_yX0_put (c119 hS) (s119 hS) rfl rfl rfl (Nat.le_of_ble_eq_true rfl) (Nat.le_of_ble_eq_true rfl) (k_X0_put (d := d + 249) hS hF hI29 hR ((147 : Int32)) (by have := congrArg Int32.toInt (show FI28 119 1 = x37 from h38); omega)) (fun v46 sv47 p48 => ?_)
          have := congrArg Int32.toInt (show FI28 119 1 = x37 from h38)
          obtain ⟨rfl, FI50, rfl, hI51, f52, t55⟩ := p48
          obtain ⟨x58, h59⟩ : ∃ y, FI50 119 1 = y := ⟨_, rfl⟩
          have h59l := congrArg Int32.toInt h59
          have b60 := gI_119_1 hI51; rw [h59] at b60
          show hw sk base _ _ _ _ _ [] _ _
          refine hw_aloadn (aX0_putLocation 17 rfl) rfl ?_
          refine hw_aloadn (aX0_putLocation 18 rfl) rfl ?_
          refine hw_get (v := .int (x40)) (aX0_putLocation 19 rfl) wf_RX0_57 lt21 sh23 (by decide) (congrArg Value.int (show FI50 r20 4 = x40 from (gf_as hS f52 lt21 sh23 (shd_d (dyn_tag hS sh23 (by decide +kernel)) sh23) (by decide +kernel) (h41)))) ?_
          refine xw_i2l (aX0_putLocation 20 rfl) ?_
          refine hw_tle (A := (x40).toInt) (i_2l rfl) (fun x61 e62 => ?_)
          refine hw_callV (Bs := [.long (x61)]) (rest := []) (aX0_putLocation 21 rfl) wc_RX0_66 (by decide) rfl wi_yX0_putLeb wv_yX0_putLeb (c119 hS) (s119 hS) rfl rfl rfl (Nat.le_of_ble_eq_true rfl) (Nat.le_of_ble_eq_true rfl) (k_X0_putLeb (d := d + 248) hS hF hI51 hR (x61) (by have := congrArg Int32.toInt (show FI50 119 1 = x58 from h59); omega)) (fun v63 sv64 p65 => ?_)
          have := congrArg Int32.toInt (show FI50 119 1 = x58 from h59)
          have := congrArg Int32.toInt (show FI50 119 1 = x58 from h59)
          obtain ⟨rfl, FI67, rfl, hI68, f69, t72, t73⟩ := p65
          obtain ⟨x76, h77⟩ : ∃ y, FI67 119 1 = y := ⟨_, rfl⟩
          have h77l := congrArg Int32.toInt h77
          have b78 := gI_119_1 hI68; rw [h77] at b78
          show hw sk base _ _ _ _ _ [] _ _
          refine hw_aloadn (aX0_putLocation 22 rfl) rfl ?_
          obtain ⟨o79, h80⟩ : ∃ y, FR r20 5 = y := ⟨_, rfl⟩
          have ht81 : ∀ r, o79 = some r → r < n ∧ own r ∧ SH r = (6, (SH r).2) := fun r e => gR_get hR lt21 ow22 sh23 (h80.trans e)
          refine hw_get (v := va_rf (h_rf base (o79))) (aX0_putLocation 23 rfl) wf_RX0_70 lt21 sh23 (by decide) (congrArg (fun r => va_rf (h_rf base r)) (show FR r20 5 = o79 from h80)) ?_
          refine xw_astoren (L2 := [(3, va_rf (h_rf base (o79))), (2, .int (x1)), (0, .ref (base + 119))]) (aX0_putLocation 24 rfl) (by decide) (by first | rfl | simp [x_s1, x_s2, va_cat, va_ci, va_cl, va_cr, va_cn] | (simp [x_s1, x_s2, va_cat, va_ci, va_cl, va_cr, va_cn]; decide)) ?_
          refine xw_goto (tgt := 7) (aX0_putLocation 25 rfl) (by decide) ?_
          exact hw_L (ih (o79) FI67 (ht81) (gf_tr ex_rf (gf_tr ex_rf (gf_tr ex_rf fr6 f30 rfl rfl rfl) f52 rfl rfl rfl) f69 rfl rfl rfl) hI68 (by have := congrArg Int32.toInt (show FI67 119 1 = x76 from h77); omega) (by have := congrArg Int32.toInt (show FI67 119 1 = x76 from h77); omega) (show ∀ m, (o79) = some m → (FI67 119 1).toInt ≤ (FI 119 1).toInt + (gs m : Nat) from (by have := congrArg Int32.toInt (show FI67 119 1 = x76 from h77); exact (fun m hm => by have q1 := gT_l gg0 lt21 sh23 (r := m) ((show FR r20 5 = o79 from h80).trans hm); omega))) (by rcases hq : (o79) with _ | q9; { simp only [g_ms] at hm ⊢; omega }; { have q8 := gT_l gg0 lt21 sh23 (r := q9) ((show FR r20 5 = o79 from h80).trans hq); simp only [g_ms] at hm ⊢; omega })) ⟨rfl, rfl, rfl, trivial⟩
  exact hw_L (lp10 ((((g_ms gs 200000000 (a1) : Nat) : Int) : Int).toNat + 1) (a1) FI (ha1t) gf_rf hI (by have := congrArg Int32.toInt (show FI 119 1 = x1 from h2); omega) (by have := congrArg Int32.toInt (show FI 119 1 = x1 from h2); omega) (show ∀ m, (a1) = some m → (FI 119 1).toInt ≤ (FI 119 1).toInt + (gs m : Nat) from (by have := congrArg Int32.toInt (show FI 119 1 = x1 from h2); exact (fun m hm => by omega))) (by omega)) ⟨rfl, rfl, rfl, trivial⟩
