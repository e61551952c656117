section
def nX0_putBlock : Nat := 0xb1f0ffa70102843e00b62e1c2b2a1000a2be2b1c3d034200b685be2b2a3e00b69e00112ab10400c72b
theorem bX0_putBlock : cX0_putBlock.data.toList.map UInt8.toNat = x_un nX0_putBlock 41 := by decide +kernel
def iX0_putBlock : List (Nat × Jvm.ClassFile.Instr × Nat) := [(0, .aload_n 1, 1), (1, .ifnonnull 4, 3), (4, .return_, 1), (5, .aload_n 0, 1), (6, .sipush 158, 3), (9, .invokevirtual 62, 3), (12, .aload_n 0, 1), (13, .aload_n 1, 1), (14, .arraylength, 1), (15, .i2l, 1), (16, .invokevirtual 66, 3), (19, .iconst 0, 1), (20, .istore_n 2, 1), (21, .iload_n 2, 1), (22, .aload_n 1, 1), (23, .arraylength, 1), (24, .if_icmp .ge 16, 3), (27, .aload_n 0, 1), (28, .aload_n 1, 1), (29, .iload_n 2, 1), (30, .iaload, 1), (31, .invokevirtual 62, 3), (34, .iinc 2 1, 3), (37, .goto (-16), 3), (40, .return_, 1)]
theorem dX0_putBlock : x_il nX0_putBlock 41 iX0_putBlock = true := by decide +kernel
theorem aX0_putBlock (k : Nat) {pc : Nat} {i : Jvm.ClassFile.Instr} {len : Nat} (hk : iX0_putBlock[k]? = some (pc, i, len)) : x_at xMM 5 pc i len yX0_putBlock 3 none := ⟨cX0_putBlock, rfl, x_il_ok bX0_putBlock dX0_putBlock k hk⟩
set_option maxHeartbeats 4000000 in
set_option maxRecDepth 100000 in
theorem k_X0_putBlock {sk : xK} {base d n sl : Nat} {SH : Nat → Nat × Nat} {FI : Nat → Nat → Int32} {FL : Nat → Nat → Int64} {FR : Nat → Nat → Option Nat} (hS : h_S n SH) (hF : h_FR FR) (hI : g_I FI) (hR : g_R n SH FR) (a1 : Option Nat) (ha1t : ∀ q, a1 = some q → q < n ∧ own q ∧ SH q = (100, (SH q).2)) (g0 : (FI 119 1).toInt ≤ 1999999780) (gg0 : ∀ q, a1 = some q → (SH q).2 ≤ 64) : hw sk base (d + 2) none 5 0 [(0, .ref (base + 119)), (1, va_rf (h_rf base (a1)))] [] (n, sl, SH, FI, FL, FR) (h_V (fun s => ∃ FI', s = (n, sl, SH, FI', FL, FR) ∧ g_I FI' ∧ g_fr n (shd SH) [(119, 1)] [120] [] FI FI' ∧ ((FI' 119 1).toInt ≤ (FI 119 1).toInt + 80) ∧ ((FI 119 1).toInt ≤ (FI' 119 1).toInt))) := by
  obtain ⟨x1, h2⟩ : ∃ y, FI 119 1 = y := ⟨_, rfl⟩
  have h2l := congrArg Int32.toInt h2
  have b3 := gI_119_1 hI; rw [h2] at b3
  refine xw_aloadn (aX0_putBlock 0 rfl) rfl ?_
  refine xw_ifnonnull (v := h_rf base a1) (tgt := 5) (aX0_putBlock 1 rfl) (by decide) (fun hn4 => ?_) (fun hn4 => ?_)
  · obtain ⟨r5, rfl⟩ := h_rf_s hn4
    obtain ⟨lt6, ow7, sh8⟩ := ha1t r5 rfl
    show hw sk base _ _ _ _ [(0, .ref (base + 119)), (1, .ref (base + r5))] [] _ _
    have hz := gg0 r5 rfl
    refine hw_aloadn (aX0_putBlock 3 rfl) rfl ?_
    refine hw_sp (v := (158 : Int32)) (aX0_putBlock 4 rfl) (by decide) ?_
    refine hw_callV (Bs := [.int ((158 : Int32))]) (rest := []) (aX0_putBlock 5 rfl) wc_RX0_62 (by decide) rfl wi_yX0_put wv_yX0_put (c119 hS) (s119 hS) rfl rfl rfl (Nat.le_of_ble_eq_true rfl) (Nat.le_of_ble_eq_true rfl) (k_X0_put (d := d + 1) hS hF hI hR ((158 : Int32)) (by have := congrArg Int32.toInt (show FI 119 1 = x1 from h2); omega)) (fun v9 sv10 p11 => ?_)
    have := congrArg Int32.toInt (show FI 119 1 = x1 from h2)
    obtain ⟨rfl, FI13, rfl, hI14, f15, t18⟩ := p11
    obtain ⟨x21, h22⟩ : ∃ y, FI13 119 1 = y := ⟨_, rfl⟩
    have h22l := congrArg Int32.toInt h22
    have b23 := gI_119_1 hI14; rw [h22] at b23
    show hw sk base _ _ _ _ _ [] _ _
    refine hw_aloadn (aX0_putBlock 6 rfl) rfl ?_
    refine hw_aloadn (aX0_putBlock 7 rfl) rfl ?_
    obtain ⟨x24, h25⟩ : ∃ y, Int32.ofNat (SH r5).2 = y := ⟨_, rfl⟩
    have b26 : (x24).toInt ≤ (((SH r5).2 : Nat) : Int) := by rw [← h25]; exact i_len
    have := i_rng x24
    refine hw_alen (k := 0) (v := x24) (aX0_putBlock 8 rfl) lt6 sh8 (by decide) h25 ?_
    refine xw_i2l (aX0_putBlock 9 rfl) ?_
    refine hw_tle (A := (x24).toInt) (i_2l rfl) (fun x27 e28 => ?_)
    refine hw_callV (Bs := [.long (x27)]) (rest := []) (aX0_putBlock 10 rfl) wc_RX0_66 (by decide) rfl wi_yX0_putLeb wv_yX0_putLeb (c119 hS) (s119 hS) rfl rfl rfl (Nat.le_of_ble_eq_true rfl) (Nat.le_of_ble_eq_true rfl) (k_X0_putLeb (d := d) hS hF hI14 hR (x27) (by have := congrArg Int32.toInt (show FI13 119 1 = x21 from h22); omega)) (fun v29 sv30 p31 => ?_)
    have := congrArg Int32.toInt (show FI13 119 1 = x21 from h22)
    have := congrArg Int32.toInt (show FI13 119 1 = x21 from h22)
    obtain ⟨rfl, FI33, rfl, hI34, f35, t38, t39⟩ := p31
    obtain ⟨x42, h43⟩ : ∃ y, FI33 119 1 = y := ⟨_, rfl⟩
    have h43l := congrArg Int32.toInt h43
    have b44 := gI_119_1 hI34; rw [h43] at b44
    show hw sk base _ _ _ _ _ [] _ _
    refine hw_ic (v := (0 : Int32)) (aX0_putBlock 11 rfl) (by decide) ?_
    refine xw_istoren (L2 := [(2, .int ((0 : Int32))), (0, .ref (base + 119)), (1, .ref (base + r5))]) (aX0_putBlock 12 rfl) (by decide) rfl ?_
    have lp51 : ∀ (m : Nat) (y2 : Int32) (FIv45 : Nat → Nat → Int32), (g_fr n (shd SH) [(119, 1)] [120] [] FI FIv45) → (g_I FIv45) → (0 ≤ (y2).toInt ∧ (y2).toInt ≤ 64) → ((FIv45 119 1).toInt ≤ (FI 119 1).toInt + 11 + (y2).toInt) → ((FI 119 1).toInt ≤ (FIv45 119 1).toInt) → 64 - (y2).toInt < m → hw sk base (d + 2) none 5 21 [(2, .int (y2)), (0, .ref (base + 119)), (1, .ref (base + r5))] [] (n, sl, SH, FIv45, FL, FR) (h_V (fun s => ∃ FI', s = (n, sl, SH, FI', FL, FR) ∧ g_I FI' ∧ g_fr n (shd SH) [(119, 1)] [120] [] FI FI' ∧ ((FI' 119 1).toInt ≤ (FI 119 1).toInt + 80) ∧ ((FI 119 1).toInt ≤ (FI' 119 1).toInt))) := by
      intro m
      induction m with
      | zero => intro y2 FIv45 fr46 hI47 iv48 iv49 iv50 hm; omega
      | succ m ih =>
        intro y2 FIv45 fr46 hI47 iv48 iv49 iv50 hm
        have rg_y2 := i_rng y2
        obtain ⟨x52, h53⟩ : ∃ y, FIv45 119 1 = y := ⟨_, rfl⟩
        have h53l := congrArg Int32.toInt h53
        have b54 := gI_119_1 hI47; rw [h53] at b54
        refine xw_iloadn (aX0_putBlock 13 rfl) rfl ?_
        refine hw_aloadn (aX0_putBlock 14 rfl) rfl ?_
        obtain ⟨x55, h56⟩ : ∃ y, Int32.ofNat (SH r5).2 = y := ⟨_, rfl⟩
        have b57 : (x55).toInt ≤ (((SH r5).2 : Nat) : Int) := by rw [← h56]; exact i_len
        have := i_rng x55
        refine hw_alen (k := 0) (v := x55) (aX0_putBlock 15 rfl) lt6 sh8 (by decide) h56 ?_
        refine hw_icge (tgt := 40) (aX0_putBlock 16 rfl) (by decide) rfl rfl (fun cd58 => ?_) (fun cd58 => ?_)
        · refine xw_vret (aX0_putBlock 24 rfl) rfl ?_
          exact ⟨rfl, FIv45, rfl, hI47, fr46, (by have := congrArg Int32.toInt (show FIv45 119 1 = x52 from h53); omega), (by have := congrArg Int32.toInt (show FIv45 119 1 = x52 from h53); omega)⟩
        · refine hw_aloadn (aX0_putBlock 17 rfl) rfl ?_
          refine hw_aloadn (aX0_putBlock 18 rfl) rfl ?_
          refine xw_iloadn (aX0_putBlock 19 rfl) rfl ?_
          obtain ⟨x59, h60⟩ : ∃ y, FIv45 r5 (y2).toNatClampNeg = y := ⟨_, rfl⟩
          have h60l := congrArg Int32.toInt h60
          have := i_rng x59
          refine hw_iald (v := x59) (aX0_putBlock 20 rfl) lt6 sh8 (h_in rfl (by omega) (by omega)) (show FIv45 r5 (y2).toNatClampNeg = x59 from h60) ?_
          refine hw_callV (Bs := [.int (x59)]) (rest := []) (aX0_putBlock 21 rfl) wc_RX0_62 (by decide) rfl wi_yX0_put wv_yX0_put (c119 hS) (s119 hS) rfl rfl rfl (Nat.le_of_ble_eq_true rfl) (Nat.le_of_ble_eq_true rfl) (k_X0_put (d := d + 1) hS hF hI47 hR (x59) (by have := congrArg Int32.toInt (show FIv45 119 1 = x52 from h53); omega)) (fun v61 sv62 p63 => ?_)
          have := congrArg Int32.toInt (show FIv45 119 1 = x52 from h53)
          obtain ⟨rfl, FI65, rfl, hI66, f67, t70⟩ := p63
          obtain ⟨x73, h74⟩ : ∃ y, FI65 119 1 = y := ⟨_, rfl⟩
          have h74l := congrArg Int32.toInt h74
          have b75 := gI_119_1 hI66; rw [h74] at b75
          show hw sk base _ _ _ _ _ [] _ _
          obtain ⟨x76, q78⟩ : ∃ y : Int32, (y2) + Int32.ofInt (1) = y := ⟨_, rfl⟩
          have e77 : (x76).toInt = (y2).toInt + (1) := by rw [← q78]; exact i_add rfl (by decide) (by omega) (by omega)
          refine xw_iinc (L2 := [(2, .int (x76)), (0, .ref (base + 119)), (1, .ref (base + r5))]) (aX0_putBlock 22 rfl) rfl (by decide) (by rw [q78]; rfl) ?_
          refine xw_goto (tgt := 21) (aX0_putBlock 23 rfl) (by decide) ?_
          exact hw_L (ih (x76) FI65 (gf_tr ex_rf fr46 f67 rfl rfl rfl) hI66 (by have := (e77 : (x76).toInt = (y2).toInt + (1)); omega) (by have := (e77 : (x76).toInt = (y2).toInt + (1)); have := congrArg Int32.toInt (show FI65 119 1 = x73 from h74); omega) (by have := (e77 : (x76).toInt = (y2).toInt + (1)); have := congrArg Int32.toInt (show FI65 119 1 = x73 from h74); omega) (by have := (e77 : (x76).toInt = (y2).toInt + (1)); omega)) ⟨rfl, rfl, rfl, trivial⟩
    exact hw_L (lp51 ((64 - 0 : Int).toNat + 1) ((0 : Int32)) FI33 (gf_tr ex_rf (gf_tr ex_rf gf_rf f15 rfl rfl rfl) f35 rfl rfl rfl) hI34 (by have := ((by decide : (0 : Int32).toInt = 0) : ((0 : Int32)).toInt = 0); omega) (by have := ((by decide : (0 : Int32).toInt = 0) : ((0 : Int32)).toInt = 0); have := congrArg Int32.toInt (show FI33 119 1 = x42 from h43); omega) (by have := ((by decide : (0 : Int32).toInt = 0) : ((0 : Int32)).toInt = 0); have := congrArg Int32.toInt (show FI33 119 1 = x42 from h43); omega) (by have := ((by decide : (0 : Int32).toInt = 0) : ((0 : Int32)).toInt = 0); omega)) ⟨rfl, rfl, rfl, trivial⟩
  · obtain rfl := h_rf_n hn4
    show hw sk base _ _ _ _ [(0, .ref (base + 119)), (1, .null)] [] _ _
    refine xw_vret (aX0_putBlock 2 rfl) rfl ?_
    exact ⟨rfl, FI, rfl, hI, gf_rf, (by have := congrArg Int32.toInt (show FI 119 1 = x1 from h2); omega), (by have := congrArg Int32.toInt (show FI 119 1 = x1 from h2); omega)⟩
def nX0_putPlace : Nat := 0xb10300a75c00b65900b42b2a0e00a73e00b69f00112a5500b6035100b42b2a2100a75500b6035100b42b2a2d00a73e00b660884d00b42b50102a4e0000003b000000200000002f000000040000000100000059000000000000aa4a00b42b
theorem bX0_putPlace : cX0_putPlace.data.toList.map UInt8.toNat = x_un nX0_putPlace 94 := by decide +kernel
def iX0_putPlace : List (Nat × Jvm.ClassFile.Instr × Nat) := [(0, .aload_n 1, 1), (1, .getfield 74, 3), (36, .aload_n 0, 1), (37, .bipush 80, 2), (39, .aload_n 1, 1), (40, .getfield 77, 3), (43, .l2i, 1), (44, .iadd, 1), (45, .invokevirtual 62, 3), (48, .goto 45, 3), (51, .aload_n 0, 1), (52, .aload_n 1, 1), (53, .getfield 81, 3), (56, .iconst 0, 1), (57, .invokevirtual 85, 3), (60, .goto 33, 3), (63, .aload_n 0, 1), (64, .aload_n 1, 1), (65, .getfield 81, 3), (68, .iconst 0, 1), (69, .invokevirtual 85, 3), (72, .aload_n 0, 1), (73, .sipush 159, 3), (76, .invokevirtual 62, 3), (79, .goto 14, 3), (82, .aload_n 0, 1), (83, .aload_n 1, 1), (84, .getfield 89, 3), (87, .invokevirtual 92, 3), (90, .goto 3, 3), (93, .return_, 1)]
theorem dX0_putPlace : x_il nX0_putPlace 94 iX0_putPlace = true := by decide +kernel
theorem aX0_putPlace (k : Nat) {pc : Nat} {i : Jvm.ClassFile.Instr} {len : Nat} (hk : iX0_putPlace[k]? = some (pc, i, len)) : x_at xMM 4 pc i len yX0_putPlace 2 none := ⟨cX0_putPlace, rfl, x_il_ok bX0_putPlace dX0_putPlace k hk⟩
theorem aX0_putPlace_4 : x_at xMM 4 4 (.tableswitch 89 1 4 #[47, 32, 59, 78]) 32 yX0_putPlace 2 none := ⟨cX0_putPlace, rfl, by decide +kernel⟩
set_option maxHeartbeats 4000000 in
set_option maxRecDepth 100000 in
theorem k_X0_putPlace {sk : xK} {base d n sl : Nat} {SH : Nat → Nat × Nat} {FI : Nat → Nat → Int32} {FL : Nat → Nat → Int64} {FR : Nat → Nat → Option Nat} (hS : h_S n SH) (hF : h_FR FR) (hI : g_I FI) (hR : g_R n SH FR) (a1 : Nat) {z1 : Nat} (ha1l : a1 < n) (ha1s : SH a1 = (6, z1)) (ha1o : own a1) (gp : Nat → Nat) (gw : Nat → Nat) (gs : Nat → Nat) (g0 : (FI 119 1).toInt + (gw a1 : Nat) ≤ 1999999880) (gg0 : g_T n SH FI FR gp gw gs) : hw sk base (d + 249) none 4 0 [(0, .ref (base + 119)), (1, .ref (base + a1))] [] (n, sl, SH, FI, FL, FR) (h_V (fun s => ∃ FI', s = (n, sl, SH, FI', FL, FR) ∧ g_I FI' ∧ g_fr n (shd SH) [(119, 1)] [120] [] FI FI' ∧ ((FI' 119 1).toInt + 100 ≤ (FI 119 1).toInt + (gw a1 : Nat)) ∧ ((FI 119 1).toInt ≤ (FI' 119 1).toInt))) := by
  obtain ⟨x1, h2⟩ : ∃ y, FI 119 1 = y := ⟨_, rfl⟩
  have h2l := congrArg Int32.toInt h2
  have b3 := gI_119_1 hI; rw [h2] at b3
  obtain ⟨o4, h5⟩ : ∃ y, FR a1 2 = y := ⟨_, rfl⟩
  have ht6 : ∀ r, o4 = some r → r < n ∧ own r ∧ SH r = (3, (SH r).2) := fun r e => gR_get hR ha1l ha1o ha1s (h5.trans e)
  have hwe : g_w gw (o4) + 200 ≤ gw a1 := gT_e gg0 ha1l ha1s (show FR a1 2 = o4 from h5)
  refine hw_aloadn (aX0_putPlace 0 rfl) rfl ?_
  obtain ⟨x7, h8⟩ : ∃ y, FI a1 0 = y := ⟨_, rfl⟩
  have h8l := congrArg Int32.toInt h8
  have := i_rng x7
  refine hw_get (v := .int (x7)) (aX0_putPlace 1 rfl) wf_RX0_74 ha1l ha1s (by decide) (congrArg Value.int (show FI a1 0 = x7 from h8)) ?_
  have hsw : ((x7).toInt < 1 ∨ 4 < (x7).toInt) ∨ ((x7).toInt = 1) ∨ ((x7).toInt = 2) ∨ ((x7).toInt = 3) ∨ ((x7).toInt = 4) := by omega
  rcases hsw with hsw | hsw | hsw | hsw | hsw
  · refine xw_tsw (tgt := 93) aX0_putPlace_4 (Or.inl ⟨hsw, by decide⟩) ?_
    refine xw_vret (aX0_putPlace 30 rfl) rfl ?_
    exact ⟨rfl, FI, rfl, hI, gf_rf, (by have := congrArg Int32.toInt (show FI 119 1 = x1 from h2); omega), (by have := congrArg Int32.toInt (show FI 119 1 = x1 from h2); omega)⟩
  · refine xw_tsw (tgt := 51) aX0_putPlace_4 (by exact Or.inr ⟨by omega, by omega, _, by rw [hsw]; rfl, by decide⟩) ?_
    refine hw_aloadn (aX0_putPlace 10 rfl) rfl ?_
    refine hw_aloadn (aX0_putPlace 11 rfl) rfl ?_
    refine hw_get (v := va_rf (h_rf base (o4))) (aX0_putPlace 12 rfl) wf_RX0_81 ha1l ha1s (by decide) (congrArg (fun r => va_rf (h_rf base r)) (show FR a1 2 = o4 from h5)) ?_
    refine hw_ic (v := (0 : Int32)) (aX0_putPlace 13 rfl) (by decide) ?_
    refine hw_callVo (Bs := [va_rf (h_rf base (o4)), .int ((0 : Int32))]) (rest := []) (L2 := [(0, .ref (base + 119)), (1, va_rf (h_rf base (o4))), (2, .int ((0 : Int32)))]) (aX0_putPlace 14 rfl) wc_RX0_85 (by decide) rfl wi_yX0_putNode wv_yX0_putNode (c119 hS) (s119 hS) rfl rfl rfl (Nat.le_of_ble_eq_true rfl) (by simp [lg_sl, va_cat, va_ci, va_cl, va_cr, va_cn]) (by simp [lv_args, va_cat, va_ci, va_cl, va_cr, va_cn]) (k_putNode (d := d) hS hF hI hR (o4) ht6 ((0 : Int32)) (gp) (gw) (gs) (by have := congrArg Int32.toInt (show FI 119 1 = x1 from h2); omega) (by have := ((by decide : (0 : Int32).toInt = 0) : ((0 : Int32)).toInt = 0); have := ((by decide : (0 : Int32).toInt = 0) : ((0 : Int32)).toInt = 0); omega) (gT_mv (L := [(119, 1)]) (A := [120]) (T := []) hS gg0 gf_rf (by decide))) (fun v9 sv10 p11 => ?_)
    have := congrArg Int32.toInt (show FI 119 1 = x1 from h2)
    have := congrArg Int32.toInt (show FI 119 1 = x1 from h2)
    obtain ⟨rfl, FI13, rfl, hI14, f15, t18, t19⟩ := p11
    obtain ⟨x22, h23⟩ : ∃ y, FI13 119 1 = y := ⟨_, rfl⟩
    have h23l := congrArg Int32.toInt h23
    have b24 := gI_119_1 hI14; rw [h23] at b24
    show hw sk base _ _ _ _ _ [] _ _
    refine xw_goto (tgt := 93) (aX0_putPlace 15 rfl) (by decide) ?_
    refine xw_vret (aX0_putPlace 30 rfl) rfl ?_
    exact ⟨rfl, FI13, rfl, hI14, (gf_tr ex_rf gf_rf f15 rfl rfl rfl), (by have := congrArg Int32.toInt (show FI13 119 1 = x22 from h23); omega), (by have := congrArg Int32.toInt (show FI13 119 1 = x22 from h23); omega)⟩
  · refine xw_tsw (tgt := 36) aX0_putPlace_4 (by exact Or.inr ⟨by omega, by omega, _, by rw [hsw]; rfl, by decide⟩) ?_
    refine hw_aloadn (aX0_putPlace 2 rfl) rfl ?_
    refine hw_bp (v := (80 : Int32)) (aX0_putPlace 3 rfl) (by decide) ?_
    refine hw_aloadn (aX0_putPlace 4 rfl) rfl ?_
    obtain ⟨x25, h26⟩ : ∃ y, FL a1 1 = y := ⟨_, rfl⟩
    have h26l := congrArg Int64.toInt h26
    have := l_rng x25
    refine hw_get (v := .long (x25)) (aX0_putPlace 5 rfl) wf_RX0_77 ha1l ha1s (by decide) (congrArg Value.long (show FL a1 1 = x25 from h26)) ?_
    refine xw_l2i (aX0_putPlace 6 rfl) ?_
    refine hw_ti (fun x27 => ?_)
    have b28 := i_rng x27
    refine xw_iadd (aX0_putPlace 7 rfl) ?_
    have := i_rng (((80 : Int32)) + (x27))
    refine hw_callV (Bs := [.int ((((80 : Int32)) + (x27)))]) (rest := []) (aX0_putPlace 8 rfl) wc_RX0_62 (by decide) rfl wi_yX0_put wv_yX0_put (c119 hS) (s119 hS) rfl rfl rfl (Nat.le_of_ble_eq_true rfl) (Nat.le_of_ble_eq_true rfl) (k_X0_put (d := d + 248) hS hF hI hR ((((80 : Int32)) + (x27))) (by have := congrArg Int32.toInt (show FI 119 1 = x1 from h2); omega)) (fun v29 sv30 p31 => ?_)
    have := congrArg Int32.toInt (show FI 119 1 = x1 from h2)
    obtain ⟨rfl, FI33, rfl, hI34, f35, t38⟩ := p31
    obtain ⟨x41, h42⟩ : ∃ y, FI33 119 1 = y := ⟨_, rfl⟩
    have h42l := congrArg Int32.toInt h42
    have b43 := gI_119_1 hI34; rw [h42] at b43
    show hw sk base _ _ _ _ _ [] _ _
    refine xw_goto (tgt := 93) (aX0_putPlace 9 rfl) (by decide) ?_
    refine xw_vret (aX0_putPlace 30 rfl) rfl ?_
    exact ⟨rfl, FI33, rfl, hI34, (gf_tr ex_rf gf_rf f35 rfl rfl rfl), (by have := congrArg Int32.toInt (show FI33 119 1 = x41 from h42); omega), (by have := congrArg Int32.toInt (show FI33 119 1 = x41 from h42); omega)⟩
  · refine xw_tsw (tgt := 63) aX0_putPlace_4 (by exact Or.inr ⟨by omega, by omega, _, by rw [hsw]; rfl, by decide⟩) ?_
    refine hw_aloadn (aX0_putPlace 16 rfl) rfl ?_
    refine hw_aloadn (aX0_putPlace 17 rfl) rfl ?_
    refine hw_get (v := va_rf (h_rf base (o4))) (aX0_putPlace 18 rfl) wf_RX0_81 ha1l ha1s (by decide) (congrArg (fun r => va_rf (h_rf base r)) (show FR a1 2 = o4 from h5)) ?_
    refine hw_ic (v := (0 : Int32)) (aX0_putPlace 19 rfl) (by decide) ?_
    refine hw_callVo (Bs := [va_rf (h_rf base (o4)), .int ((0 : Int32))]) (rest := []) (L2 := [(0, .ref (base + 119)), (1, va_rf (h_rf base (o4))), (2, .int ((0 : Int32)))]) (aX0_putPlace 20 rfl) wc_RX0_85 (by decide) rfl wi_yX0_putNode wv_yX0_putNode (c119 hS) (s119 hS) rfl rfl rfl (Nat.le_of_ble_eq_true rfl) (by simp [lg_sl, va_cat, va_ci, va_cl, va_cr, va_cn]) (by simp [lv_args, va_cat, va_ci, va_cl, va_cr, va_cn]) (k_putNode (d := d) hS hF hI hR (o4) ht6 ((0 : Int32)) (gp) (gw) (gs) (by have := congrArg Int32.toInt (show FI 119 1 = x1 from h2); omega) (by have := ((by decide : (0 : Int32).toInt = 0) : ((0 : Int32)).toInt = 0); have := ((by decide : (0 : Int32).toInt = 0) : ((0 : Int32)).toInt = 0); omega) (gT_mv (L := [(119, 1)]) (A := [120]) (T := []) hS gg0 gf_rf (by decide))) (fun v44 sv45 p46 => ?_)
    have := congrArg Int32.toInt (show FI 119 1 = x1 from h2)
    have := congrArg Int32.toInt (show FI 119 1 = x1 from h2)
    obtain ⟨rfl, FI48, rfl, hI49, f50, t53, t54⟩ := p46
    obtain ⟨x57, h58⟩ : ∃ y, FI48 119 1 = y := ⟨_, rfl⟩
    have h58l := congrArg Int32.toInt h58
    have b59 := gI_119_1 hI49; rw [h58] at b59
    show hw sk base _ _ _ _ _ [] _ _
    refine hw_aloadn (aX0_putPlace 21 rfl) rfl ?_
    refine hw_sp (v := (159 : Int32)) (aX0_putPlace 22 rfl) (by decide) ?_
    refine hw_callV (Bs := [.int ((159 : Int32))]) (rest := []) (aX0_putPlace 23 rfl) wc_RX0_62 (by decide) rfl wi_yX0_put wv_yX0_put (c119 hS) (s119 hS) rfl rfl rfl (Nat.le_of_ble_eq_true rfl) (Nat.le_of_ble_eq_true rfl) (k_X0_put (d := d + 248) hS hF hI49 hR ((159 : Int32)) (by have := congrArg Int32.toInt (show FI48 119 1 = x57 from h58); omega)) (fun v60 sv61 p62 => ?_)
    have := congrArg Int32.toInt (show FI48 119 1 = x57 from h58)
    obtain ⟨rfl, FI64, rfl, hI65, f66, t69⟩ := p62
    obtain ⟨x72, h73⟩ : ∃ y, FI64 119 1 = y := ⟨_, rfl⟩
    have h73l := congrArg Int32.toInt h73
    have b74 := gI_119_1 hI65; rw [h73] at b74
    show hw sk base _ _ _ _ _ [] _ _
    refine xw_goto (tgt := 93) (aX0_putPlace 24 rfl) (by decide) ?_
    refine xw_vret (aX0_putPlace 30 rfl) rfl ?_
    exact ⟨rfl, FI64, rfl, hI65, (gf_tr ex_rf (gf_tr ex_rf gf_rf f50 rfl rfl rfl) f66 rfl rfl rfl), (by have := congrArg Int32.toInt (show FI64 119 1 = x72 from h73); omega), (by have := congrArg Int32.toInt (show FI64 119 1 = x72 from h73); omega)⟩
  · refine xw_tsw (tgt := 82) aX0_putPlace_4 (by exact Or.inr ⟨by omega, by omega, _, by rw [hsw]; rfl, by decide⟩) ?_
    refine hw_aloadn (aX0_putPlace 25 rfl) rfl ?_
    refine hw_aloadn (aX0_putPlace 26 rfl) rfl ?_
    obtain ⟨o75, h76⟩ : ∃ y, FR a1 3 = y := ⟨_, rfl⟩
    have ht77 : ∀ r, o75 = some r → r < n ∧ own r ∧ SH r = (100, (SH r).2) := fun r e => gR_get hR ha1l ha1o ha1s (h76.trans e)
    refine hw_get (v := va_rf (h_rf base (o75))) (aX0_putPlace 27 rfl) wf_RX0_89 ha1l ha1s (by decide) (congrArg (fun r => va_rf (h_rf base r)) (show FR a1 3 = o75 from h76)) ?_
    refine hw_callVo (Bs := [va_rf (h_rf base (o75))]) (rest := []) (L2 := [(0, .ref (base + 119)), (1, va_rf (h_rf base (o75)))]) (aX0_putPlace 28 rfl) wc_RX0_92 (by decide) rfl wi_yX0_putBlock wv_yX0_putBlock (c119 hS) (s119 hS) rfl rfl rfl (Nat.le_of_ble_eq_true rfl) (by simp [lg_sl, va_cat, va_ci, va_cl, va_cr, va_cn]) (by simp [lv_args, va_cat, va_ci, va_cl, va_cr, va_cn]) (k_X0_putBlock (d := d + 246) hS hF hI hR (o75) ht77 (by have := congrArg Int32.toInt (show FI 119 1 = x1 from h2); omega) (fun q hq => gT_b gg0 ha1l ha1s ((show FR a1 3 = o75 from h76).trans hq))) (fun v78 sv79 p80 => ?_)
    have := congrArg Int32.toInt (show FI 119 1 = x1 from h2)
    have := congrArg Int32.toInt (show FI 119 1 = x1 from h2)
    obtain ⟨rfl, FI82, rfl, hI83, f84, t87, t88⟩ := p80
    obtain ⟨x91, h92⟩ : ∃ y, FI82 119 1 = y := ⟨_, rfl⟩
    have h92l := congrArg Int32.toInt h92
    have b93 := gI_119_1 hI83; rw [h92] at b93
    show hw sk base _ _ _ _ _ [] _ _
    refine xw_goto (tgt := 93) (aX0_putPlace 29 rfl) (by decide) ?_
    refine xw_vret (aX0_putPlace 30 rfl) rfl ?_
    exact ⟨rfl, FI82, rfl, hI83, (gf_tr ex_rf gf_rf f84 rfl rfl rfl), (by have := congrArg Int32.toInt (show FI82 119 1 = x91 from h92); omega), (by have := congrArg Int32.toInt (show FI82 119 1 = x91 from h92); omega)⟩
def nX0_putLocation : Nat := 0xac030400a7040700a32c0111641c0f00b42adaffa74e4600b42d4200b6853900b42d2a3e00b69300112a13009f023900b42d3500b62d2a2800c62d4e2b3d0f00b42a
theorem bX0_putLocation : cX0_putLocation.data.toList.map UInt8.toNat = x_un nX0_putLocation 66 := by decide +kernel
def iX0_putLocation : List (Nat × Jvm.ClassFile.Instr × Nat) := [(0, .aload_n 0, 1), (1, .getfield 15, 3), (4, .istore_n 2, 1), (5, .aload_n 1, 1), (6, .astore_n 3, 1), (7, .aload_n 3, 1), (8, .ifnull 40, 3), (11, .aload_n 0, 1), (12, .aload_n 3, 1), (13, .invokevirtual 53, 3), (16, .aload_n 3, 1), (17, .getfield 57, 3), (20, .iconst (-1), 1), (21, .if_icmp .eq 19, 3), (24, .aload_n 0, 1), (25, .sipush 147, 3), (28, .invokevirtual 62, 3), (31, .aload_n 0, 1), (32, .aload_n 3, 1), (33, .getfield 57, 3), (36, .i2l, 1), (37, .invokevirtual 66, 3), (40, .aload_n 3, 1), (41, .getfield 70, 3), (44, .astore_n 3, 1), (45, .goto (-38), 3), (48, .aload_n 0, 1), (49, .getfield 15, 3), (52, .iload_n 2, 1), (53, .isub, 1), (54, .sipush 300, 3), (57, .if_icmp .gt 7, 3), (60, .iconst 1, 1), (61, .goto 4, 3), (64, .iconst 0, 1), (65, .ireturn, 1)]
theorem dX0_putLocation : x_il nX0_putLocation 66 iX0_putLocation = true := by decide +kernel
theorem aX0_putLocation (k : Nat) {pc : Nat} {i : Jvm.ClassFile.Instr} {len : Nat} (hk : iX0_putLocation[k]? = some (pc, i, len)) : x_at xMM 3 pc i len yX0_putLocation 4 (some .boolean) := ⟨cX0_putLocation, rfl, x_il_ok bX0_putLocation dX0_putLocation k hk⟩
set_option maxHeartbeats 4000000 in
set_option maxRecDepth 100000 in
theorem k_X0_putLocation {sk : xK} {base d n sl : Nat} {SH : Nat → Nat × Nat} {FI : Nat → Nat → Int32} {FL : Nat → Nat → Int64} {FR : Nat → Nat → Option Nat} (hS : h_S n SH) (hF : h_FR FR) (hI : g_I FI) (hR : g_R n SH FR) (a1 : Option Nat) (ha1t : ∀ q, a1 = some q → q < n ∧ own q ∧ SH q = (6, (SH q).2)) (gp : Nat → Nat) (gw : Nat → Nat) (gs : Nat → Nat) (g0 : (FI 119 1).toInt ≤ 1799998980) (gg0 : g_T n SH FI FR gp gw gs) : hw sk base (d + 250) none 3 0 [(0, .ref (base + 119)), (1, va_rf (h_rf base (a1)))] [] (n, sl, SH, FI, FL, FR) (h_I (fun r s => ∃ FI', s = (n, sl, SH, FI', FL, FR) ∧ g_I FI' ∧ g_fr n (shd SH) [(119, 1)] [120] [] FI FI' ∧ ((FI' 119 1).toInt ≤ (FI 119 1).toInt + 200000000) ∧ ((FI 119 1).toInt ≤ (FI' 119 1).toInt) ∧ (0 ≤ r.toInt ∧ r.toInt ≤ 1))) := by
  obtain ⟨x1, h2⟩ : ∃ y, FI 119 1 = y := ⟨_, rfl⟩
  have h2l := congrArg Int32.toInt h2
  have b3 := gI_119_1 hI; rw [h2] at b3
  refine hw_aloadn (aX0_putLocation 0 rfl) rfl ?_
  refine hw_get (v := .int (x1)) (aX0_putLocation 1 rfl) wf_RX0_15 (c119 hS) (s119 hS) (by decide) (congrArg Value.int (show FI 119 1 = x1 from h2)) ?_
  refine xw_istoren (L2 := [(2, .int (x1)), (0, .ref (base + 119)), (1, va_rf (h_rf base (a1)))]) (aX0_putLocation 2 rfl) (by decide) (by first | rfl | simp [x_s1, x_s2, va_cat, va_ci, va_cl, va_cr, va_cn] | (simp [x_s1, x_s2, va_cat, va_ci, va_cl, va_cr, va_cn]; decide)) ?_
  refine xw_aloadn (aX0_putLocation 3 rfl) rfl ?_
  refine xw_astoren (L2 := [(3, va_rf (h_rf base (a1))), (2, .int (x1)), (0, .ref (base + 119)), (1, va_rf (h_rf base (a1)))]) (aX0_putLocation 4 rfl) (by decide) (by first | rfl | simp [x_s1, x_s2, va_cat, va_ci, va_cl, va_cr, va_cn] | (simp [x_s1, x_s2, va_cat, va_ci, va_cl, va_cr, va_cn]; decide)) ?_
  have lp10 : ∀ (m : Nat) (y3 : Option Nat) (FIv5 : Nat → Nat → Int32), (∀ q, y3 = some q → q < n ∧ own q ∧ SH q = (6, (SH q).2)) → (g_fr n (shd SH) [(119, 1)] [120] [] FI FIv5) → (g_I FIv5) → ((FI 119 1).toInt ≤ (FIv5 119 1).toInt) → ((FIv5 119 1).toInt ≤ (FI 119 1).toInt + 200000000) → (∀ m, (y3) = some m → (FIv5 119 1).toInt ≤ (FI 119 1).toInt + (gs m : Nat)) → ((g_ms gs 200000000 (y3) : Nat) : Int) < m → hw sk base (d + 250) none 3 7 [(3, va_rf (h_rf base (y3))), (2, .int (x1)), (0, .ref (base + 119))] [] (n, sl, SH, FIv5, FL, FR) (h_I (fun r s => ∃ FI', s = (n, sl, SH, FI', FL, FR) ∧ g_I FI' ∧ g_fr n (shd SH) [(119, 1)] [120] [] FI FI' ∧ ((FI' 119 1).toInt ≤ (FI 119 1).toInt + 200000000) ∧ ((FI 119 1).toInt ≤ (FI' 119 1).toInt) ∧ (0 ≤ r.toInt ∧ r.toInt ≤ 1))) := by
    intro m
    induction m with
    | zero => intro y3 FIv5 ty4 fr6 hI7 iv8 iv9 xi7_0 hm; omega
    | succ m ih =>
      intro y3 FIv5 ty4 fr6 hI7 iv8 iv9 xi7_0 hm
      obtain ⟨x11, h12⟩ : ∃ y, FIv5 119 1 = y := ⟨_, rfl⟩
      have h12l := congrArg Int32.toInt h12
      have b13 := gI_119_1 hI7; rw [h12] at b13
      refine xw_aloadn (aX0_putLocation 5 rfl) rfl ?_
      refine xw_ifnull (v := h_rf base y3) (tgt := 48) (aX0_putLocation 6 rfl) (by decide) (fun hn14 => ?_) (fun hn14 => ?_)
      · obtain rfl := h_rf_n hn14
        show hw sk base _ _ _ _ [(3, .null), (2, .int (x1)), (0, .ref (base + 119))] [] _ _
        refine hw_aloadn (aX0_putLocation 26 rfl) rfl ?_
        refine hw_get (v := .int (x11)) (aX0_putLocation 27 rfl) wf_RX0_15 (c119 hS) (s119 hS) (by decide) (congrArg Value.int (show FIv5 119 1 = x11 from h12)) ?_
        refine xw_iloadn (aX0_putLocation 28 rfl) rfl ?_
        refine xw_isub (aX0_putLocation 29 rfl) ?_
        refine hw_tie (A := ((x11).toInt) - ((x1).toInt)) (i_sub rfl rfl (by omega) (by omega)) (fun x15 e16 => ?_)
        refine hw_sp (v := (300 : Int32)) (aX0_putLocation 30 rfl) (by decide) ?_
        refine hw_icgt (tgt := 64) (aX0_putLocation 31 rfl) (by decide) e16 (by decide : (300 : Int32).toInt = 300) (fun cd17 => ?_) (fun cd17 => ?_)
        · refine hw_ic (v := (0 : Int32)) (aX0_putLocation 34 rfl) (by decide) ?_
          refine xw_iret (aX0_putLocation 35 rfl) rfl (by decide) ?_
          have e18 : ((0 : Int32)).toInt = 0 := (by decide : (0 : Int32).toInt = 0)
          exact ⟨(0 : Int32), rfl, FIv5, rfl, hI7, fr6, (by have : ((0 : Int32)).toInt = 0 := (by decide); have := congrArg Int32.toInt (show FIv5 119 1 = x11 from h12); omega), (by have : ((0 : Int32)).toInt = 0 := (by decide); have := congrArg Int32.toInt (show FIv5 119 1 = x11 from h12); omega), (by have : ((0 : Int32)).toInt = 0 := (by decide); omega)⟩
        · refine hw_ic (v := (1 : Int32)) (aX0_putLocation 32 rfl) (by decide) ?_
          refine xw_goto (tgt := 65) (aX0_putLocation 33 rfl) (by decide) ?_
          refine xw_iret (aX0_putLocation 35 rfl) rfl (by decide) ?_
          have e19 : ((1 : Int32)).toInt = 1 := (by decide : (1 : Int32).toInt = 1)
          exact ⟨(1 : Int32), rfl, FIv5, rfl, hI7, fr6, (by have : ((1 : Int32)).toInt = 1 := (by decide); have := congrArg Int32.toInt (show FIv5 119 1 = x11 from h12); omega), (by have : ((1 : Int32)).toInt = 1 := (by decide); have := congrArg Int32.toInt (show FIv5 119 1 = x11 from h12); omega), (by have : ((1 : Int32)).toInt = 1 := (by decide); omega)⟩
      · obtain ⟨r20, rfl⟩ := h_rf_s hn14
        obtain ⟨lt21, ow22, sh23⟩ := ty4 r20 rfl
        show hw sk base _ _ _ _ [(3, .ref (base + r20)), (2, .int (x1)), (0, .ref (base + 119))] [] _ _
        have hb3 := xi7_0 r20 rfl
        have hm3 := gT_m gg0 lt21 sh23
        clear xi7_0
        refine hw_aloadn (aX0_putLocation 7 rfl) rfl ?_
        refine hw_aloadn (aX0_putLocation 8 rfl) rfl ?_
        refine hw_callV (Bs := [.ref (base + r20)]) (rest := []) (aX0_putLocation 9 rfl) wc_RX0_53 (by decide) rfl wi_yX0_putPlace wv_yX0_putPlace (c119 hS) (s119 hS) rfl rfl rfl (Nat.le_of_ble_eq_true rfl) (Nat.le_of_ble_eq_true rfl) (k_X0_putPlace (d := d) hS hF hI7 hR (r20) lt21 sh23 ow22 (gp) (gw) (gs) (by have := congrArg Int32.toInt (show FIv5 119 1 = x11 from h12); omega) (gT_mv (L := [(119, 1)]) (A := [120]) (T := []) hS gg0 fr6 (by decide))) (fun v24 sv25 p26 => ?_)
        have := congrArg Int32.toInt (show FIv5 119 1 = x11 from h12)
        have := congrArg Int32.toInt (show FIv5 119 1 = x11 from h12)
        obtain ⟨rfl, FI28, rfl, hI29, f30, t33, t34⟩ := p26
        obtain ⟨x37, h38⟩ : ∃ y, FI28 119 1 = y := ⟨_, rfl⟩
        have h38l := congrArg Int32.toInt h38
        have b39 := gI_119_1 hI29; rw [h38] at b39
        show hw sk base _ _ _ _ _ [] _ _
        refine hw_aloadn (aX0_putLocation 10 rfl) rfl ?_
        obtain ⟨x40, h41⟩ : ∃ y, FI28 r20 4 = y := ⟨_, rfl⟩
        have h41l := congrArg Int32.toInt h41
        have := i_rng x40
        refine hw_get (v := .int (x40)) (aX0_putLocation 11 rfl) wf_RX0_57 lt21 sh23 (by decide) (congrArg Value.int (show FI28 r20 4 = x40 from h41)) ?_
        refine hw_ic (v := ((-1) : Int32)) (aX0_putLocation 12 rfl) (by decide) ?_
        refine hw_iceq (tgt := 40) (aX0_putLocation 13 rfl) (by decide) rfl (by decide : ((-1) : Int32).toInt = (-1)) (fun cd42 => ?_) (fun cd42 => ?_)
        · refine hw_aloadn (aX0_putLocation 22 rfl) rfl ?_
          obtain ⟨o43, h44⟩ : ∃ y, FR r20 5 = y := ⟨_, rfl⟩
          have ht45 : ∀ r, o43 = some r → r < n ∧ own r ∧ SH r = (6, (SH r).2) := fun r e => gR_get hR lt21 ow22 sh23 (h44.trans e)
          refine hw_get (v := va_rf (h_rf base (o43))) (aX0_putLocation 23 rfl) wf_RX0_70 lt21 sh23 (by decide) (congrArg (fun r => va_rf (h_rf base r)) (show FR r20 5 = o43 from h44)) ?_
          refine xw_astoren (L2 := [(3, va_rf (h_rf base (o43))), (2, .int (x1)), (0, .ref (base + 119))]) (aX0_putLocation 24 rfl) (by decide) (by first | rfl | simp [x_s1, x_s2, va_cat, va_ci, va_cl, va_cr, va_cn] | (simp [x_s1, x_s2, va_cat, va_ci, va_cl, va_cr, va_cn]; decide)) ?_
          refine xw_goto (tgt := 7) (aX0_putLocation 25 rfl) (by decide) ?_
          exact hw_L (ih (o43) FI28 (ht45) (gf_tr ex_rf fr6 f30 rfl rfl rfl) hI29 (by have := congrArg Int32.toInt (show FI28 119 1 = x37 from h38); omega) (by have := congrArg Int32.toInt (show FI28 119 1 = x37 from h38); omega) (show ∀ m, (o43) = some m → (FI28 119 1).toInt ≤ (FI 119 1).toInt + (gs m : Nat) from (by have := congrArg Int32.toInt (show FI28 119 1 = x37 from h38); exact (fun m hm => by have q1 := gT_l gg0 lt21 sh23 (r := m) ((show FR r20 5 = o43 from h44).trans hm); omega))) (by rcases hq : (o43) with _ | q9; { simp only [g_ms] at hm ⊢; omega }; { have q8 := gT_l gg0 lt21 sh23 (r := q9) ((show FR r20 5 = o43 from h44).trans hq); simp only [g_ms] at hm ⊢; omega })) ⟨rfl, rfl, rfl, trivial⟩
        · refine hw_aloadn (aX0_putLocation 14 rfl) rfl ?_
          refine hw_sp (v := (147 : Int32)) (aX0_putLocation 15 rfl) (by decide) ?_
          refine hw_callV (Bs := [.int ((147 : Int32))]) (rest := []) (aX0_putLocation 16 rfl) wc_RX0_62 (by decide) rfl wi_yX0_put wv_yX0_put (c119 hS) (s119 hS) rfl rfl rfl (Nat.le_of_ble_eq_true rfl) (Nat.le_of_ble_eq_true rfl) (k_X0_put (d := d + 249) hS hF hI29 hR ((147 : Int32)) (by have := congrArg Int32.toInt (show FI28 119 1 = x37 from h38); omega)) (fun v46 sv47 p48 => ?_)
          have := congrArg Int32.toInt (show FI28 119 1 = x37 from h38)
          obtain ⟨rfl, FI50, rfl, hI51, f52, t55⟩ := p48
          obtain ⟨x58, h59⟩ : ∃ y, FI50 119 1 = y := ⟨_, rfl⟩
          have h59l := congrArg Int32.toInt h59
          have b60 := gI_119_1 hI51; rw [h59] at b60
          show hw sk base _ _ _ _ _ [] _ _
          refine hw_aloadn (aX0_putLocation 17 rfl) rfl ?_
          refine hw_aloadn (aX0_putLocation 18 rfl) rfl ?_
          refine hw_get (v := .int (x40)) (aX0_putLocation 19 rfl) wf_RX0_57 lt21 sh23 (by decide) (congrArg Value.int (show FI50 r20 4 = x40 from (gf_as hS f52 lt21 sh23 (shd_d (dyn_tag hS sh23 (by decide +kernel)) sh23) (by decide +kernel) (h41)))) ?_
          refine xw_i2l (aX0_putLocation 20 rfl) ?_
          refine hw_tle (A := (x40).toInt) (i_2l rfl) (fun x61 e62 => ?_)
          refine hw_callV (Bs := [.long (x61)]) (rest := []) (aX0_putLocation 21 rfl) wc_RX0_66 (by decide) rfl wi_yX0_putLeb wv_yX0_putLeb (c119 hS) (s119 hS) rfl rfl rfl (Nat.le_of_ble_eq_true rfl) (Nat.le_of_ble_eq_true rfl) (k_X0_putLeb (d := d + 248) hS hF hI51 hR (x61) (by have := congrArg Int32.toInt (show FI50 119 1 = x58 from h59); omega)) (fun v63 sv64 p65 => ?_)
          have := congrArg Int32.toInt (show FI50 119 1 = x58 from h59)
          have := congrArg Int32.toInt (show FI50 119 1 = x58 from h59)
          obtain ⟨rfl, FI67, rfl, hI68, f69, t72, t73⟩ := p65
          obtain ⟨x76, h77⟩ : ∃ y, FI67 119 1 = y := ⟨_, rfl⟩
          have h77l := congrArg Int32.toInt h77
          have b78 := gI_119_1 hI68; rw [h77] at b78
          show hw sk base _ _ _ _ _ [] _ _
          refine hw_aloadn (aX0_putLocation 22 rfl) rfl ?_
          obtain ⟨o79, h80⟩ : ∃ y, FR r20 5 = y := ⟨_, rfl⟩
          have ht81 : ∀ r, o79 = some r → r < n ∧ own r ∧ SH r = (6, (SH r).2) := fun r e => gR_get hR lt21 ow22 sh23 (h80.trans e)
          refine hw_get (v := va_rf (h_rf base (o79))) (aX0_putLocation 23 rfl) wf_RX0_70 lt21 sh23 (by decide) (congrArg (fun r => va_rf (h_rf base r)) (show FR r20 5 = o79 from h80)) ?_
          refine xw_astoren (L2 := [(3, va_rf (h_rf base (o79))), (2, .int (x1)), (0, .ref (base + 119))]) (aX0_putLocation 24 rfl) (by decide) (by first | rfl | simp [x_s1, x_s2, va_cat, va_ci, va_cl, va_cr, va_cn] | (simp [x_s1, x_s2, va_cat, va_ci, va_cl, va_cr, va_cn]; decide)) ?_
          refine xw_goto (tgt := 7) (aX0_putLocation 25 rfl) (by decide) ?_
          exact hw_L (ih (o79) FI67 (ht81) (gf_tr ex_rf (gf_tr ex_rf (gf_tr ex_rf fr6 f30 rfl rfl rfl) f52 rfl rfl rfl) f69 rfl rfl rfl) hI68 (by have := congrArg Int32.toInt (show FI67 119 1 = x76 from h77); omega) (by have := congrArg Int32.toInt (show FI67 119 1 = x76 from h77); omega) (show ∀ m, (o79) = some m → (FI67 119 1).toInt ≤ (FI 119 1).toInt + (gs m : Nat) from (by have := congrArg Int32.toInt (show FI67 119 1 = x76 from h77); exact (fun m hm => by have q1 := gT_l gg0 lt21 sh23 (r := m) ((show FR r20 5 = o79 from h80).trans hm); omega))) (by rcases hq : (o79) with _ | q9; { simp only [g_ms] at hm ⊢; omega }; { have q8 := gT_l gg0 lt21 sh23 (r := q9) ((show FR r20 5 = o79 from h80).trans hq); simp only [g_ms] at hm ⊢; omega })) ⟨rfl, rfl, rfl, trivial⟩
  exact hw_L (lp10 ((((g_ms gs 200000000 (a1) : Nat) : Int) : Int).toNat + 1) (a1) FI (ha1t) gf_rf hI (by have := congrArg Int32.toInt (show FI 119 1 = x1 from h2); omega) (by have := congrArg Int32.toInt (show FI 119 1 = x1 from h2); omega) (show ∀ m, (a1) = some m → (FI 119 1).toInt ≤ (FI 119 1).toInt + (gs m : Nat) from (by have := congrArg Int32.toInt (show FI 119 1 = x1 from h2); exact (fun m hm => by omega))) (by omega)) ⟨rfl, rfl, rfl, trivial⟩
end
section
set_option maxHeartbeats 4000000 in
set_option maxRecDepth 100000 in
theorem k_becomeBlock_o {sk : xK} {base d n sl : Nat} {SH : Nat → Nat × Nat} {FI : Nat → Nat → Int32} {FL : Nat → Nat → Int64} {FR : Nat → Nat → Option Nat} (hS : h_S n SH) (hF : h_FR FR) (hI : g_I FI) (hR : g_R n SH FR) (c : Nat) {zc : Nat} (hc : c < n) (hsc : SH c = (5, zc)) (hoc : own c) (a1 : Option Nat) (ha1t : ∀ q, a1 = some q → q < n ∧ own q ∧ SH q = (100, (SH q).2)) (a2 : Int32) (a3 : Int32) : hw sk base (d + 1) none 60 0 [(0, .ref (base + c)), (1, va_rf (h_rf base (a1))), (2, .int (a2)), (3, .int (a3))] [] (n, sl, SH, FI, FL, FR) (h_V (fun s => ∃ FI' FL' FR', s = (n, sl, SH, FI', FL', FR') ∧ g_I FI' ∧ g_fr n (shd SH) [] [] [5] FI FI' ∧ g_fr n (shd SH) [] [] [5] FL FL' ∧ g_fr n (shd SH) [] [] [5] FR FR' ∧ h_FR FR' ∧ g_R n SH FR')) := by
  have rg_a2 := i_rng a2
  have rg_a3 := i_rng a3
  refine hw_aloadn (aX5_becomeBlock 0 rfl) rfl ?_
  refine hw_ic (v := (4 : Int32)) (aX5_becomeBlock 1 rfl) (by decide) ?_
  refine xw_iloadn (aX5_becomeBlock 2 rfl) rfl ?_
  refine xw_i2l (aX5_becomeBlock 3 rfl) ?_
  refine hw_tle (A := (a3).toInt) (i_2l rfl) (fun x1 e2 => ?_)
  refine hw_callV (Bs := [.int ((4 : Int32)), .long (x1)]) (rest := []) (aX5_becomeBlock 4 rfl) wc_RX5_25 (by decide) rfl wi_yX5_become wv_yX5_become hc hsc rfl rfl rfl (Nat.le_of_ble_eq_true rfl) (Nat.le_of_ble_eq_true rfl) (k_X5_become (d := d) hS hF hI hR (c) hc hsc hoc ((4 : Int32)) (x1) ) (fun v3 sv4 p5 => ?_)
  obtain ⟨rfl, FI7, FL8, rfl, hI9, f10, f11⟩ := p5
  show hw sk base _ _ _ _ _ [] _ _
  refine hw_aloadn (aX5_becomeBlock 5 rfl) rfl ?_
  refine xw_aloadn (aX5_becomeBlock 6 rfl) rfl ?_
  refine hv_putr (r := a1) (aX5_becomeBlock 7 rfl) wf_RX5_29 hc hsc (by decide) (by first | exact Or.inl ⟨_, rfl⟩ | exact Or.inr ⟨_, rfl⟩) (Or.inl rfl) (fun FR16 u17 => ?_)
  have hF18 : h_FR FR16 := hF_up hS hF u17 hsc (by decide +kernel)
  have hR19 : g_R n SH FR16 := gR_up hR u17 hsc (fun r e => by obtain ⟨a, b, c⟩ := ha1t r e; exact ⟨a, b, by rw [c]; rfl⟩) (fun h => absurd h (by have := (fix_t2 hS hR hc hsc (by unfold g_dt; omega) (by decide +kernel)); omega)) (fun h => absurd h (by unfold g_nn; have z : ∀ q, q = 0 ∨ q = 110 ∨ q = 111 ∨ q = 26 ∨ q = 43 → (SH q).1 ≠ 5 := (fun q hq => by rcases hq with rfl | rfl | rfl | rfl | rfl; { rw [s0 hS]; decide }; { rw [s110 hS]; decide }; { rw [s111 hS]; decide }; { rw [s26 hS]; decide }; { rw [s43 hS]; decide }); have z2 := z c; rw [hsc] at z2; omega)) (fun h => absurd h.1 (ne_tag hsc (s49 hS) (by decide)))
  refine hw_aloadn (aX5_becomeBlock 8 rfl) rfl ?_
  refine xw_iloadn (aX5_becomeBlock 9 rfl) rfl ?_
  refine hv_puti (aX5_becomeBlock 10 rfl) wf_RX5_33 hc hsc (by decide) rfl rfl (fun FI20 u21 => ?_)
  have hI22 : g_I FI20 := gU_g hI9 hS u21 hsc (by decide +kernel)
  refine xw_vret (aX5_becomeBlock 11 rfl) rfl ?_
  exact ⟨rfl, FI20, FL8, FR16, rfl, hI22, (gf_t (gf_tr ex_rf gf_rf f10 rfl rfl rfl) u21 (shd_f (fix_t2 hS hR19 hc hsc (by unfold g_dt; omega) (by decide +kernel)) hsc) (by decide)), (gf_tr ex_rf gf_rf f11 rfl rfl rfl), (gf_t gf_rf u17 (shd_f (fix_t2 hS hR hc hsc (by unfold g_dt; omega) (by decide +kernel)) hsc) (by decide)), hF18, hR19⟩
def nX2_unaryValue : Nat := 0xad20ad8700b6082a0800a7c400b60415201900b42a100099c000b60415201900b42a0436887700b42bad8700b60b102a0900a76120bd00b41900b42a0f0099ba00b41900b42aad83b8001420ad75202f0000007e0000002c0000002d000000350000000e00000052000000060000000400000079000000000000ab7400b42b
theorem bX2_unaryValue : cX2_unaryValue.data.toList.map UInt8.toNat = x_un nX2_unaryValue 127 := by decide +kernel
def iX2_unaryValue : List (Nat × Jvm.ClassFile.Instr × Nat) := [(0, .aload_n 1, 1), (1, .getfield 116, 3), (48, .lload_n 2, 1), (49, .lneg, 1), (50, .lreturn, 1), (51, .lload_n 2, 1), (52, .ldc2_w 184, 3), (55, .lxor, 1), (56, .lreturn, 1), (57, .aload_n 0, 1), (58, .getfield 25, 3), (61, .getfield 186, 3), (64, .ifCond .eq 15, 3), (67, .aload_n 0, 1), (68, .getfield 25, 3), (71, .getfield 189, 3), (74, .lload_n 2, 1), (75, .ladd, 1), (76, .goto 9, 3), (79, .aload_n 0, 1), (80, .bipush 11, 2), (82, .invokevirtual 135, 3), (85, .lreturn, 1), (86, .aload_n 1, 1), (87, .getfield 119, 3), (90, .l2i, 1), (91, .istore 4, 2), (93, .aload_n 0, 1), (94, .getfield 25, 3), (97, .lload_n 2, 1), (98, .iload 4, 2), (100, .invokevirtual 192, 3), (103, .ifCond .eq 16, 3), (106, .aload_n 0, 1), (107, .getfield 25, 3), (110, .lload_n 2, 1), (111, .iload 4, 2), (113, .invokevirtual 196, 3), (116, .goto 8, 3), (119, .aload_n 0, 1), (120, .iconst 5, 1), (121, .invokevirtual 135, 3), (124, .lreturn, 1), (125, .lload_n 2, 1), (126, .lreturn, 1)]
theorem dX2_unaryValue : x_il nX2_unaryValue 127 iX2_unaryValue = true := by decide +kernel
theorem aX2_unaryValue (k : Nat) {pc : Nat} {i : Jvm.ClassFile.Instr} {len : Nat} (hk : iX2_unaryValue[k]? = some (pc, i, len)) : x_at xMM 33 pc i len yX2_unaryValue 5 (some .long) := ⟨cX2_unaryValue, rfl, x_il_ok bX2_unaryValue dX2_unaryValue k hk⟩
theorem aX2_unaryValue_4 : x_at xMM 33 4 (.lookupswitch 121 #[(6, 82), (14, 53), (45, 44), (126, 47)]) 44 yX2_unaryValue 5 (some .long) := ⟨cX2_unaryValue, rfl, by decide +kernel⟩
set_option maxHeartbeats 4000000 in
set_option maxRecDepth 100000 in
theorem k_X2_unaryValue {sk : xK} {base d n sl : Nat} {SH : Nat → Nat × Nat} {FI : Nat → Nat → Int32} {FL : Nat → Nat → Int64} {FR : Nat → Nat → Option Nat} (hS : h_S n SH) (hF : h_FR FR) (hI : g_I FI) (hR : g_R n SH FR) (a1 : Nat) {z1 : Nat} (ha1l : a1 < n) (ha1s : SH a1 = (3, z1)) (ha1o : own a1) (a2 : Int64) : hw sk base (d + 2) none 33 0 [(0, .ref (base + 90)), (1, .ref (base + a1)), (2, .long (a2))] [] (n, sl, SH, FI, FL, FR) (h_J (fun r s => ∃ FI', s = (n, sl, SH, FI', FL, FR) ∧ g_I FI' ∧ g_fr n (shd SH) [(90, 4)] [] [] FI FI')) := by
  have rg_a2 := l_rng a2
  refine hw_aloadn (aX2_unaryValue 0 rfl) rfl ?_
  obtain ⟨x1, h2⟩ : ∃ y, FI a1 0 = y := ⟨_, rfl⟩
  have h2l := congrArg Int32.toInt h2
  have := i_rng x1
  refine hw_get (v := .int (x1)) (aX2_unaryValue 1 rfl) wf_RX2_116 ha1l ha1s (by decide) (congrArg Value.int (show FI a1 0 = x1 from h2)) ?_
  have hsw : ((x1).toInt ≠ 6 ∧ (x1).toInt ≠ 14 ∧ (x1).toInt ≠ 45 ∧ (x1).toInt ≠ 126) ∨ ((x1).toInt = 6) ∨ ((x1).toInt = 14) ∨ ((x1).toInt = 45) ∨ ((x1).toInt = 126) := by omega
  rcases hsw with hsw | hsw | hsw | hsw | hsw
  · refine xw_lsw (tgt := 125) aX2_unaryValue_4 (by decide) (by show (4 : Int) + Jvm.Op.lookupswitch.offset [(6, 82), (14, 53), (45, 44), (126, 47)] (121) (x1).toInt = 125; simp only [Jvm.Op.lookupswitch.offset]; rw [if_neg (by omega), if_neg (by omega), if_neg (by omega), if_neg (by omega)]; rfl) ?_
    clear hsw
    refine xw_lloadn (aX2_unaryValue 43 rfl) rfl ?_
    refine xw_lret (aX2_unaryValue 44 rfl) rfl ?_
    exact ⟨a2, rfl, FI, rfl, hI, gf_rf⟩
  · refine xw_lsw (tgt := 86) aX2_unaryValue_4 (by decide) (by rw [hsw]; decide) ?_
    refine hw_aloadn (aX2_unaryValue 23 rfl) rfl ?_
    obtain ⟨x3, h4⟩ : ∃ y, FL a1 1 = y := ⟨_, rfl⟩
    have h4l := congrArg Int64.toInt h4
    have := l_rng x3
    refine hw_get (v := .long (x3)) (aX2_unaryValue 24 rfl) wf_RX2_119 ha1l ha1s (by decide) (congrArg Value.long (show FL a1 1 = x3 from h4)) ?_
    refine xw_l2i (aX2_unaryValue 25 rfl) ?_
    refine hw_ti (fun x5 => ?_)
    have b6 := i_rng x5
    refine xw_istore (L2 := [(4, .int (x5)), (0, .ref (base + 90)), (1, .ref (base + a1)), (2, .long (a2))]) (aX2_unaryValue 26 rfl) (by decide) rfl ?_
    refine hw_aloadn (aX2_unaryValue 27 rfl) rfl ?_
    refine hw_get (v := .ref (base + 23)) (aX2_unaryValue 28 rfl) wf_RX2_25 (c90 hS) (s90 hS) (by decide) (congrArg (fun r => va_rf (h_rf base r)) (r90_0 hF)) ?_
    refine xw_lloadn (aX2_unaryValue 29 rfl) rfl ?_
    refine xw_iload (aX2_unaryValue 30 rfl) rfl ?_
    refine hw_callV (Bs := [.long (a2), .int (x5)]) (rest := []) (aX2_unaryValue 31 rfl) wc_RX2_192 (by decide) rfl wi_yX1_hasBytes wv_yX1_hasBytes (c23 hS) (s23 hS) rfl rfl rfl (Nat.le_of_ble_eq_true rfl) (Nat.le_of_ble_eq_true rfl) (k_hasBytes_any (d := d + 1) hS hF hI hR (a2) (x5) ) (fun v7 sv8 p9 => ?_)
    obtain ⟨r10, rfl, rfl, t14⟩ := p9
    show hw sk base _ _ _ _ _ [.int (r10)] _ _
    refine hw_ifeq (tgt := 119) (aX2_unaryValue 32 rfl) (by decide) rfl (fun cd17 => ?_) (fun cd17 => ?_)
    · refine hw_aloadn (aX2_unaryValue 39 rfl) rfl ?_
      refine hw_ic (v := (5 : Int32)) (aX2_unaryValue 40 rfl) (by decide) ?_
      refine hw_callV (Bs := [.int ((5 : Int32))]) (rest := []) (aX2_unaryValue 41 rfl) wc_RX2_135 (by decide) rfl wi_yX2_fail wv_yX2_fail (c90 hS) (s90 hS) rfl rfl rfl (Nat.le_of_ble_eq_true rfl) (Nat.le_of_ble_eq_true rfl) (k_X2_fail (d := d + 1) hS hF hI hR ((5 : Int32)) ) (fun v18 sv19 p20 => ?_)
      obtain ⟨r21, rfl, FI22, rfl, hI23, f24⟩ := p20
      have rg_r21 := l_rng r21
      show hw sk base _ _ _ _ _ [.long (r21)] _ _
      refine xw_lret (aX2_unaryValue 42 rfl) rfl ?_
      exact ⟨r21, rfl, FI22, rfl, hI23, (gf_tr ex_rf gf_rf f24 rfl rfl rfl)⟩
    · refine hw_aloadn (aX2_unaryValue 33 rfl) rfl ?_
      refine hw_get (v := .ref (base + 23)) (aX2_unaryValue 34 rfl) wf_RX2_25 (c90 hS) (s90 hS) (by decide) (congrArg (fun r => va_rf (h_rf base r)) (r90_0 hF)) ?_
      refine xw_lloadn (aX2_unaryValue 35 rfl) rfl ?_
      refine xw_iload (aX2_unaryValue 36 rfl) rfl ?_
      refine hw_callV (Bs := [.long (a2), .int (x5)]) (rest := []) (aX2_unaryValue 37 rfl) wc_RX2_196 (by decide) rfl wi_yX1_bytes wv_yX1_bytes (c23 hS) (s23 hS) rfl rfl rfl (Nat.le_of_ble_eq_true rfl) (Nat.le_of_ble_eq_true rfl) (k_bytes_any (d := d) hS hF hI hR (a2) (x5) ) (fun v29 sv30 p31 => ?_)
      obtain ⟨r32, rfl, rfl⟩ := p31
      have rg_r32 := l_rng r32
      show hw sk base _ _ _ _ _ [.long (r32)] _ _
      refine xw_goto (tgt := 124) (aX2_unaryValue 38 rfl) (by decide) ?_
      refine xw_lret (aX2_unaryValue 42 rfl) rfl ?_
      exact ⟨r32, rfl, FI, rfl, hI, gf_rf⟩
  · refine xw_lsw (tgt := 57) aX2_unaryValue_4 (by decide) (by rw [hsw]; decide) ?_
    refine hw_aloadn (aX2_unaryValue 9 rfl) rfl ?_
    refine hw_get (v := .ref (base + 23)) (aX2_unaryValue 10 rfl) wf_RX2_25 (c90 hS) (s90 hS) (by decide) (congrArg (fun r => va_rf (h_rf base r)) (r90_0 hF)) ?_
    obtain ⟨x38, h39⟩ : ∃ y, FI 23 9 = y := ⟨_, rfl⟩
    have h39l := congrArg Int32.toInt h39
    have b40 := gI_23_9 hI; rw [h39] at b40
    refine hw_get (v := .int (x38)) (aX2_unaryValue 11 rfl) wf_RX2_186 (c23 hS) (s23 hS) (by decide) (congrArg Value.int (show FI 23 9 = x38 from h39)) ?_
    refine hw_ifeq (tgt := 79) (aX2_unaryValue 12 rfl) (by decide) rfl (fun cd41 => ?_) (fun cd41 => ?_)
    · refine hw_aloadn (aX2_unaryValue 19 rfl) rfl ?_
      refine hw_bp (v := (11 : Int32)) (aX2_unaryValue 20 rfl) (by decide) ?_
      refine hw_callV (Bs := [.int ((11 : Int32))]) (rest := []) (aX2_unaryValue 21 rfl) wc_RX2_135 (by decide) rfl wi_yX2_fail wv_yX2_fail (c90 hS) (s90 hS) rfl rfl rfl (Nat.le_of_ble_eq_true rfl) (Nat.le_of_ble_eq_true rfl) (k_X2_fail (d := d + 1) hS hF hI hR ((11 : Int32)) ) (fun v42 sv43 p44 => ?_)
      obtain ⟨r45, rfl, FI46, rfl, hI47, f48⟩ := p44
      have rg_r45 := l_rng r45
      show hw sk base _ _ _ _ _ [.long (r45)] _ _
      refine xw_lret (aX2_unaryValue 22 rfl) rfl ?_
      exact ⟨r45, rfl, FI46, rfl, hI47, (gf_tr ex_rf gf_rf f48 rfl rfl rfl)⟩
    · refine hw_aloadn (aX2_unaryValue 13 rfl) rfl ?_
      refine hw_get (v := .ref (base + 23)) (aX2_unaryValue 14 rfl) wf_RX2_25 (c90 hS) (s90 hS) (by decide) (congrArg (fun r => va_rf (h_rf base r)) (r90_0 hF)) ?_
      obtain ⟨x53, h54⟩ : ∃ y, FL 23 10 = y := ⟨_, rfl⟩
      have h54l := congrArg Int64.toInt h54
      have := l_rng x53
      refine hw_get (v := .long (x53)) (aX2_unaryValue 15 rfl) wf_RX2_189 (c23 hS) (s23 hS) (by decide) (congrArg Value.long (show FL 23 10 = x53 from h54)) ?_
      refine xw_lloadn (aX2_unaryValue 16 rfl) rfl ?_
      refine xw_ladd (aX2_unaryValue 17 rfl) ?_
      refine hw_tl (fun x55 => ?_)
      have b56 := l_rng x55
      refine xw_goto (tgt := 85) (aX2_unaryValue 18 rfl) (by decide) ?_
      refine xw_lret (aX2_unaryValue 22 rfl) rfl ?_
      exact ⟨x55, rfl, FI, rfl, hI, gf_rf⟩
  · refine xw_lsw (tgt := 48) aX2_unaryValue_4 (by decide) (by rw [hsw]; decide) ?_
    refine xw_lloadn (aX2_unaryValue 2 rfl) rfl ?_
    refine xw_lneg (aX2_unaryValue 3 rfl) ?_
    refine hw_tl (fun x57 => ?_)
    have b58 := l_rng x57
    refine xw_lret (aX2_unaryValue 4 rfl) rfl ?_
    exact ⟨x57, rfl, FI, rfl, hI, gf_rf⟩
  · refine xw_lsw (tgt := 51) aX2_unaryValue_4 (by decide) (by rw [hsw]; decide) ?_
    refine xw_lloadn (aX2_unaryValue 5 rfl) rfl ?_
    refine xw_ldc2 (aX2_unaryValue 6 rfl) wk_RX2_184 ?_
    refine xw_lxor (aX2_unaryValue 7 rfl) ?_
    refine hw_tl (fun x59 => ?_)
    have b60 := l_rng x59
    refine xw_lret (aX2_unaryValue 8 rfl) rfl ?_
    exact ⟨x59, rfl, FI, rfl, hI, gf_rf⟩
def nX2_chainValue : Nat := 0xad21b1ffa7053aa900b4051942b400b806162108150b00a78700b606102a0c009a940906161300a01d1008150a009f1b1008150836ae00b8ab00b4051906376800b660041c05192a49009a2100b42a5000c60519053aa900b49900b42b426800b660041c9900b42b2aad090500c79900b42b
theorem bX2_chainValue : cX2_chainValue.data.toList.map UInt8.toNat = x_un nX2_chainValue 114 := by decide +kernel
def iX2_chainValue : List (Nat × Jvm.ClassFile.Instr × Nat) := [(0, .aload_n 1, 1), (1, .getfield 153, 3), (4, .ifnonnull 5, 3), (7, .lconst 0, 1), (8, .lreturn, 1), (9, .aload_n 0, 1), (10, .aload_n 1, 1), (11, .getfield 153, 3), (14, .iload_n 2, 1), (15, .iconst 1, 1), (16, .iadd, 1), (17, .invokevirtual 104, 3), (20, .lstore_n 3, 1), (21, .aload_n 1, 1), (22, .getfield 153, 3), (25, .getfield 169, 3), (28, .astore 5, 2), (30, .aload 5, 2), (32, .ifnull 80, 3), (35, .aload_n 0, 1), (36, .getfield 33, 3), (39, .ifCond .ne 73, 3), (42, .aload_n 0, 1), (43, .aload 5, 2), (45, .iload_n 2, 1), (46, .iconst 1, 1), (47, .iadd, 1), (48, .invokevirtual 104, 3), (51, .lstore 6, 2), (53, .aload 5, 2), (55, .getfield 171, 3), (58, .invokestatic 174, 3), (61, .istore 8, 2), (63, .iload 8, 2), (65, .bipush 27, 2), (67, .if_icmp .eq 10, 3), (70, .iload 8, 2), (72, .bipush 29, 2), (74, .if_icmp .ne 19, 3), (77, .lload 6, 2), (79, .lconst 0, 1), (80, .lcmp, 1), (81, .ifCond .ne 12, 3), (84, .aload_n 0, 1), (85, .bipush 6, 2), (87, .invokevirtual 135, 3), (90, .goto 11, 3), (93, .iload 8, 2), (95, .lload_n 3, 1), (96, .lload 6, 2), (98, .invokestatic 180, 3), (101, .lstore_n 3, 1), (102, .aload 5, 2), (104, .getfield 169, 3), (107, .astore 5, 2), (109, .goto (-79), 3), (112, .lload_n 3, 1), (113, .lreturn, 1)]
theorem dX2_chainValue : x_il nX2_chainValue 114 iX2_chainValue = true := by decide +kernel
theorem aX2_chainValue (k : Nat) {pc : Nat} {i : Jvm.ClassFile.Instr} {len : Nat} (hk : iX2_chainValue[k]? = some (pc, i, len)) : x_at xMM 32 pc i len yX2_chainValue 9 (some .long) := ⟨cX2_chainValue, rfl, x_il_ok bX2_chainValue dX2_chainValue k hk⟩
set_option maxHeartbeats 4000000 in
set_option maxRecDepth 100000 in
theorem k_X2_chainValue {sk : xK} {base d n sl : Nat} {SH : Nat → Nat × Nat} {FI : Nat → Nat → Int32} {FL : Nat → Nat → Int64} {FR : Nat → Nat → Option Nat} {E e : Nat} (ihV : ∀ (base d n sl : Nat) (SH : Nat → Nat × Nat) (FI : Nat → Nat → Int32) (FL : Nat → Nat → Int64) (FR : Nat → Nat → Option Nat) (hS : h_S n SH) (hF : h_FR FR) (hI : g_I FI) (hR : g_R n SH FR) (a1 : Option Nat) (ha1t : ∀ q, a1 = some q → q < n ∧ own q ∧ SH q = (3, (SH q).2)) (a2 : Int32) (gp : Nat → Nat) (gw : Nat → Nat) (gs : Nat → Nat) (g0 : 121 - (a2).toInt < (e : Int)) (g1 : 0 ≤ (a2).toInt ∧ (a2).toInt ≤ 121) (gg0 : g_T n SH FI FR gp gw gs) , hw sk base (E + d + 56) none 30 0 [(0, .ref (base + 90)), (1, va_rf (h_rf base (a1))), (2, .int (a2))] [] (n, sl, SH, FI, FL, FR) (h_J (fun r s => ∃ FI' FL' FR', s = (n, sl, SH, FI', FL', FR') ∧ g_I FI' ∧ g_fr n (shd SH) [(48, 5), (48, 6), (48, 7), (48, 8), (48, 9), (48, 10), (48, 11), (49, 5), (49, 6), (49, 7), (49, 8), (49, 9), (49, 10), (49, 11), (90, 4)] [] [5, 8, 9] FI FI' ∧ g_fr n (shd SH) [(48, 12), (48, 13), (48, 14), (48, 15), (49, 12), (49, 13), (49, 14), (49, 15)] [] [5, 9, 101] FL FL' ∧ g_fr n (shd SH) [] [] [5] FR FR' ∧ h_FR FR' ∧ g_R n SH FR'))) (hS : h_S n SH) (hF : h_FR FR) (hI : g_I FI) (hR : g_R n SH FR) (a1 : Nat) {z1 : Nat} (ha1l : a1 < n) (ha1s : SH a1 = (3, z1)) (ha1o : own a1) (a2 : Int32) (gp : Nat → Nat) (gw : Nat → Nat) (gs : Nat → Nat) (g0 : 121 - (a2).toInt < (e : Int) + 1) (g1 : 0 ≤ (a2).toInt ∧ (a2).toInt ≤ 120) (gg0 : g_T n SH FI FR gp gw gs) (gg1 : (FI a1 0).toInt = 25) : hw sk base (E + d + 57) none 32 0 [(0, .ref (base + 90)), (1, .ref (base + a1)), (2, .int (a2))] [] (n, sl, SH, FI, FL, FR) (h_J (fun r s => ∃ FI' FL' FR', s = (n, sl, SH, FI', FL', FR') ∧ g_I FI' ∧ g_fr n (shd SH) [(48, 5), (48, 6), (48, 7), (48, 8), (48, 9), (48, 10), (48, 11), (49, 5), (49, 6), (49, 7), (49, 8), (49, 9), (49, 10), (49, 11), (90, 4)] [] [5, 8, 9] FI FI' ∧ g_fr n (shd SH) [(48, 12), (48, 13), (48, 14), (48, 15), (49, 12), (49, 13), (49, 14), (49, 15)] [] [5, 9, 101] FL FL' ∧ g_fr n (shd SH) [] [] [5] FR FR' ∧ h_FR FR' ∧ g_R n SH FR')) := by
  have rg_a2 := i_rng a2
  obtain ⟨x1, h2⟩ : ∃ y, FI a1 0 = y := ⟨_, rfl⟩
  have h2l := congrArg Int32.toInt h2
  have := i_rng x1
  refine hw_aloadn (aX2_chainValue 0 rfl) rfl ?_
  obtain ⟨o3, h4⟩ : ∃ y, FR a1 3 = y := ⟨_, rfl⟩
  have ht5 : ∀ r, o3 = some r → r < n ∧ own r ∧ SH r = (3, (SH r).2) := fun r e => gR_get hR ha1l ha1o ha1s (h4.trans e)
  refine hw_get (v := va_rf (h_rf base (o3))) (aX2_chainValue 1 rfl) wf_RX2_153 ha1l ha1s (by decide) (congrArg (fun r => va_rf (h_rf base r)) (show FR a1 3 = o3 from h4)) ?_
  refine xw_ifnonnull (v := h_rf base o3) (tgt := 9) (aX2_chainValue 2 rfl) (by decide) (fun hn6 => ?_) (fun hn6 => ?_)
  · obtain ⟨r7, rfl⟩ := h_rf_s hn6
    obtain ⟨lt8, ow9, sh10⟩ := ht5 r7 rfl
    show hw sk base _ _ _ _ [(0, .ref (base + 90)), (1, .ref (base + a1)), (2, .int (a2))] [] _ _
    have hp1 : gp r7 = a1 := gT_f gg0 ha1l ha1s rfl gg1 (show FR a1 3 = some r7 from h4)
    refine hw_aloadn (aX2_chainValue 5 rfl) rfl ?_
    refine hw_aloadn (aX2_chainValue 6 rfl) rfl ?_
    refine hw_get (v := .ref (base + r7)) (aX2_chainValue 7 rfl) wf_RX2_153 ha1l ha1s (by decide) (congrArg (fun r => va_rf (h_rf base r)) (show FR a1 3 = some r7 from h4)) ?_
    refine xw_iloadn (aX2_chainValue 8 rfl) rfl ?_
    refine hw_ic (v := (1 : Int32)) (aX2_chainValue 9 rfl) (by decide) ?_
    refine xw_iadd (aX2_chainValue 10 rfl) ?_
    refine hw_tie (A := ((a2).toInt) + (1)) (i_add rfl (by decide : (1 : Int32).toInt = 1) (by omega) (by omega)) (fun x11 e12 => ?_)
    refine hw_callV (Bs := [.ref (base + r7), .int (x11)]) (rest := []) (aX2_chainValue 11 rfl) wc_RX2_104 (by decide) rfl wi_yX2_value wv_yX2_value (c90 hS) (s90 hS) rfl rfl rfl (Nat.le_of_ble_eq_true rfl) (Nat.le_of_ble_eq_true rfl) (ihV _ (d) _ _ _ _ _ _ hS hF hI hR (some (r7)) (fun r e => by cases e; exact ⟨lt8, ow9, by rw [sh10]⟩) (x11) (gp) (gw) (gs) (by have := (e12 : (x11).toInt = ((a2).toInt) + (1)); omega) (by have := (e12 : (x11).toInt = ((a2).toInt) + (1)); have := (e12 : (x11).toInt = ((a2).toInt) + (1)); omega) ((gT_mw (L := [(48, 5), (48, 6), (48, 7), (48, 8), (48, 9), (48, 10), (48, 11), (49, 5), (49, 6), (49, 7), (49, 8), (49, 9), (49, 10), (49, 11), (90, 4)]) (A := []) (T := [5, 8, 9]) (L2 := []) (A2 := []) (T2 := [5]) hS gg0 gf_rf gf_rf (by decide) (by decide)))) (fun v13 sv14 p15 => ?_)
    obtain ⟨r16, rfl, FI17, FL18, FR19, rfl, hI20, f21, f22, f23, hF24, hR25⟩ := p15
    have rg_r16 := l_rng r16
    show hw sk base _ _ _ _ _ [.long (r16)] _ _
    refine xw_lstoren (L2 := [(3, .long (r16)), (0, .ref (base + 90)), (1, .ref (base + a1)), (2, .int (a2))]) (aX2_chainValue 12 rfl) (by decide) rfl ?_
    refine hw_aloadn (aX2_chainValue 13 rfl) rfl ?_
    refine hw_get (v := .ref (base + r7)) (aX2_chainValue 14 rfl) wf_RX2_153 ha1l ha1s (by decide) (congrArg (fun r => va_rf (h_rf base r)) (show FR19 a1 3 = some r7 from (gf_at f23 ha1l (shd_d (dyn_tag hS ha1s (by decide +kernel)) ha1s) rfl (h4)))) ?_
    obtain ⟨o28, h29⟩ : ∃ y, FR19 r7 6 = y := ⟨_, rfl⟩
    have ht30 : ∀ r, o28 = some r → r < n ∧ own r ∧ SH r = (3, (SH r).2) := fun r e => gR_get hR25 lt8 ow9 sh10 (h29.trans e)
    refine hw_get (v := va_rf (h_rf base (o28))) (aX2_chainValue 15 rfl) wf_RX2_169 lt8 sh10 (by decide) (congrArg (fun r => va_rf (h_rf base r)) (show FR19 r7 6 = o28 from h29)) ?_
    refine xw_astore (L2 := [(5, va_rf (h_rf base (o28))), (3, .long (r16)), (0, .ref (base + 90)), (1, .ref (base + a1)), (2, .int (a2))]) (aX2_chainValue 16 rfl) (by decide) (by first | rfl | simp [x_s1, x_s2, va_cat, va_ci, va_cl, va_cr, va_cn] | (simp [x_s1, x_s2, va_cat, va_ci, va_cl, va_cr, va_cn]; decide)) ?_
    have lp44 : ∀ (m : Nat) (y5 : Option Nat) (y3 : Int64) (FIv32 : Nat → Nat → Int32) (FLv33 : Nat → Nat → Int64) (FRv34 : Nat → Nat → Option Nat), (∀ q, y5 = some q → q < n ∧ own q ∧ SH q = (3, (SH q).2)) → (g_fr n (shd SH) [(48, 5), (48, 6), (48, 7), (48, 8), (48, 9), (48, 10), (48, 11), (49, 5), (49, 6), (49, 7), (49, 8), (49, 9), (49, 10), (49, 11), (90, 4)] [] [5, 8, 9] FI FIv32) → (g_fr n (shd SH) [(48, 12), (48, 13), (48, 14), (48, 15), (49, 12), (49, 13), (49, 14), (49, 15)] [] [5, 9, 101] FL FLv33) → (g_fr n (shd SH) [] [] [5] FR FRv34) → (g_I FIv32) → (h_FR FRv34) → (g_R n SH FRv34) → (FIv32 a1 0 = x1) → (FRv34 a1 3 = r7) → (FRv34 r7 6 = o28) → (∀ m, (y5) = some m → gp m = a1) → ((g_ms gs (gw a1) (y5) : Nat) : Int) < m → hw sk base (E + d + 57) none 32 30 [(5, va_rf (h_rf base (y5))), (3, .long (y3)), (0, .ref (base + 90)), (2, .int (a2))] [] (n, sl, SH, FIv32, FLv33, FRv34) (h_J (fun r s => ∃ FI' FL' FR', s = (n, sl, SH, FI', FL', FR') ∧ g_I FI' ∧ g_fr n (shd SH) [(48, 5), (48, 6), (48, 7), (48, 8), (48, 9), (48, 10), (48, 11), (49, 5), (49, 6), (49, 7), (49, 8), (49, 9), (49, 10), (49, 11), (90, 4)] [] [5, 8, 9] FI FI' ∧ g_fr n (shd SH) [(48, 12), (48, 13), (48, 14), (48, 15), (49, 12), (49, 13), (49, 14), (49, 15)] [] [5, 9, 101] FL FL' ∧ g_fr n (shd SH) [] [] [5] FR FR' ∧ h_FR FR' ∧ g_R n SH FR')) := by
      intro m
      induction m with
      | zero => intro y5 y3 FIv32 FLv33 FRv34 ty31 fr35 fr36 fr37 hI38 hF39 hR40 kp41 kp42 kp43 xi30_0 hm; omega
      | succ m ih =>
        intro y5 y3 FIv32 FLv33 FRv34 ty31 fr35 fr36 fr37 hI38 hF39 hR40 kp41 kp42 kp43 xi30_0 hm
        have rg_y3 := l_rng y3
        have := congrArg Int32.toInt kp41
        refine xw_aload (aX2_chainValue 17 rfl) rfl ?_
        refine xw_ifnull (v := h_rf base y5) (tgt := 112) (aX2_chainValue 18 rfl) (by decide) (fun hn45 => ?_) (fun hn45 => ?_)
        · obtain rfl := h_rf_n hn45
          show hw sk base _ _ _ _ [(5, .null), (3, .long (y3)), (0, .ref (base + 90)), (2, .int (a2))] [] _ _
          refine xw_lloadn (aX2_chainValue 56 rfl) rfl ?_
          refine xw_lret (aX2_chainValue 57 rfl) rfl ?_
          exact ⟨y3, rfl, FIv32, FLv33, FRv34, rfl, hI38, fr35, fr36, fr37, hF39, hR40⟩
        · obtain ⟨r46, rfl⟩ := h_rf_s hn45
          obtain ⟨lt47, ow48, sh49⟩ := ty31 r46 rfl
          show hw sk base _ _ _ _ [(5, .ref (base + r46)), (3, .long (y3)), (0, .ref (base + 90)), (2, .int (a2))] [] _ _
          have hp3 := xi30_0 r46 rfl
          have hd3 := gT_d (gT_mw (L := [(48, 5), (48, 6), (48, 7), (48, 8), (48, 9), (48, 10), (48, 11), (49, 5), (49, 6), (49, 7), (49, 8), (49, 9), (49, 10), (49, 11), (90, 4)]) (A := []) (T := [5, 8, 9]) (L2 := []) (A2 := []) (T2 := [5]) hS gg0 fr35 fr37 (by decide) (by decide)) lt47 sh49 hp3 ha1s rfl (show (FIv32 a1 0).toInt = 25 from (by rw [show FIv32 a1 0 = _ from kp41]; omega))
          clear xi30_0
          refine hw_aloadn (aX2_chainValue 19 rfl) rfl ?_
          obtain ⟨x50, h51⟩ : ∃ y, FIv32 90 4 = y := ⟨_, rfl⟩
          have h51l := congrArg Int32.toInt h51
          have := i_rng x50
          refine hw_get (v := .int (x50)) (aX2_chainValue 20 rfl) wf_RX2_33 (c90 hS) (s90 hS) (by decide) (congrArg Value.int (show FIv32 90 4 = x50 from h51)) ?_
          refine hw_ifne (tgt := 112) (aX2_chainValue 21 rfl) (by decide) rfl (fun cd52 => ?_) (fun cd52 => ?_)
          · refine xw_lloadn (aX2_chainValue 56 rfl) rfl ?_
            refine xw_lret (aX2_chainValue 57 rfl) rfl ?_
            exact ⟨y3, rfl, FIv32, FLv33, FRv34, rfl, hI38, fr35, fr36, fr37, hF39, hR40⟩
          · refine hw_aloadn (aX2_chainValue 22 rfl) rfl ?_
            refine hw_aload (aX2_chainValue 23 rfl) rfl ?_
            refine xw_iloadn (aX2_chainValue 24 rfl) rfl ?_
            refine hw_ic (v := (1 : Int32)) (aX2_chainValue 25 rfl) (by decide) ?_
            refine xw_iadd (aX2_chainValue 26 rfl) ?_
            refine hw_tie (A := ((a2).toInt) + (1)) (i_add rfl (by decide : (1 : Int32).toInt = 1) (by omega) (by omega)) (fun x53 e54 => ?_)
            refine hw_callV (Bs := [.ref (base + r46), .int (x53)]) (rest := []) (aX2_chainValue 27 rfl) wc_RX2_104 (by decide) rfl wi_yX2_value wv_yX2_value (c90 hS) (s90 hS) rfl rfl rfl (Nat.le_of_ble_eq_true rfl) (Nat.le_of_ble_eq_true rfl) (ihV _ (d) _ _ _ _ _ _ hS hF39 hI38 hR40 (some (r46)) (fun r e => by cases e; exact ⟨lt47, ow48, by rw [sh49]⟩) (x53) (gp) (gw) (gs) (by have := (e54 : (x53).toInt = ((a2).toInt) + (1)); omega) (by have := (e54 : (x53).toInt = ((a2).toInt) + (1)); have := (e54 : (x53).toInt = ((a2).toInt) + (1)); omega) ((gT_mw (L := [(48, 5), (48, 6), (48, 7), (48, 8), (48, 9), (48, 10), (48, 11), (49, 5), (49, 6), (49, 7), (49, 8), (49, 9), (49, 10), (49, 11), (90, 4)]) (A := []) (T := [5, 8, 9]) (L2 := []) (A2 := []) (T2 := [5]) hS gg0 fr35 fr37 (by decide) (by decide)))) (fun v55 sv56 p57 => ?_)
            obtain ⟨r58, rfl, FI59, FL60, FR61, rfl, hI62, f63, f64, f65, hF66, hR67⟩ := p57
            have rg_r58 := l_rng r58
            show hw sk base _ _ _ _ _ [.long (r58)] _ _
            refine xw_lstore (L2 := [(6, .long (r58)), (5, .ref (base + r46)), (3, .long (y3)), (0, .ref (base + 90)), (2, .int (a2))]) (aX2_chainValue 28 rfl) (by decide) rfl ?_
            refine hw_aload (aX2_chainValue 29 rfl) rfl ?_
            obtain ⟨x70, h71⟩ : ∃ y, FI59 r46 2 = y := ⟨_, rfl⟩
            have h71l := congrArg Int32.toInt h71
            have := i_rng x70
            refine hw_get (v := .int (x70)) (aX2_chainValue 30 rfl) wf_RX2_171 lt47 sh49 (by decide) (congrArg Value.int (show FI59 r46 2 = x70 from h71)) ?_
            refine hw_callS (As := [.int (x70)]) (rest := []) (aX2_chainValue 31 rfl) wc_RX2_174 (by decide) rfl wt_yX4_operationOf rfl rfl (Nat.le_of_ble_eq_true rfl) (Nat.le_of_ble_eq_true rfl) (k_X4_operationOf (d := E + d + 56) hS hF66 hI62 hR67 (x70) ) (fun v72 sv73 p74 => ?_)
            obtain ⟨r75, rfl, rfl⟩ := p74
            have rg_r75 := i_rng r75
            show hw sk base _ _ _ _ _ [.int (r75)] _ _
            refine xw_istore (L2 := [(8, .int (r75)), (6, .long (r58)), (5, .ref (base + r46)), (3, .long (y3)), (0, .ref (base + 90)), (2, .int (a2))]) (aX2_chainValue 32 rfl) (by decide) rfl ?_
            refine xw_iload (aX2_chainValue 33 rfl) rfl ?_
            refine hw_bp (v := (27 : Int32)) (aX2_chainValue 34 rfl) (by decide) ?_
            refine hw_iceq (tgt := 77) (aX2_chainValue 35 rfl) (by decide) rfl (by decide : (27 : Int32).toInt = 27) (fun cd81 => ?_) (fun cd81 => ?_)
            · refine xw_lload (aX2_chainValue 39 rfl) rfl ?_
              refine hw_lc (v := (0 : Int64)) (aX2_chainValue 40 rfl) (by decide) ?_
              refine hw_lcne (tgt := 93) (aX2_chainValue 41 rfl) (aX2_chainValue 42 rfl) (by decide) rfl (by decide : (0 : Int64).toInt = 0) (fun cd82 => ?_) (fun cd82 => ?_)
              · refine xw_iload (aX2_chainValue 47 rfl) rfl ?_
                refine xw_lloadn (aX2_chainValue 48 rfl) rfl ?_
                refine xw_lload (aX2_chainValue 49 rfl) rfl ?_
                refine hw_callS (As := [.int (r75), .long (y3), .long (r58)]) (rest := []) (aX2_chainValue 50 rfl) wc_RX2_180 (by decide) rfl wt_yX9_joined rfl rfl (Nat.le_of_ble_eq_true rfl) (Nat.le_of_ble_eq_true rfl) (k_X9_joined (d := E + d + 54) hS hF66 hI62 hR67 (r75) (y3) (r58) ) (fun v83 sv84 p85 => ?_)
                obtain ⟨r86, rfl, rfl⟩ := p85
                have rg_r86 := l_rng r86
                show hw sk base _ _ _ _ _ [.long (r86)] _ _
                refine xw_lstoren (L2 := [(3, .long (r86)), (8, .int (r75)), (6, .long (r58)), (5, .ref (base + r46)), (0, .ref (base + 90)), (2, .int (a2))]) (aX2_chainValue 51 rfl) (by decide) rfl ?_
                refine hw_aload (aX2_chainValue 52 rfl) rfl ?_
                obtain ⟨o92, h93⟩ : ∃ y, FR61 r46 6 = y := ⟨_, rfl⟩
                have ht94 : ∀ r, o92 = some r → r < n ∧ own r ∧ SH r = (3, (SH r).2) := fun r e => gR_get hR67 lt47 ow48 sh49 (h93.trans e)
                refine hw_get (v := va_rf (h_rf base (o92))) (aX2_chainValue 53 rfl) wf_RX2_169 lt47 sh49 (by decide) (congrArg (fun r => va_rf (h_rf base r)) (show FR61 r46 6 = o92 from h93)) ?_
                refine xw_astore (L2 := [(5, va_rf (h_rf base (o92))), (3, .long (r86)), (8, .int (r75)), (6, .long (r58)), (0, .ref (base + 90)), (2, .int (a2))]) (aX2_chainValue 54 rfl) (by decide) (by first | rfl | simp [x_s1, x_s2, va_cat, va_ci, va_cl, va_cr, va_cn] | (simp [x_s1, x_s2, va_cat, va_ci, va_cl, va_cr, va_cn]; decide)) ?_
                refine xw_goto (tgt := 30) (aX2_chainValue 55 rfl) (by decide) ?_
                exact hw_L (ih (o92) (r86) FI59 FL60 FR61 (ht94) (gf_tr ex_rf fr35 f63 rfl rfl rfl) (gf_tr ex_rf fr36 f64 rfl rfl rfl) (gf_tr ex_rf fr37 f65 rfl rfl rfl) hI62 hF66 hR67 (show FI59 a1 0 = x1 from (gf_as hS f63 ha1l ha1s (shd_d (dyn_tag hS ha1s (by decide +kernel)) ha1s) (by decide +kernel) (kp41))) (show FR61 a1 3 = r7 from (gf_at f65 ha1l (shd_d (dyn_tag hS ha1s (by decide +kernel)) ha1s) rfl (kp42))) (show FR61 r7 6 = o28 from (gf_at f65 lt8 (shd_d (dyn_tag hS sh10 (by decide +kernel)) sh10) rfl (kp43))) (show ∀ m, (o92) = some m → gp m = a1 from (by exact (fun m hm => (gT_n (gT_mw (L := [(48, 5), (48, 6), (48, 7), (48, 8), (48, 9), (48, 10), (48, 11), (49, 5), (49, 6), (49, 7), (49, 8), (49, 9), (49, 10), (49, 11), (90, 4)]) (A := []) (T := [5, 8, 9]) (L2 := []) (A2 := []) (T2 := [5]) hS gg0 (gf_tr ex_rf fr35 f63 rfl rfl rfl) (gf_tr ex_rf fr37 f65 rfl rfl rfl) (by decide) (by decide)) lt47 sh49 hp3 (r := m) ((show FR61 r46 6 = o92 from h93).trans hm)).1))) (by rcases hq : (o92) with _ | q9; { simp only [g_ms] at hm ⊢; omega }; { have q8 := gT_n (gT_mw (L := [(48, 5), (48, 6), (48, 7), (48, 8), (48, 9), (48, 10), (48, 11), (49, 5), (49, 6), (49, 7), (49, 8), (49, 9), (49, 10), (49, 11), (90, 4)]) (A := []) (T := [5, 8, 9]) (L2 := []) (A2 := []) (T2 := [5]) hS gg0 (gf_tr ex_rf fr35 f63 rfl rfl rfl) (gf_tr ex_rf fr37 f65 rfl rfl rfl) (by decide) (by decide)) lt47 sh49 hp3 (r := q9) ((show FR61 r46 6 = o92 from h93).trans hq); simp only [g_ms] at hm ⊢; omega })) ⟨rfl, rfl, rfl, rfl, trivial⟩
              · refine hw_aloadn (aX2_chainValue 43 rfl) rfl ?_
                refine hw_bp (v := (6 : Int32)) (aX2_chainValue 44 rfl) (by decide) ?_
                refine hw_callV (Bs := [.int ((6 : Int32))]) (rest := []) (aX2_chainValue 45 rfl) wc_RX2_135 (by decide) rfl wi_yX2_fail wv_yX2_fail (c90 hS) (s90 hS) rfl rfl rfl (Nat.le_of_ble_eq_true rfl) (Nat.le_of_ble_eq_true rfl) (k_X2_fail (d := E + d + 56) hS hF66 hI62 hR67 ((6 : Int32)) ) (fun v95 sv96 p97 => ?_)
                obtain ⟨r98, rfl, FI99, rfl, hI100, f101⟩ := p97
                have rg_r98 := l_rng r98
                show hw sk base _ _ _ _ _ [.long (r98)] _ _
                refine xw_goto (tgt := 101) (aX2_chainValue 46 rfl) (by decide) ?_
                refine xw_lstoren (L2 := [(3, .long (r98)), (8, .int (r75)), (6, .long (r58)), (5, .ref (base + r46)), (0, .ref (base + 90)), (2, .int (a2))]) (aX2_chainValue 51 rfl) (by decide) rfl ?_
                refine hw_aload (aX2_chainValue 52 rfl) rfl ?_
                obtain ⟨o106, h107⟩ : ∃ y, FR61 r46 6 = y := ⟨_, rfl⟩
                have ht108 : ∀ r, o106 = some r → r < n ∧ own r ∧ SH r = (3, (SH r).2) := fun r e => gR_get hR67 lt47 ow48 sh49 (h107.trans e)
                refine hw_get (v := va_rf (h_rf base (o106))) (aX2_chainValue 53 rfl) wf_RX2_169 lt47 sh49 (by decide) (congrArg (fun r => va_rf (h_rf base r)) (show FR61 r46 6 = o106 from h107)) ?_
                refine xw_astore (L2 := [(5, va_rf (h_rf base (o106))), (3, .long (r98)), (8, .int (r75)), (6, .long (r58)), (0, .ref (base + 90)), (2, .int (a2))]) (aX2_chainValue 54 rfl) (by decide) (by first | rfl | simp [x_s1, x_s2, va_cat, va_ci, va_cl, va_cr, va_cn] | (simp [x_s1, x_s2, va_cat, va_ci, va_cl, va_cr, va_cn]; decide)) ?_
                refine xw_goto (tgt := 30) (aX2_chainValue 55 rfl) (by decide) ?_
                exact hw_L (ih (o106) (r98) FI99 FL60 FR61 (ht108) (gf_tr ex_rf (gf_tr ex_rf fr35 f63 rfl rfl rfl) f101 rfl rfl rfl) (gf_tr ex_rf fr36 f64 rfl rfl rfl) (gf_tr ex_rf fr37 f65 rfl rfl rfl) hI100 hF66 hR67 (show FI99 a1 0 = x1 from (gf_as hS f101 ha1l ha1s (shd_d (dyn_tag hS ha1s (by decide +kernel)) ha1s) (by decide +kernel) ((gf_as hS f63 ha1l ha1s (shd_d (dyn_tag hS ha1s (by decide +kernel)) ha1s) (by decide +kernel) (kp41))))) (show FR61 a1 3 = r7 from (gf_at f65 ha1l (shd_d (dyn_tag hS ha1s (by decide +kernel)) ha1s) rfl (kp42))) (show FR61 r7 6 = o28 from (gf_at f65 lt8 (shd_d (dyn_tag hS sh10 (by decide +kernel)) sh10) rfl (kp43))) (show ∀ m, (o106) = some m → gp m = a1 from (by exact (fun m hm => (gT_n (gT_mw (L := [(48, 5), (48, 6), (48, 7), (48, 8), (48, 9), (48, 10), (48, 11), (49, 5), (49, 6), (49, 7), (49, 8), (49, 9), (49, 10), (49, 11), (90, 4)]) (A := []) (T := [5, 8, 9]) (L2 := []) (A2 := []) (T2 := [5]) hS gg0 (gf_tr ex_rf (gf_tr ex_rf fr35 f63 rfl rfl rfl) f101 rfl rfl rfl) (gf_tr ex_rf fr37 f65 rfl rfl rfl) (by decide) (by decide)) lt47 sh49 hp3 (r := m) ((show FR61 r46 6 = o106 from h107).trans hm)).1))) (by rcases hq : (o106) with _ | q9; { simp only [g_ms] at hm ⊢; omega }; { have q8 := gT_n (gT_mw (L := [(48, 5), (48, 6), (48, 7), (48, 8), (48, 9), (48, 10), (48, 11), (49, 5), (49, 6), (49, 7), (49, 8), (49, 9), (49, 10), (49, 11), (90, 4)]) (A := []) (T := [5, 8, 9]) (L2 := []) (A2 := []) (T2 := [5]) hS gg0 (gf_tr ex_rf (gf_tr ex_rf fr35 f63 rfl rfl rfl) f101 rfl rfl rfl) (gf_tr ex_rf fr37 f65 rfl rfl rfl) (by decide) (by decide)) lt47 sh49 hp3 (r := q9) ((show FR61 r46 6 = o106 from h107).trans hq); simp only [g_ms] at hm ⊢; omega })) ⟨rfl, rfl, rfl, rfl, trivial⟩
            · refine xw_iload (aX2_chainValue 36 rfl) rfl ?_
              refine hw_bp (v := (29 : Int32)) (aX2_chainValue 37 rfl) (by decide) ?_
              refine hw_icne (tgt := 93) (aX2_chainValue 38 rfl) (by decide) rfl (by decide : (29 : Int32).toInt = 29) (fun cd109 => ?_) (fun cd109 => ?_)
              · refine xw_iload (aX2_chainValue 47 rfl) rfl ?_
                refine xw_lloadn (aX2_chainValue 48 rfl) rfl ?_
                refine xw_lload (aX2_chainValue 49 rfl) rfl ?_
                refine hw_callS (As := [.int (r75), .long (y3), .long (r58)]) (rest := []) (aX2_chainValue 50 rfl) wc_RX2_180 (by decide) rfl wt_yX9_joined rfl rfl (Nat.le_of_ble_eq_true rfl) (Nat.le_of_ble_eq_true rfl) (k_X9_joined (d := E + d + 54) hS hF66 hI62 hR67 (r75) (y3) (r58) ) (fun v110 sv111 p112 => ?_)
                obtain ⟨r113, rfl, rfl⟩ := p112
                have rg_r113 := l_rng r113
                show hw sk base _ _ _ _ _ [.long (r113)] _ _
                refine xw_lstoren (L2 := [(3, .long (r113)), (8, .int (r75)), (6, .long (r58)), (5, .ref (base + r46)), (0, .ref (base + 90)), (2, .int (a2))]) (aX2_chainValue 51 rfl) (by decide) rfl ?_
                refine hw_aload (aX2_chainValue 52 rfl) rfl ?_
                obtain ⟨o119, h120⟩ : ∃ y, FR61 r46 6 = y := ⟨_, rfl⟩
                have ht121 : ∀ r, o119 = some r → r < n ∧ own r ∧ SH r = (3, (SH r).2) := fun r e => gR_get hR67 lt47 ow48 sh49 (h120.trans e)
                refine hw_get (v := va_rf (h_rf base (o119))) (aX2_chainValue 53 rfl) wf_RX2_169 lt47 sh49 (by decide) (congrArg (fun r => va_rf (h_rf base r)) (show FR61 r46 6 = o119 from h120)) ?_
                refine xw_astore (L2 := [(5, va_rf (h_rf base (o119))), (3, .long (r113)), (8, .int (r75)), (6, .long (r58)), (0, .ref (base + 90)), (2, .int (a2))]) (aX2_chainValue 54 rfl) (by decide) (by first | rfl | simp [x_s1, x_s2, va_cat, va_ci, va_cl, va_cr, va_cn] | (simp [x_s1, x_s2, va_cat, va_ci, va_cl, va_cr, va_cn]; decide)) ?_
                refine xw_goto (tgt := 30) (aX2_chainValue 55 rfl) (by decide) ?_
                exact hw_L (ih (o119) (r113) FI59 FL60 FR61 (ht121) (gf_tr ex_rf fr35 f63 rfl rfl rfl) (gf_tr ex_rf fr36 f64 rfl rfl rfl) (gf_tr ex_rf fr37 f65 rfl rfl rfl) hI62 hF66 hR67 (show FI59 a1 0 = x1 from (gf_as hS f63 ha1l ha1s (shd_d (dyn_tag hS ha1s (by decide +kernel)) ha1s) (by decide +kernel) (kp41))) (show FR61 a1 3 = r7 from (gf_at f65 ha1l (shd_d (dyn_tag hS ha1s (by decide +kernel)) ha1s) rfl (kp42))) (show FR61 r7 6 = o28 from (gf_at f65 lt8 (shd_d (dyn_tag hS sh10 (by decide +kernel)) sh10) rfl (kp43))) (show ∀ m, (o119) = some m → gp m = a1 from (by exact (fun m hm => (gT_n (gT_mw (L := [(48, 5), (48, 6), (48, 7), (48, 8), (48, 9), (48, 10), (48, 11), (49, 5), (49, 6), (49, 7), (49, 8), (49, 9), (49, 10), (49, 11), (90, 4)]) (A := []) (T := [5, 8, 9]) (L2 := []) (A2 := []) (T2 := [5]) hS gg0 (gf_tr ex_rf fr35 f63 rfl rfl rfl) (gf_tr ex_rf fr37 f65 rfl rfl rfl) (by decide) (by decide)) lt47 sh49 hp3 (r := m) ((show FR61 r46 6 = o119 from h120).trans hm)).1))) (by rcases hq : (o119) with _ | q9; { simp only [g_ms] at hm ⊢; omega }; { have q8 := gT_n (gT_mw (L := [(48, 5), (48, 6), (48, 7), (48, 8), (48, 9), (48, 10), (48, 11), (49, 5), (49, 6), (49, 7), (49, 8), (49, 9), (49, 10), (49, 11), (90, 4)]) (A := []) (T := [5, 8, 9]) (L2 := []) (A2 := []) (T2 := [5]) hS gg0 (gf_tr ex_rf fr35 f63 rfl rfl rfl) (gf_tr ex_rf fr37 f65 rfl rfl rfl) (by decide) (by decide)) lt47 sh49 hp3 (r := q9) ((show FR61 r46 6 = o119 from h120).trans hq); simp only [g_ms] at hm ⊢; omega })) ⟨rfl, rfl, rfl, rfl, trivial⟩
              · refine xw_lload (aX2_chainValue 39 rfl) rfl ?_
                refine hw_lc (v := (0 : Int64)) (aX2_chainValue 40 rfl) (by decide) ?_
                refine hw_lcne (tgt := 93) (aX2_chainValue 41 rfl) (aX2_chainValue 42 rfl) (by decide) rfl (by decide : (0 : Int64).toInt = 0) (fun cd122 => ?_) (fun cd122 => ?_)
                · refine xw_iload (aX2_chainValue 47 rfl) rfl ?_
                  refine xw_lloadn (aX2_chainValue 48 rfl) rfl ?_
                  refine xw_lload (aX2_chainValue 49 rfl) rfl ?_
                  refine hw_callS (As := [.int (r75), .long (y3), .long (r58)]) (rest := []) (aX2_chainValue 50 rfl) wc_RX2_180 (by decide) rfl wt_yX9_joined rfl rfl (Nat.le_of_ble_eq_true rfl) (Nat.le_of_ble_eq_true rfl) (k_X9_joined (d := E + d + 54) hS hF66 hI62 hR67 (r75) (y3) (r58) ) (fun v123 sv124 p125 => ?_)
                  obtain ⟨r126, rfl, rfl⟩ := p125
                  have rg_r126 := l_rng r126
                  show hw sk base _ _ _ _ _ [.long (r126)] _ _
                  refine xw_lstoren (L2 := [(3, .long (r126)), (8, .int (r75)), (6, .long (r58)), (5, .ref (base + r46)), (0, .ref (base + 90)), (2, .int (a2))]) (aX2_chainValue 51 rfl) (by decide) rfl ?_
                  refine hw_aload (aX2_chainValue 52 rfl) rfl ?_
                  obtain ⟨o132, h133⟩ : ∃ y, FR61 r46 6 = y := ⟨_, rfl⟩
                  have ht134 : ∀ r, o132 = some r → r < n ∧ own r ∧ SH r = (3, (SH r).2) := fun r e => gR_get hR67 lt47 ow48 sh49 (h133.trans e)
                  refine hw_get (v := va_rf (h_rf base (o132))) (aX2_chainValue 53 rfl) wf_RX2_169 lt47 sh49 (by decide) (congrArg (fun r => va_rf (h_rf base r)) (show FR61 r46 6 = o132 from h133)) ?_
                  refine xw_astore (L2 := [(5, va_rf (h_rf base (o132))), (3, .long (r126)), (8, .int (r75)), (6, .long (r58)), (0, .ref (base + 90)), (2, .int (a2))]) (aX2_chainValue 54 rfl) (by decide) (by first | rfl | simp [x_s1, x_s2, va_cat, va_ci, va_cl, va_cr, va_cn] | (simp [x_s1, x_s2, va_cat, va_ci, va_cl, va_cr, va_cn]; decide)) ?_
                  refine xw_goto (tgt := 30) (aX2_chainValue 55 rfl) (by decide) ?_
                  exact hw_L (ih (o132) (r126) FI59 FL60 FR61 (ht134) (gf_tr ex_rf fr35 f63 rfl rfl rfl) (gf_tr ex_rf fr36 f64 rfl rfl rfl) (gf_tr ex_rf fr37 f65 rfl rfl rfl) hI62 hF66 hR67 (show FI59 a1 0 = x1 from (gf_as hS f63 ha1l ha1s (shd_d (dyn_tag hS ha1s (by decide +kernel)) ha1s) (by decide +kernel) (kp41))) (show FR61 a1 3 = r7 from (gf_at f65 ha1l (shd_d (dyn_tag hS ha1s (by decide +kernel)) ha1s) rfl (kp42))) (show FR61 r7 6 = o28 from (gf_at f65 lt8 (shd_d (dyn_tag hS sh10 (by decide +kernel)) sh10) rfl (kp43))) (show ∀ m, (o132) = some m → gp m = a1 from (by exact (fun m hm => (gT_n (gT_mw (L := [(48, 5), (48, 6), (48, 7), (48, 8), (48, 9), (48, 10), (48, 11), (49, 5), (49, 6), (49, 7), (49, 8), (49, 9), (49, 10), (49, 11), (90, 4)]) (A := []) (T := [5, 8, 9]) (L2 := []) (A2 := []) (T2 := [5]) hS gg0 (gf_tr ex_rf fr35 f63 rfl rfl rfl) (gf_tr ex_rf fr37 f65 rfl rfl rfl) (by decide) (by decide)) lt47 sh49 hp3 (r := m) ((show FR61 r46 6 = o132 from h133).trans hm)).1))) (by rcases hq : (o132) with _ | q9; { simp only [g_ms] at hm ⊢; omega }; { have q8 := gT_n (gT_mw (L := [(48, 5), (48, 6), (48, 7), (48, 8), (48, 9), (48, 10), (48, 11), (49, 5), (49, 6), (49, 7), (49, 8), (49, 9), (49, 10), (49, 11), (90, 4)]) (A := []) (T := [5, 8, 9]) (L2 := []) (A2 := []) (T2 := [5]) hS gg0 (gf_tr ex_rf fr35 f63 rfl rfl rfl) (gf_tr ex_rf fr37 f65 rfl rfl rfl) (by decide) (by decide)) lt47 sh49 hp3 (r := q9) ((show FR61 r46 6 = o132 from h133).trans hq); simp only [g_ms] at hm ⊢; omega })) ⟨rfl, rfl, rfl, rfl, trivial⟩
                · refine hw_aloadn (aX2_chainValue 43 rfl) rfl ?_
                  refine hw_bp (v := (6 : Int32)) (aX2_chainValue 44 rfl) (by decide) ?_
                  refine hw_callV (Bs := [.int ((6 : Int32))]) (rest := []) (aX2_chainValue 45 rfl) wc_RX2_135 (by decide) rfl wi_yX2_fail wv_yX2_fail (c90 hS) (s90 hS) rfl rfl rfl (Nat.le_of_ble_eq_true rfl) (Nat.le_of_ble_eq_true rfl) (k_X2_fail (d := E + d + 56) hS hF66 hI62 hR67 ((6 : Int32)) ) (fun v135 sv136 p137 => ?_)
                  obtain ⟨r138, rfl, FI139, rfl, hI140, f141⟩ := p137
                  have rg_r138 := l_rng r138
                  show hw sk base _ _ _ _ _ [.long (r138)] _ _
                  refine xw_goto (tgt := 101) (aX2_chainValue 46 rfl) (by decide) ?_
                  refine xw_lstoren (L2 := [(3, .long (r138)), (8, .int (r75)), (6, .long (r58)), (5, .ref (base + r46)), (0, .ref (base + 90)), (2, .int (a2))]) (aX2_chainValue 51 rfl) (by decide) rfl ?_
                  refine hw_aload (aX2_chainValue 52 rfl) rfl ?_
                  obtain ⟨o146, h147⟩ : ∃ y, FR61 r46 6 = y := ⟨_, rfl⟩
                  have ht148 : ∀ r, o146 = some r → r < n ∧ own r ∧ SH r = (3, (SH r).2) := fun r e => gR_get hR67 lt47 ow48 sh49 (h147.trans e)
                  refine hw_get (v := va_rf (h_rf base (o146))) (aX2_chainValue 53 rfl) wf_RX2_169 lt47 sh49 (by decide) (congrArg (fun r => va_rf (h_rf base r)) (show FR61 r46 6 = o146 from h147)) ?_
                  refine xw_astore (L2 := [(5, va_rf (h_rf base (o146))), (3, .long (r138)), (8, .int (r75)), (6, .long (r58)), (0, .ref (base + 90)), (2, .int (a2))]) (aX2_chainValue 54 rfl) (by decide) (by first | rfl | simp [x_s1, x_s2, va_cat, va_ci, va_cl, va_cr, va_cn] | (simp [x_s1, x_s2, va_cat, va_ci, va_cl, va_cr, va_cn]; decide)) ?_
                  refine xw_goto (tgt := 30) (aX2_chainValue 55 rfl) (by decide) ?_
                  exact hw_L (ih (o146) (r138) FI139 FL60 FR61 (ht148) (gf_tr ex_rf (gf_tr ex_rf fr35 f63 rfl rfl rfl) f141 rfl rfl rfl) (gf_tr ex_rf fr36 f64 rfl rfl rfl) (gf_tr ex_rf fr37 f65 rfl rfl rfl) hI140 hF66 hR67 (show FI139 a1 0 = x1 from (gf_as hS f141 ha1l ha1s (shd_d (dyn_tag hS ha1s (by decide +kernel)) ha1s) (by decide +kernel) ((gf_as hS f63 ha1l ha1s (shd_d (dyn_tag hS ha1s (by decide +kernel)) ha1s) (by decide +kernel) (kp41))))) (show FR61 a1 3 = r7 from (gf_at f65 ha1l (shd_d (dyn_tag hS ha1s (by decide +kernel)) ha1s) rfl (kp42))) (show FR61 r7 6 = o28 from (gf_at f65 lt8 (shd_d (dyn_tag hS sh10 (by decide +kernel)) sh10) rfl (kp43))) (show ∀ m, (o146) = some m → gp m = a1 from (by exact (fun m hm => (gT_n (gT_mw (L := [(48, 5), (48, 6), (48, 7), (48, 8), (48, 9), (48, 10), (48, 11), (49, 5), (49, 6), (49, 7), (49, 8), (49, 9), (49, 10), (49, 11), (90, 4)]) (A := []) (T := [5, 8, 9]) (L2 := []) (A2 := []) (T2 := [5]) hS gg0 (gf_tr ex_rf (gf_tr ex_rf fr35 f63 rfl rfl rfl) f141 rfl rfl rfl) (gf_tr ex_rf fr37 f65 rfl rfl rfl) (by decide) (by decide)) lt47 sh49 hp3 (r := m) ((show FR61 r46 6 = o146 from h147).trans hm)).1))) (by rcases hq : (o146) with _ | q9; { simp only [g_ms] at hm ⊢; omega }; { have q8 := gT_n (gT_mw (L := [(48, 5), (48, 6), (48, 7), (48, 8), (48, 9), (48, 10), (48, 11), (49, 5), (49, 6), (49, 7), (49, 8), (49, 9), (49, 10), (49, 11), (90, 4)]) (A := []) (T := [5, 8, 9]) (L2 := []) (A2 := []) (T2 := [5]) hS gg0 (gf_tr ex_rf (gf_tr ex_rf fr35 f63 rfl rfl rfl) f141 rfl rfl rfl) (gf_tr ex_rf fr37 f65 rfl rfl rfl) (by decide) (by decide)) lt47 sh49 hp3 (r := q9) ((show FR61 r46 6 = o146 from h147).trans hq); simp only [g_ms] at hm ⊢; omega })) ⟨rfl, rfl, rfl, rfl, trivial⟩
    exact hw_L (lp44 ((((g_ms gs (gw a1) (o28) : Nat) : Int) : Int).toNat + 1) (o28) (r16) FI17 FL18 FR19 (ht30) (gf_tr ex_rf gf_rf f21 rfl rfl rfl) (gf_tr ex_rf gf_rf f22 rfl rfl rfl) (gf_tr ex_rf gf_rf f23 rfl rfl rfl) hI20 hF24 hR25 (show FI17 a1 0 = x1 from (gf_as hS f21 ha1l ha1s (shd_d (dyn_tag hS ha1s (by decide +kernel)) ha1s) (by decide +kernel) (h2))) (show FR19 a1 3 = r7 from (gf_at f23 ha1l (shd_d (dyn_tag hS ha1s (by decide +kernel)) ha1s) rfl (h4))) (show FR19 r7 6 = o28 from h29) (show ∀ m, (o28) = some m → gp m = a1 from (by exact (fun m hm => (gT_n (gT_mw (L := [(48, 5), (48, 6), (48, 7), (48, 8), (48, 9), (48, 10), (48, 11), (49, 5), (49, 6), (49, 7), (49, 8), (49, 9), (49, 10), (49, 11), (90, 4)]) (A := []) (T := [5, 8, 9]) (L2 := []) (A2 := []) (T2 := [5]) hS gg0 (gf_tr ex_rf gf_rf f21 rfl rfl rfl) (gf_tr ex_rf gf_rf f23 rfl rfl rfl) (by decide) (by decide)) lt8 sh10 hp1 (r := m) ((show FR19 r7 6 = o28 from h29).trans hm)).1))) (by omega)) ⟨rfl, rfl, rfl, rfl, trivial⟩
  · obtain rfl := h_rf_n hn6
    show hw sk base _ _ _ _ [(0, .ref (base + 90)), (1, .ref (base + a1)), (2, .int (a2))] [] _ _
    refine hw_lc (v := (0 : Int64)) (aX2_chainValue 3 rfl) (by decide) ?_
    refine xw_lret (aX2_chainValue 4 rfl) rfl ?_
    have e149 : ((0 : Int64)).toInt = 0 := (by decide : (0 : Int64).toInt = 0)
    exact ⟨(0 : Int64), rfl, FI, FL, FR, rfl, hI, gf_rf, gf_rf, gf_rf, hF, hR⟩
def nX2_value : Nat := 0xada500b66800b660041c9900b42b2a2b2aada200b61c2b2aad6800b660041c9f00b42b0700a79c00b42b0a009994096800b660041c9900b42b2a2aad8700b60b102a0900a79600b41900b42a0d00999200b41900b42aad8e00b61900b42a0a00a78700b60b102a0c00a0028b00b41900b42aad8700b61d2a0800a78400b41d00b42a0d009a1d3e7e00b60303e803111d00b42aad7800b67700b42b1900b42aad7700b42baa0000003f0000004600000025000000cd000000190000008f0000000d000000730000000c000000520000000b000000410000000500000007000000d4000000ab7400b42bad090500a478101c09009a2100b42a1000c62b
theorem bX2_value : cX2_value.data.toList.map UInt8.toNat = x_un nX2_value 252 := by decide +kernel
def iX2_value : List (Nat × Jvm.ClassFile.Instr × Nat) := [(0, .aload_n 1, 1), (1, .ifnull 16, 3), (4, .aload_n 0, 1), (5, .getfield 33, 3), (8, .ifCond .ne 9, 3), (11, .iload_n 2, 1), (12, .bipush 120, 2), (14, .if_icmp .le 5, 3), (17, .lconst 0, 1), (18, .lreturn, 1), (19, .aload_n 1, 1), (20, .getfield 116, 3), (88, .aload_n 1, 1), (89, .getfield 119, 3), (92, .lreturn, 1), (93, .aload_n 0, 1), (94, .getfield 25, 3), (97, .aload_n 1, 1), (98, .getfield 119, 3), (101, .invokevirtual 120, 3), (104, .lreturn, 1), (105, .aload_n 0, 1), (106, .getfield 29, 3), (109, .sipush 1000, 3), (112, .iconst 0, 1), (113, .iconst 0, 1), (114, .invokevirtual 126, 3), (117, .istore_n 3, 1), (118, .iload_n 3, 1), (119, .ifCond .ne 13, 3), (122, .aload_n 0, 1), (123, .getfield 29, 3), (126, .getfield 132, 3), (129, .goto 8, 3), (132, .aload_n 0, 1), (133, .iload_n 3, 1), (134, .invokevirtual 135, 3), (137, .lreturn, 1), (138, .aload_n 0, 1), (139, .getfield 25, 3), (142, .getfield 139, 3), (145, .iconst (-1), 1), (146, .if_icmp .ne 12, 3), (149, .aload_n 0, 1), (150, .bipush 11, 2), (152, .invokevirtual 135, 3), (155, .goto 10, 3), (158, .aload_n 0, 1), (159, .getfield 25, 3), (162, .invokevirtual 142, 3), (165, .lreturn, 1), (166, .aload_n 0, 1), (167, .getfield 25, 3), (170, .getfield 146, 3), (173, .ifCond .eq 13, 3), (176, .aload_n 0, 1), (177, .getfield 25, 3), (180, .getfield 150, 3), (183, .goto 9, 3), (186, .aload_n 0, 1), (187, .bipush 11, 2), (189, .invokevirtual 135, 3), (192, .lreturn, 1), (193, .aload_n 0, 1), (194, .aload_n 0, 1), (195, .aload_n 1, 1), (196, .getfield 153, 3), (199, .iload_n 2, 1), (200, .iconst 1, 1), (201, .iadd, 1), (202, .invokevirtual 104, 3), (205, .lconst 0, 1), (206, .lcmp, 1), (207, .ifCond .eq 10, 3), (210, .aload_n 1, 1), (211, .getfield 156, 3), (214, .goto 7, 3), (217, .aload_n 1, 1), (218, .getfield 159, 3), (221, .iload_n 2, 1), (222, .iconst 1, 1), (223, .iadd, 1), (224, .invokevirtual 104, 3), (227, .lreturn, 1), (228, .aload_n 0, 1), (229, .aload_n 1, 1), (230, .iload_n 2, 1), (231, .invokevirtual 162, 3), (234, .lreturn, 1), (235, .aload_n 0, 1), (236, .aload_n 1, 1), (237, .aload_n 0, 1), (238, .aload_n 1, 1), (239, .getfield 153, 3), (242, .iload_n 2, 1), (243, .iconst 1, 1), (244, .iadd, 1), (245, .invokevirtual 104, 3), (248, .invokevirtual 165, 3), (251, .lreturn, 1)]
theorem dX2_value : x_il nX2_value 252 iX2_value = true := by decide +kernel
theorem aX2_value (k : Nat) {pc : Nat} {i : Jvm.ClassFile.Instr} {len : Nat} (hk : iX2_value[k]? = some (pc, i, len)) : x_at xMM 30 pc i len yX2_value 4 (some .long) := ⟨cX2_value, rfl, x_il_ok bX2_value dX2_value k hk⟩
theorem aX2_value_23 : x_at xMM 30 23 (.lookupswitch 212 #[(5, 65), (11, 82), (12, 115), (13, 143), (25, 205), (37, 70), (63, 170)]) 65 yX2_value 4 (some .long) := ⟨cX2_value, rfl, by decide +kernel⟩
set_option maxHeartbeats 4000000 in
set_option maxRecDepth 100000 in
theorem k_valueS {sk : xK} {base d n sl : Nat} {SH : Nat → Nat × Nat} {FI : Nat → Nat → Int32} {FL : Nat → Nat → Int64} {FR : Nat → Nat → Option Nat} {E e : Nat} (ihV : ∀ (base d n sl : Nat) (SH : Nat → Nat × Nat) (FI : Nat → Nat → Int32) (FL : Nat → Nat → Int64) (FR : Nat → Nat → Option Nat) (hS : h_S n SH) (hF : h_FR FR) (hI : g_I FI) (hR : g_R n SH FR) (a1 : Option Nat) (ha1t : ∀ q, a1 = some q → q < n ∧ own q ∧ SH q = (3, (SH q).2)) (a2 : Int32) (gp : Nat → Nat) (gw : Nat → Nat) (gs : Nat → Nat) (g0 : 121 - (a2).toInt < (e : Int)) (g1 : 0 ≤ (a2).toInt ∧ (a2).toInt ≤ 121) (gg0 : g_T n SH FI FR gp gw gs) , hw sk base (E + d + 56) none 30 0 [(0, .ref (base + 90)), (1, va_rf (h_rf base (a1))), (2, .int (a2))] [] (n, sl, SH, FI, FL, FR) (h_J (fun r s => ∃ FI' FL' FR', s = (n, sl, SH, FI', FL', FR') ∧ g_I FI' ∧ g_fr n (shd SH) [(48, 5), (48, 6), (48, 7), (48, 8), (48, 9), (48, 10), (48, 11), (49, 5), (49, 6), (49, 7), (49, 8), (49, 9), (49, 10), (49, 11), (90, 4)] [] [5, 8, 9] FI FI' ∧ g_fr n (shd SH) [(48, 12), (48, 13), (48, 14), (48, 15), (49, 12), (49, 13), (49, 14), (49, 15)] [] [5, 9, 101] FL FL' ∧ g_fr n (shd SH) [] [] [5] FR FR' ∧ h_FR FR' ∧ g_R n SH FR'))) (hS : h_S n SH) (hF : h_FR FR) (hI : g_I FI) (hR : g_R n SH FR) (a1 : Option Nat) (ha1t : ∀ q, a1 = some q → q < n ∧ own q ∧ SH q = (3, (SH q).2)) (a2 : Int32) (gp : Nat → Nat) (gw : Nat → Nat) (gs : Nat → Nat) (g0 : 121 - (a2).toInt < (e : Int) + 1) (g1 : 0 ≤ (a2).toInt ∧ (a2).toInt ≤ 121) (gg0 : g_T n SH FI FR gp gw gs) : hw sk base (E + d + 58) none 30 0 [(0, .ref (base + 90)), (1, va_rf (h_rf base (a1))), (2, .int (a2))] [] (n, sl, SH, FI, FL, FR) (h_J (fun r s => ∃ FI' FL' FR', s = (n, sl, SH, FI', FL', FR') ∧ g_I FI' ∧ g_fr n (shd SH) [(48, 5), (48, 6), (48, 7), (48, 8), (48, 9), (48, 10), (48, 11), (49, 5), (49, 6), (49, 7), (49, 8), (49, 9), (49, 10), (49, 11), (90, 4)] [] [5, 8, 9] FI FI' ∧ g_fr n (shd SH) [(48, 12), (48, 13), (48, 14), (48, 15), (49, 12), (49, 13), (49, 14), (49, 15)] [] [5, 9, 101] FL FL' ∧ g_fr n (shd SH) [] [] [5] FR FR' ∧ h_FR FR' ∧ g_R n SH FR')) := by
  have rg_a2 := i_rng a2
  refine xw_aloadn (aX2_value 0 rfl) rfl ?_
  refine xw_ifnull (v := h_rf base a1) (tgt := 17) (aX2_value 1 rfl) (by decide) (fun hn1 => ?_) (fun hn1 => ?_)
  · obtain rfl := h_rf_n hn1
    show hw sk base _ _ _ _ [(0, .ref (base + 90)), (1, .null), (2, .int (a2))] [] _ _
    refine hw_lc (v := (0 : Int64)) (aX2_value 8 rfl) (by decide) ?_
    refine xw_lret (aX2_value 9 rfl) rfl ?_
    have e2 : ((0 : Int64)).toInt = 0 := (by decide : (0 : Int64).toInt = 0)
    exact ⟨(0 : Int64), rfl, FI, FL, FR, rfl, hI, gf_rf, gf_rf, gf_rf, hF, hR⟩
  · obtain ⟨r3, rfl⟩ := h_rf_s hn1
    obtain ⟨lt4, ow5, sh6⟩ := ha1t r3 rfl
    show hw sk base _ _ _ _ [(0, .ref (base + 90)), (1, .ref (base + r3)), (2, .int (a2))] [] _ _
    refine hw_aloadn (aX2_value 2 rfl) rfl ?_
    obtain ⟨x7, h8⟩ : ∃ y, FI 90 4 = y := ⟨_, rfl⟩
    have h8l := congrArg Int32.toInt h8
    have := i_rng x7
    refine hw_get (v := .int (x7)) (aX2_value 3 rfl) wf_RX2_33 (c90 hS) (s90 hS) (by decide) (congrArg Value.int (show FI 90 4 = x7 from h8)) ?_
    refine hw_ifne (tgt := 17) (aX2_value 4 rfl) (by decide) rfl (fun cd9 => ?_) (fun cd9 => ?_)
    · refine hw_lc (v := (0 : Int64)) (aX2_value 8 rfl) (by decide) ?_
      refine xw_lret (aX2_value 9 rfl) rfl ?_
      have e10 : ((0 : Int64)).toInt = 0 := (by decide : (0 : Int64).toInt = 0)
      exact ⟨(0 : Int64), rfl, FI, FL, FR, rfl, hI, gf_rf, gf_rf, gf_rf, hF, hR⟩
    · refine xw_iloadn (aX2_value 5 rfl) rfl ?_
      refine hw_bp (v := (120 : Int32)) (aX2_value 6 rfl) (by decide) ?_
      refine hw_icle (tgt := 19) (aX2_value 7 rfl) (by decide) rfl (by decide : (120 : Int32).toInt = 120) (fun cd11 => ?_) (fun cd11 => ?_)
      · refine hw_aloadn (aX2_value 10 rfl) rfl ?_
        obtain ⟨x12, h13⟩ : ∃ y, FI r3 0 = y := ⟨_, rfl⟩
        have h13l := congrArg Int32.toInt h13
        have := i_rng x12
        refine hw_get (v := .int (x12)) (aX2_value 11 rfl) wf_RX2_116 lt4 sh6 (by decide) (congrArg Value.int (show FI r3 0 = x12 from h13)) ?_
        have hsw : ((x12).toInt ≠ 5 ∧ (x12).toInt ≠ 11 ∧ (x12).toInt ≠ 12 ∧ (x12).toInt ≠ 13 ∧ (x12).toInt ≠ 25 ∧ (x12).toInt ≠ 37 ∧ (x12).toInt ≠ 63) ∨ ((x12).toInt = 5) ∨ ((x12).toInt = 11) ∨ ((x12).toInt = 12) ∨ ((x12).toInt = 13) ∨ ((x12).toInt = 25) ∨ ((x12).toInt = 37) ∨ ((x12).toInt = 63) := by omega
        rcases hsw with hsw | hsw | hsw | hsw | hsw | hsw | hsw | hsw
        · refine xw_lsw (tgt := 235) aX2_value_23 (by decide) (by show (23 : Int) + Jvm.Op.lookupswitch.offset [(5, 65), (11, 82), (12, 115), (13, 143), (25, 205), (37, 70), (63, 170)] (212) (x12).toInt = 235; simp only [Jvm.Op.lookupswitch.offset]; rw [if_neg (by omega), if_neg (by omega), if_neg (by omega), if_neg (by omega), if_neg (by omega), if_neg (by omega), if_neg (by omega)]; rfl) ?_
          clear hsw
          refine hw_aloadn (aX2_value 89 rfl) rfl ?_
          refine hw_aloadn (aX2_value 90 rfl) rfl ?_
          refine hw_aloadn (aX2_value 91 rfl) rfl ?_
          refine hw_aloadn (aX2_value 92 rfl) rfl ?_
          obtain ⟨o14, h15⟩ : ∃ y, FR r3 3 = y := ⟨_, rfl⟩
          have ht16 : ∀ r, o14 = some r → r < n ∧ own r ∧ SH r = (3, (SH r).2) := fun r e => gR_get hR lt4 ow5 sh6 (h15.trans e)
          refine hw_get (v := va_rf (h_rf base (o14))) (aX2_value 93 rfl) wf_RX2_153 lt4 sh6 (by decide) (congrArg (fun r => va_rf (h_rf base r)) (show FR r3 3 = o14 from h15)) ?_
          refine xw_iloadn (aX2_value 94 rfl) rfl ?_
          refine hw_ic (v := (1 : Int32)) (aX2_value 95 rfl) (by decide) ?_
          refine xw_iadd (aX2_value 96 rfl) ?_
          refine hw_tie (A := ((a2).toInt) + (1)) (i_add rfl (by decide : (1 : Int32).toInt = 1) (by omega) (by omega)) (fun x17 e18 => ?_)
          refine hw_callVo (Bs := [va_rf (h_rf base (o14)), .int (x17)]) (rest := [.ref (base + r3), .ref (base + 90)]) (L2 := [(0, .ref (base + 90)), (1, va_rf (h_rf base (o14))), (2, .int (x17))]) (aX2_value 97 rfl) wc_RX2_104 (by decide) rfl wi_yX2_value wv_yX2_value (c90 hS) (s90 hS) rfl rfl rfl (Nat.le_of_ble_eq_true rfl) (by simp [lg_sl, va_cat, va_ci, va_cl, va_cr, va_cn]) (by simp [lv_args, va_cat, va_ci, va_cl, va_cr, va_cn]) (ihV _ (d + 1) _ _ _ _ _ _ hS hF hI hR (o14) ht16 (x17) (gp) (gw) (gs) (by have := (e18 : (x17).toInt = ((a2).toInt) + (1)); omega) (by have := (e18 : (x17).toInt = ((a2).toInt) + (1)); have := (e18 : (x17).toInt = ((a2).toInt) + (1)); omega) ((gT_mw (L := [(48, 5), (48, 6), (48, 7), (48, 8), (48, 9), (48, 10), (48, 11), (49, 5), (49, 6), (49, 7), (49, 8), (49, 9), (49, 10), (49, 11), (90, 4)]) (A := []) (T := [5, 8, 9]) (L2 := []) (A2 := []) (T2 := [5]) hS gg0 gf_rf gf_rf (by decide) (by decide)))) (fun v19 sv20 p21 => ?_)
          obtain ⟨r22, rfl, FI23, FL24, FR25, rfl, hI26, f27, f28, f29, hF30, hR31⟩ := p21
          have rg_r22 := l_rng r22
          show hw sk base _ _ _ _ _ [.long (r22), .ref (base + r3), .ref (base + 90)] _ _
          refine hw_callV (Bs := [.ref (base + r3), .long (r22)]) (rest := []) (aX2_value 98 rfl) wc_RX2_165 (by decide) rfl wi_yX2_unaryValue wv_yX2_unaryValue (c90 hS) (s90 hS) rfl rfl rfl (Nat.le_of_ble_eq_true rfl) (Nat.le_of_ble_eq_true rfl) (k_X2_unaryValue (d := E + d + 55) hS hF30 hI26 hR31 (r3) lt4 sh6 ow5 (r22) ) (fun v34 sv35 p36 => ?_)
          obtain ⟨r37, rfl, FI38, rfl, hI39, f40⟩ := p36
          have rg_r37 := l_rng r37
          show hw sk base _ _ _ _ _ [.long (r37)] _ _
          refine xw_lret (aX2_value 99 rfl) rfl ?_
          exact ⟨r37, rfl, FI38, FL24, FR25, rfl, hI39, (gf_tr ex_rf (gf_tr ex_rf gf_rf f27 rfl rfl rfl) f40 rfl rfl rfl), (gf_tr ex_rf gf_rf f28 rfl rfl rfl), (gf_tr ex_rf gf_rf f29 rfl rfl rfl), hF30, hR31⟩
        · refine xw_lsw (tgt := 88) aX2_value_23 (by decide) (by rw [hsw]; decide) ?_
          refine hw_aloadn (aX2_value 12 rfl) rfl ?_
          obtain ⟨x45, h46⟩ : ∃ y, FL r3 1 = y := ⟨_, rfl⟩
          have h46l := congrArg Int64.toInt h46
          have := l_rng x45
          refine hw_get (v := .long (x45)) (aX2_value 13 rfl) wf_RX2_119 lt4 sh6 (by decide) (congrArg Value.long (show FL r3 1 = x45 from h46)) ?_
          refine xw_lret (aX2_value 14 rfl) rfl ?_
          exact ⟨x45, rfl, FI, FL, FR, rfl, hI, gf_rf, gf_rf, gf_rf, hF, hR⟩
        · refine xw_lsw (tgt := 105) aX2_value_23 (by decide) (by rw [hsw]; decide) ?_
          refine hw_aloadn (aX2_value 21 rfl) rfl ?_
          refine hw_get (v := .ref (base + 48)) (aX2_value 22 rfl) wf_RX2_29 (c90 hS) (s90 hS) (by decide) (congrArg (fun r => va_rf (h_rf base r)) (r90_1 hF)) ?_
          refine hw_sp (v := (1000 : Int32)) (aX2_value 23 rfl) (by decide) ?_
          refine hw_ic (v := (0 : Int32)) (aX2_value 24 rfl) (by decide) ?_
          refine hw_ic (v := (0 : Int32)) (aX2_value 25 rfl) (by decide) ?_
          refine hw_callV (Bs := [.int ((1000 : Int32)), .int ((0 : Int32)), .int ((0 : Int32))]) (rest := []) (aX2_value 26 rfl) wc_RX2_126 (by decide) rfl wi_yX9_base wv_yX9_base (c48 hS) (s48 hS) rfl rfl rfl (Nat.le_of_ble_eq_true rfl) (Nat.le_of_ble_eq_true rfl) (k_base48 (d := E + d + 2) hS hF hI hR ((1000 : Int32)) ((0 : Int32)) ((0 : Int32)) (by have := ((by decide : (0 : Int32).toInt = 0) : ((0 : Int32)).toInt = 0); have := ((by decide : (0 : Int32).toInt = 0) : ((0 : Int32)).toInt = 0); omega)) (fun v47 sv48 p49 => ?_)
          obtain ⟨r50, rfl, FI51, FL52, FR53, rfl, hI54, f55, f56, f57, hF58, hR59⟩ := p49
          have rg_r50 := i_rng r50
          show hw sk base _ _ _ _ _ [.int (r50)] _ _
          refine xw_istoren (L2 := [(3, .int (r50)), (0, .ref (base + 90)), (1, .ref (base + r3)), (2, .int (a2))]) (aX2_value 27 rfl) (by decide) rfl ?_
          refine xw_iloadn (aX2_value 28 rfl) rfl ?_
          refine hw_ifne (tgt := 132) (aX2_value 29 rfl) (by decide) rfl (fun cd62 => ?_) (fun cd62 => ?_)
          · refine hw_aloadn (aX2_value 34 rfl) rfl ?_
            refine xw_iloadn (aX2_value 35 rfl) rfl ?_
            refine hw_callV (Bs := [.int (r50)]) (rest := []) (aX2_value 36 rfl) wc_RX2_135 (by decide) rfl wi_yX2_fail wv_yX2_fail (c90 hS) (s90 hS) rfl rfl rfl (Nat.le_of_ble_eq_true rfl) (Nat.le_of_ble_eq_true rfl) (k_X2_fail (d := E + d + 57) hS hF58 hI54 hR59 (r50) ) (fun v63 sv64 p65 => ?_)
            obtain ⟨r66, rfl, FI67, rfl, hI68, f69⟩ := p65
            have rg_r66 := l_rng r66
            show hw sk base _ _ _ _ _ [.long (r66)] _ _
            refine xw_lret (aX2_value 37 rfl) rfl ?_
            exact ⟨r66, rfl, FI67, FL52, FR53, rfl, hI68, (gf_tr ex_rf (gf_tr ex_rf gf_rf f55 rfl rfl rfl) f69 rfl rfl rfl), (gf_tr ex_rf gf_rf f56 rfl rfl rfl), (gf_tr ex_rf gf_rf f57 rfl rfl rfl), hF58, hR59⟩
          · refine hw_aloadn (aX2_value 30 rfl) rfl ?_
            refine hw_get (v := .ref (base + 48)) (aX2_value 31 rfl) wf_RX2_29 (c90 hS) (s90 hS) (by decide) (congrArg (fun r => va_rf (h_rf base r)) (r90_1 hF58)) ?_
            obtain ⟨x74, h75⟩ : ∃ y, FL52 48 15 = y := ⟨_, rfl⟩
            have h75l := congrArg Int64.toInt h75
            have := l_rng x74
            refine hw_get (v := .long (x74)) (aX2_value 32 rfl) wf_RX2_132 (c48 hS) (s48 hS) (by decide) (congrArg Value.long (show FL52 48 15 = x74 from h75)) ?_
            refine xw_goto (tgt := 137) (aX2_value 33 rfl) (by decide) ?_
            refine xw_lret (aX2_value 37 rfl) rfl ?_
            exact ⟨x74, rfl, FI51, FL52, FR53, rfl, hI54, (gf_tr ex_rf gf_rf f55 rfl rfl rfl), (gf_tr ex_rf gf_rf f56 rfl rfl rfl), (gf_tr ex_rf gf_rf f57 rfl rfl rfl), hF58, hR59⟩
        · refine xw_lsw (tgt := 138) aX2_value_23 (by decide) (by rw [hsw]; decide) ?_
          refine hw_aloadn (aX2_value 38 rfl) rfl ?_
          refine hw_get (v := .ref (base + 23)) (aX2_value 39 rfl) wf_RX2_25 (c90 hS) (s90 hS) (by decide) (congrArg (fun r => va_rf (h_rf base r)) (r90_0 hF)) ?_
          obtain ⟨x76, h77⟩ : ∃ y, FI 23 5 = y := ⟨_, rfl⟩
          have h77l := congrArg Int32.toInt h77
          have b78 := gI_23_5 hI; rw [h77] at b78
          refine hw_get (v := .int (x76)) (aX2_value 40 rfl) wf_RX2_139 (c23 hS) (s23 hS) (by decide) (congrArg Value.int (show FI 23 5 = x76 from h77)) ?_
          refine hw_ic (v := ((-1) : Int32)) (aX2_value 41 rfl) (by decide) ?_
          refine hw_icne (tgt := 158) (aX2_value 42 rfl) (by decide) rfl (by decide : ((-1) : Int32).toInt = (-1)) (fun cd79 => ?_) (fun cd79 => ?_)
          · refine hw_aloadn (aX2_value 47 rfl) rfl ?_
            refine hw_get (v := .ref (base + 23)) (aX2_value 48 rfl) wf_RX2_25 (c90 hS) (s90 hS) (by decide) (congrArg (fun r => va_rf (h_rf base r)) (r90_0 hF)) ?_
            refine hw_callV (Bs := []) (rest := []) (aX2_value 49 rfl) wc_RX2_142 (by decide) rfl wi_yX1_cfaValue wv_yX1_cfaValue (c23 hS) (s23 hS) rfl rfl rfl (Nat.le_of_ble_eq_true rfl) (Nat.le_of_ble_eq_true rfl) (k_X1_cfaValue (d := E + d + 56) hS hF hI hR ) (fun v80 sv81 p82 => ?_)
            obtain ⟨r83, rfl, rfl⟩ := p82
            have rg_r83 := l_rng r83
            show hw sk base _ _ _ _ _ [.long (r83)] _ _
            refine xw_lret (aX2_value 50 rfl) rfl ?_
            exact ⟨r83, rfl, FI, FL, FR, rfl, hI, gf_rf, gf_rf, gf_rf, hF, hR⟩
          · refine hw_aloadn (aX2_value 43 rfl) rfl ?_
            refine hw_bp (v := (11 : Int32)) (aX2_value 44 rfl) (by decide) ?_
            refine hw_callV (Bs := [.int ((11 : Int32))]) (rest := []) (aX2_value 45 rfl) wc_RX2_135 (by decide) rfl wi_yX2_fail wv_yX2_fail (c90 hS) (s90 hS) rfl rfl rfl (Nat.le_of_ble_eq_true rfl) (Nat.le_of_ble_eq_true rfl) (k_X2_fail (d := E + d + 57) hS hF hI hR ((11 : Int32)) ) (fun v89 sv90 p91 => ?_)
            obtain ⟨r92, rfl, FI93, rfl, hI94, f95⟩ := p91
            have rg_r92 := l_rng r92
            show hw sk base _ _ _ _ _ [.long (r92)] _ _
            refine xw_goto (tgt := 165) (aX2_value 46 rfl) (by decide) ?_
            refine xw_lret (aX2_value 50 rfl) rfl ?_
            exact ⟨r92, rfl, FI93, FL, FR, rfl, hI94, (gf_tr ex_rf gf_rf f95 rfl rfl rfl), gf_rf, gf_rf, hF, hR⟩
        · refine xw_lsw (tgt := 166) aX2_value_23 (by decide) (by rw [hsw]; decide) ?_
          refine hw_aloadn (aX2_value 51 rfl) rfl ?_
          refine hw_get (v := .ref (base + 23)) (aX2_value 52 rfl) wf_RX2_25 (c90 hS) (s90 hS) (by decide) (congrArg (fun r => va_rf (h_rf base r)) (r90_0 hF)) ?_
          obtain ⟨x100, h101⟩ : ∃ y, FI 23 7 = y := ⟨_, rfl⟩
          have h101l := congrArg Int32.toInt h101
          have b102 := gI_23_7 hI; rw [h101] at b102
          refine hw_get (v := .int (x100)) (aX2_value 53 rfl) wf_RX2_146 (c23 hS) (s23 hS) (by decide) (congrArg Value.int (show FI 23 7 = x100 from h101)) ?_
          refine hw_ifeq (tgt := 186) (aX2_value 54 rfl) (by decide) rfl (fun cd103 => ?_) (fun cd103 => ?_)
          · refine hw_aloadn (aX2_value 59 rfl) rfl ?_
            refine hw_bp (v := (11 : Int32)) (aX2_value 60 rfl) (by decide) ?_
            refine hw_callV (Bs := [.int ((11 : Int32))]) (rest := []) (aX2_value 61 rfl) wc_RX2_135 (by decide) rfl wi_yX2_fail wv_yX2_fail (c90 hS) (s90 hS) rfl rfl rfl (Nat.le_of_ble_eq_true rfl) (Nat.le_of_ble_eq_true rfl) (k_X2_fail (d := E + d + 57) hS hF hI hR ((11 : Int32)) ) (fun v104 sv105 p106 => ?_)
            obtain ⟨r107, rfl, FI108, rfl, hI109, f110⟩ := p106
            have rg_r107 := l_rng r107
            show hw sk base _ _ _ _ _ [.long (r107)] _ _
            refine xw_lret (aX2_value 62 rfl) rfl ?_
            exact ⟨r107, rfl, FI108, FL, FR, rfl, hI109, (gf_tr ex_rf gf_rf f110 rfl rfl rfl), gf_rf, gf_rf, hF, hR⟩
          · refine hw_aloadn (aX2_value 55 rfl) rfl ?_
            refine hw_get (v := .ref (base + 23)) (aX2_value 56 rfl) wf_RX2_25 (c90 hS) (s90 hS) (by decide) (congrArg (fun r => va_rf (h_rf base r)) (r90_0 hF)) ?_
            obtain ⟨x115, h116⟩ : ∃ y, FL 23 8 = y := ⟨_, rfl⟩
            have h116l := congrArg Int64.toInt h116
            have := l_rng x115
            refine hw_get (v := .long (x115)) (aX2_value 57 rfl) wf_RX2_150 (c23 hS) (s23 hS) (by decide) (congrArg Value.long (show FL 23 8 = x115 from h116)) ?_
            refine xw_goto (tgt := 192) (aX2_value 58 rfl) (by decide) ?_
            refine xw_lret (aX2_value 62 rfl) rfl ?_
            exact ⟨x115, rfl, FI, FL, FR, rfl, hI, gf_rf, gf_rf, gf_rf, hF, hR⟩
        · refine xw_lsw (tgt := 228) aX2_value_23 (by decide) (by rw [hsw]; decide) ?_
          refine hw_aloadn (aX2_value 84 rfl) rfl ?_
          refine hw_aloadn (aX2_value 85 rfl) rfl ?_
          refine xw_iloadn (aX2_value 86 rfl) rfl ?_
          refine hw_callV (Bs := [.ref (base + r3), .int (a2)]) (rest := []) (aX2_value 87 rfl) wc_RX2_162 (by decide) rfl wi_yX2_chainValue wv_yX2_chainValue (c90 hS) (s90 hS) rfl rfl rfl (Nat.le_of_ble_eq_true rfl) (Nat.le_of_ble_eq_true rfl) (k_X2_chainValue (d := d) ihV hS hF hI hR (r3) lt4 sh6 ow5 (a2) (gp) (gw) (gs) (by omega) (by omega) ((gT_mw (L := [(48, 5), (48, 6), (48, 7), (48, 8), (48, 9), (48, 10), (48, 11), (49, 5), (49, 6), (49, 7), (49, 8), (49, 9), (49, 10), (49, 11), (90, 4)]) (A := []) (T := [5, 8, 9]) (L2 := []) (A2 := []) (T2 := [5]) hS gg0 gf_rf gf_rf (by decide) (by decide))) (by rw [show FI r3 0 = x12 from h13]; omega)) (fun v117 sv118 p119 => ?_)
          obtain ⟨r120, rfl, FI121, FL122, FR123, rfl, hI124, f125, f126, f127, hF128, hR129⟩ := p119
          have rg_r120 := l_rng r120
          show hw sk base _ _ _ _ _ [.long (r120)] _ _
          refine xw_lret (aX2_value 88 rfl) rfl ?_
          exact ⟨r120, rfl, FI121, FL122, FR123, rfl, hI124, (gf_tr ex_rf gf_rf f125 rfl rfl rfl), (gf_tr ex_rf gf_rf f126 rfl rfl rfl), (gf_tr ex_rf gf_rf f127 rfl rfl rfl), hF128, hR129⟩
        · refine xw_lsw (tgt := 93) aX2_value_23 (by decide) (by rw [hsw]; decide) ?_
          refine hw_aloadn (aX2_value 15 rfl) rfl ?_
          refine hw_get (v := .ref (base + 23)) (aX2_value 16 rfl) wf_RX2_25 (c90 hS) (s90 hS) (by decide) (congrArg (fun r => va_rf (h_rf base r)) (r90_0 hF)) ?_
          refine hw_aloadn (aX2_value 17 rfl) rfl ?_
          obtain ⟨x132, h133⟩ : ∃ y, FL r3 1 = y := ⟨_, rfl⟩
          have h133l := congrArg Int64.toInt h133
          have := l_rng x132
          refine hw_get (v := .long (x132)) (aX2_value 18 rfl) wf_RX2_119 lt4 sh6 (by decide) (congrArg Value.long (show FL r3 1 = x132 from h133)) ?_
          refine hw_callV (Bs := [.long (x132)]) (rest := []) (aX2_value 19 rfl) wc_RX2_120 (by decide) rfl wi_yX1_registerValue wv_yX1_registerValue (c23 hS) (s23 hS) rfl rfl rfl (Nat.le_of_ble_eq_true rfl) (Nat.le_of_ble_eq_true rfl) (k_X1_registerValue (d := E + d + 57) hS hF hI hR (x132) ) (fun v134 sv135 p136 => ?_)
          obtain ⟨r137, rfl, rfl⟩ := p136
          have rg_r137 := l_rng r137
          show hw sk base _ _ _ _ _ [.long (r137)] _ _
          refine xw_lret (aX2_value 20 rfl) rfl ?_
          exact ⟨r137, rfl, FI, FL, FR, rfl, hI, gf_rf, gf_rf, gf_rf, hF, hR⟩
        · refine xw_lsw (tgt := 193) aX2_value_23 (by decide) (by rw [hsw]; decide) ?_
          refine hw_aloadn (aX2_value 63 rfl) rfl ?_
          refine hw_aloadn (aX2_value 64 rfl) rfl ?_
          refine hw_aloadn (aX2_value 65 rfl) rfl ?_
          obtain ⟨o143, h144⟩ : ∃ y, FR r3 3 = y := ⟨_, rfl⟩
          have ht145 : ∀ r, o143 = some r → r < n ∧ own r ∧ SH r = (3, (SH r).2) := fun r e => gR_get hR lt4 ow5 sh6 (h144.trans e)
          refine hw_get (v := va_rf (h_rf base (o143))) (aX2_value 66 rfl) wf_RX2_153 lt4 sh6 (by decide) (congrArg (fun r => va_rf (h_rf base r)) (show FR r3 3 = o143 from h144)) ?_
          refine xw_iloadn (aX2_value 67 rfl) rfl ?_
          refine hw_ic (v := (1 : Int32)) (aX2_value 68 rfl) (by decide) ?_
          refine xw_iadd (aX2_value 69 rfl) ?_
          refine hw_tie (A := ((a2).toInt) + (1)) (i_add rfl (by decide : (1 : Int32).toInt = 1) (by omega) (by omega)) (fun x146 e147 => ?_)
          refine hw_callVo (Bs := [va_rf (h_rf base (o143)), .int (x146)]) (rest := [.ref (base + 90)]) (L2 := [(0, .ref (base + 90)), (1, va_rf (h_rf base (o143))), (2, .int (x146))]) (aX2_value 70 rfl) wc_RX2_104 (by decide) rfl wi_yX2_value wv_yX2_value (c90 hS) (s90 hS) rfl rfl rfl (Nat.le_of_ble_eq_true rfl) (by simp [lg_sl, va_cat, va_ci, va_cl, va_cr, va_cn]) (by simp [lv_args, va_cat, va_ci, va_cl, va_cr, va_cn]) (ihV _ (d + 1) _ _ _ _ _ _ hS hF hI hR (o143) ht145 (x146) (gp) (gw) (gs) (by have := (e147 : (x146).toInt = ((a2).toInt) + (1)); omega) (by have := (e147 : (x146).toInt = ((a2).toInt) + (1)); have := (e147 : (x146).toInt = ((a2).toInt) + (1)); omega) ((gT_mw (L := [(48, 5), (48, 6), (48, 7), (48, 8), (48, 9), (48, 10), (48, 11), (49, 5), (49, 6), (49, 7), (49, 8), (49, 9), (49, 10), (49, 11), (90, 4)]) (A := []) (T := [5, 8, 9]) (L2 := []) (A2 := []) (T2 := [5]) hS gg0 gf_rf gf_rf (by decide) (by decide)))) (fun v148 sv149 p150 => ?_)
          obtain ⟨r151, rfl, FI152, FL153, FR154, rfl, hI155, f156, f157, f158, hF159, hR160⟩ := p150
          have rg_r151 := l_rng r151
          show hw sk base _ _ _ _ _ [.long (r151), .ref (base + 90)] _ _
          refine hw_lc (v := (0 : Int64)) (aX2_value 71 rfl) (by decide) ?_
          refine hw_lceq (tgt := 217) (aX2_value 72 rfl) (aX2_value 73 rfl) (by decide) rfl (by decide : (0 : Int64).toInt = 0) (fun cd163 => ?_) (fun cd163 => ?_)
          · refine hw_aloadn (aX2_value 77 rfl) rfl ?_
            obtain ⟨o164, h165⟩ : ∃ y, FR154 r3 5 = y := ⟨_, rfl⟩
            have ht166 : ∀ r, o164 = some r → r < n ∧ own r ∧ SH r = (3, (SH r).2) := fun r e => gR_get hR160 lt4 ow5 sh6 (h165.trans e)
            refine hw_get (v := va_rf (h_rf base (o164))) (aX2_value 78 rfl) wf_RX2_159 lt4 sh6 (by decide) (congrArg (fun r => va_rf (h_rf base r)) (show FR154 r3 5 = o164 from h165)) ?_
            refine xw_iloadn (aX2_value 79 rfl) rfl ?_
            refine hw_ic (v := (1 : Int32)) (aX2_value 80 rfl) (by decide) ?_
            refine xw_iadd (aX2_value 81 rfl) ?_
            refine hw_tie (A := ((a2).toInt) + (1)) (i_add rfl (by decide : (1 : Int32).toInt = 1) (by omega) (by omega)) (fun x167 e168 => ?_)
            refine hw_callVo (Bs := [va_rf (h_rf base (o164)), .int (x167)]) (rest := []) (L2 := [(0, .ref (base + 90)), (1, va_rf (h_rf base (o164))), (2, .int (x167))]) (aX2_value 82 rfl) wc_RX2_104 (by decide) rfl wi_yX2_value wv_yX2_value (c90 hS) (s90 hS) rfl rfl rfl (Nat.le_of_ble_eq_true rfl) (by simp [lg_sl, va_cat, va_ci, va_cl, va_cr, va_cn]) (by simp [lv_args, va_cat, va_ci, va_cl, va_cr, va_cn]) (ihV _ (d + 1) _ _ _ _ _ _ hS hF159 hI155 hR160 (o164) ht166 (x167) (gp) (gw) (gs) (by have := (e168 : (x167).toInt = ((a2).toInt) + (1)); omega) (by have := (e168 : (x167).toInt = ((a2).toInt) + (1)); have := (e168 : (x167).toInt = ((a2).toInt) + (1)); omega) ((gT_mw (L := [(48, 5), (48, 6), (48, 7), (48, 8), (48, 9), (48, 10), (48, 11), (49, 5), (49, 6), (49, 7), (49, 8), (49, 9), (49, 10), (49, 11), (90, 4)]) (A := []) (T := [5, 8, 9]) (L2 := []) (A2 := []) (T2 := [5]) hS gg0 (gf_tr ex_rf gf_rf f156 rfl rfl rfl) (gf_tr ex_rf gf_rf f158 rfl rfl rfl) (by decide) (by decide)))) (fun v169 sv170 p171 => ?_)
            obtain ⟨r172, rfl, FI173, FL174, FR175, rfl, hI176, f177, f178, f179, hF180, hR181⟩ := p171
            have rg_r172 := l_rng r172
            show hw sk base _ _ _ _ _ [.long (r172)] _ _
            refine xw_lret (aX2_value 83 rfl) rfl ?_
            exact ⟨r172, rfl, FI173, FL174, FR175, rfl, hI176, (gf_tr ex_rf (gf_tr ex_rf gf_rf f156 rfl rfl rfl) f177 rfl rfl rfl), (gf_tr ex_rf (gf_tr ex_rf gf_rf f157 rfl rfl rfl) f178 rfl rfl rfl), (gf_tr ex_rf (gf_tr ex_rf gf_rf f158 rfl rfl rfl) f179 rfl rfl rfl), hF180, hR181⟩
          · refine hw_aloadn (aX2_value 74 rfl) rfl ?_
            obtain ⟨o184, h185⟩ : ∃ y, FR154 r3 4 = y := ⟨_, rfl⟩
            have ht186 : ∀ r, o184 = some r → r < n ∧ own r ∧ SH r = (3, (SH r).2) := fun r e => gR_get hR160 lt4 ow5 sh6 (h185.trans e)
            refine hw_get (v := va_rf (h_rf base (o184))) (aX2_value 75 rfl) wf_RX2_156 lt4 sh6 (by decide) (congrArg (fun r => va_rf (h_rf base r)) (show FR154 r3 4 = o184 from h185)) ?_
            refine xw_goto (tgt := 221) (aX2_value 76 rfl) (by decide) ?_
            refine xw_iloadn (aX2_value 79 rfl) rfl ?_
            refine hw_ic (v := (1 : Int32)) (aX2_value 80 rfl) (by decide) ?_
            refine xw_iadd (aX2_value 81 rfl) ?_
            refine hw_tie (A := ((a2).toInt) + (1)) (i_add rfl (by decide : (1 : Int32).toInt = 1) (by omega) (by omega)) (fun x187 e188 => ?_)
            refine hw_callVo (Bs := [va_rf (h_rf base (o184)), .int (x187)]) (rest := []) (L2 := [(0, .ref (base + 90)), (1, va_rf (h_rf base (o184))), (2, .int (x187))]) (aX2_value 82 rfl) wc_RX2_104 (by decide) rfl wi_yX2_value wv_yX2_value (c90 hS) (s90 hS) rfl rfl rfl (Nat.le_of_ble_eq_true rfl) (by simp [lg_sl, va_cat, va_ci, va_cl, va_cr, va_cn]) (by simp [lv_args, va_cat, va_ci, va_cl, va_cr, va_cn]) (ihV _ (d + 1) _ _ _ _ _ _ hS hF159 hI155 hR160 (o184) ht186 (x187) (gp) (gw) (gs) (by have := (e188 : (x187).toInt = ((a2).toInt) + (1)); omega) (by have := (e188 : (x187).toInt = ((a2).toInt) + (1)); have := (e188 : (x187).toInt = ((a2).toInt) + (1)); omega) ((gT_mw (L := [(48, 5), (48, 6), (48, 7), (48, 8), (48, 9), (48, 10), (48, 11), (49, 5), (49, 6), (49, 7), (49, 8), (49, 9), (49, 10), (49, 11), (90, 4)]) (A := []) (T := [5, 8, 9]) (L2 := []) (A2 := []) (T2 := [5]) hS gg0 (gf_tr ex_rf gf_rf f156 rfl rfl rfl) (gf_tr ex_rf gf_rf f158 rfl rfl rfl) (by decide) (by decide)))) (fun v189 sv190 p191 => ?_)
            obtain ⟨r192, rfl, FI193, FL194, FR195, rfl, hI196, f197, f198, f199, hF200, hR201⟩ := p191
            have rg_r192 := l_rng r192
            show hw sk base _ _ _ _ _ [.long (r192)] _ _
            refine xw_lret (aX2_value 83 rfl) rfl ?_
            exact ⟨r192, rfl, FI193, FL194, FR195, rfl, hI196, (gf_tr ex_rf (gf_tr ex_rf gf_rf f156 rfl rfl rfl) f197 rfl rfl rfl), (gf_tr ex_rf (gf_tr ex_rf gf_rf f157 rfl rfl rfl) f198 rfl rfl rfl), (gf_tr ex_rf (gf_tr ex_rf gf_rf f158 rfl rfl rfl) f199 rfl rfl rfl), hF200, hR201⟩
      · refine hw_lc (v := (0 : Int64)) (aX2_value 8 rfl) (by decide) ?_
        refine xw_lret (aX2_value 9 rfl) rfl ?_
        have e204 : ((0 : Int64)).toInt = 0 := (by decide : (0 : Int64).toInt = 0)
        exact ⟨(0 : Int64), rfl, FI, FL, FR, rfl, hI, gf_rf, gf_rf, gf_rf, hF, hR⟩
theorem k_valueA {sk : xK} : ∀ e : Nat, ∀ (base d n sl : Nat) (SH : Nat → Nat × Nat) (FI : Nat → Nat → Int32) (FL : Nat → Nat → Int64) (FR : Nat → Nat → Option Nat) (hS : h_S n SH) (hF : h_FR FR) (hI : g_I FI) (hR : g_R n SH FR) (a1 : Option Nat) (ha1t : ∀ q, a1 = some q → q < n ∧ own q ∧ SH q = (3, (SH q).2)) (a2 : Int32) (gp : Nat → Nat) (gw : Nat → Nat) (gs : Nat → Nat) (g0 : 121 - (a2).toInt < (e : Int)) (g1 : 0 ≤ (a2).toInt ∧ (a2).toInt ≤ 121) (gg0 : g_T n SH FI FR gp gw gs) , hw sk base (2 * e + d + 56) none 30 0 [(0, .ref (base + 90)), (1, va_rf (h_rf base (a1))), (2, .int (a2))] [] (n, sl, SH, FI, FL, FR) (h_J (fun r s => ∃ FI' FL' FR', s = (n, sl, SH, FI', FL', FR') ∧ g_I FI' ∧ g_fr n (shd SH) [(48, 5), (48, 6), (48, 7), (48, 8), (48, 9), (48, 10), (48, 11), (49, 5), (49, 6), (49, 7), (49, 8), (49, 9), (49, 10), (49, 11), (90, 4)] [] [5, 8, 9] FI FI' ∧ g_fr n (shd SH) [(48, 12), (48, 13), (48, 14), (48, 15), (49, 12), (49, 13), (49, 14), (49, 15)] [] [5, 9, 101] FL FL' ∧ g_fr n (shd SH) [] [] [5] FR FR' ∧ h_FR FR' ∧ g_R n SH FR')) := by
  intro e
  induction e with
  | zero => intros; omega
  | succ e ih => intro base d n sl SH FI FL FR hS hF hI hR a1 ha1t a2 gp gw gs g0 g1 gg0; rw [show 2 * (e + 1) + d + 56 = 2 * e + d + 58 by omega]; exact k_valueS ih hS hF hI hR a1 ha1t a2 gp gw gs (by omega) g1 gg0
set_option maxHeartbeats 4000000 in
set_option maxRecDepth 100000 in
theorem k_value {sk : xK} {base d n sl : Nat} {SH : Nat → Nat × Nat} {FI : Nat → Nat → Int32} {FL : Nat → Nat → Int64} {FR : Nat → Nat → Option Nat} (hS : h_S n SH) (hF : h_FR FR) (hI : g_I FI) (hR : g_R n SH FR) (a1 : Option Nat) (ha1t : ∀ q, a1 = some q → q < n ∧ own q ∧ SH q = (3, (SH q).2)) (a2 : Int32) (gp : Nat → Nat) (gw : Nat → Nat) (gs : Nat → Nat) (g0 : 0 ≤ (a2).toInt ∧ (a2).toInt ≤ 121) (gg0 : g_T n SH FI FR gp gw gs) : hw sk base (d + 300) none 30 0 [(0, .ref (base + 90)), (1, va_rf (h_rf base (a1))), (2, .int (a2))] [] (n, sl, SH, FI, FL, FR) (h_J (fun r s => ∃ FI' FL' FR', s = (n, sl, SH, FI', FL', FR') ∧ g_I FI' ∧ g_fr n (shd SH) [(48, 5), (48, 6), (48, 7), (48, 8), (48, 9), (48, 10), (48, 11), (49, 5), (49, 6), (49, 7), (49, 8), (49, 9), (49, 10), (49, 11), (90, 4)] [] [5, 8, 9] FI FI' ∧ g_fr n (shd SH) [(48, 12), (48, 13), (48, 14), (48, 15), (49, 12), (49, 13), (49, 14), (49, 15)] [] [5, 9, 101] FL FL' ∧ g_fr n (shd SH) [] [] [5] FR FR' ∧ h_FR FR' ∧ g_R n SH FR')) := by
  have h := k_valueA (sk := sk) 122 base d n sl SH FI FL FR hS hF hI hR a1 ha1t a2 gp gw gs (by omega) g0 gg0
  rwa [show 2 * 122 + d + 56 = d + 300 by omega] at h
end
