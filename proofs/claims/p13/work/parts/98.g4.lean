def nX7_readAll : Nat := 0xb1a2ffa72900b560042900b4592a4f2600b42a2900b42a1600b42a4f3600b42a2900b42a1300b42a503200b42a2900b42a0f00b42a4f2c00b42a2900b42a0900b42a2f00b62a48009f062c00b42a50009f052c00b42a5800a2be0900b42a2900b42a2c00b5042a2900b5032a2600b5032a2200b51c00b8be2b1c2a1900b52b2a
theorem bX7_readAll : cX7_readAll.data.toList.map UInt8.toNat = x_un nX7_readAll 128 := by decide +kernel
def iX7_readAll : List (Nat × Jvm.ClassFile.Instr × Nat) := [(0, .aload_n 0, 1), (1, .aload_n 1, 1), (2, .putfield 25, 3), (5, .aload_n 0, 1), (6, .iload_n 2, 1), (7, .aload_n 1, 1), (8, .arraylength, 1), (9, .invokestatic 28, 3), (12, .putfield 34, 3), (15, .aload_n 0, 1), (16, .iconst 0, 1), (17, .putfield 38, 3), (20, .aload_n 0, 1), (21, .iconst 0, 1), (22, .putfield 41, 3), (25, .aload_n 0, 1), (26, .iconst 1, 1), (27, .putfield 44, 3), (30, .aload_n 0, 1), (31, .getfield 41, 3), (34, .aload_n 0, 1), (35, .getfield 9, 3), (38, .arraylength, 1), (39, .if_icmp .ge 88, 3), (42, .aload_n 0, 1), (43, .getfield 44, 3), (46, .iconst 2, 1), (47, .if_icmp .eq 80, 3), (50, .aload_n 0, 1), (51, .getfield 44, 3), (54, .iconst 3, 1), (55, .if_icmp .eq 72, 3), (58, .aload_n 0, 1), (59, .invokevirtual 47, 3), (62, .aload_n 0, 1), (63, .getfield 9, 3), (66, .aload_n 0, 1), (67, .getfield 41, 3), (70, .aload_n 0, 1), (71, .getfield 44, 3), (74, .iastore, 1), (75, .aload_n 0, 1), (76, .getfield 15, 3), (79, .aload_n 0, 1), (80, .getfield 41, 3), (83, .aload_n 0, 1), (84, .getfield 50, 3), (87, .lastore, 1), (88, .aload_n 0, 1), (89, .getfield 19, 3), (92, .aload_n 0, 1), (93, .getfield 41, 3), (96, .aload_n 0, 1), (97, .getfield 54, 3), (100, .iastore, 1), (101, .aload_n 0, 1), (102, .getfield 22, 3), (105, .aload_n 0, 1), (106, .getfield 41, 3), (109, .aload_n 0, 1), (110, .getfield 38, 3), (113, .iastore, 1), (114, .aload_n 0, 1), (115, .dup, 1), (116, .getfield 41, 3), (119, .iconst 1, 1), (120, .iadd, 1), (121, .putfield 41, 3), (124, .goto (-94), 3), (127, .return_, 1)]
theorem dX7_readAll : x_il nX7_readAll 128 iX7_readAll = true := by decide +kernel
theorem aX7_readAll (k : Nat) {pc : Nat} {i : Jvm.ClassFile.Instr} {len : Nat} (hk : iX7_readAll[k]? = some (pc, i, len)) : x_at xMM 65 pc i len yX7_readAll 3 none := ⟨cX7_readAll, rfl, x_il_ok bX7_readAll dX7_readAll k hk⟩
set_option maxHeartbeats 4000000 in
set_option maxRecDepth 100000 in
theorem k_X7_readAll {sk : xK} {base d n sl : Nat} {SH : Nat → Nat × Nat} {FI : Nat → Nat → Int32} {FL : Nat → Nat → Int64} {FR : Nat → Nat → Option Nat} (hS : h_S n SH) (hF : h_FR FR) (hI : g_I FI) (hR : g_R n SH FR) (a2 : Int32) (g0 : 0 ≤ (a2).toInt ∧ (a2).toInt ≤ 1000) : hw sk base (d + 8) none 65 0 [(0, .ref (base + 111)), (1, .ref (base + 19)), (2, .int (a2))] [] (n, sl, SH, FI, FL, FR) (h_V (fun s => ∃ FI' FL' FR', s = (n, sl, SH, FI', FL', FR') ∧ g_I FI' ∧ g_fr n (shd SH) [(111, 4), (111, 6), (111, 7), (111, 8), (111, 9)] [112, 114, 115] [] FI FI' ∧ g_fr n (shd SH) [(111, 10)] [113] [] FL FL' ∧ g_fr n (shd SH) [(111, 5)] [] [] FR FR' ∧ h_FR FR' ∧ g_R n SH FR' ∧ ((FI' 111 4).toInt ≤ (a2).toInt + 2) ∧ (g_K FI') ∧ (FR' 111 5 = some 19))) := by
  have rg_a2 := i_rng a2
  obtain ⟨x1, h2⟩ : ∃ y, FI 111 4 = y := ⟨_, rfl⟩
  have h2l := congrArg Int32.toInt h2
  have b3 := gI_111_4 hI; rw [h2] at b3
  refine hw_aloadn (aX7_readAll 0 rfl) rfl ?_
  refine hw_aloadn (aX7_readAll 1 rfl) rfl ?_
  refine hv_putr (r := some (19)) (aX7_readAll 2 rfl) wf_RX7_25 (c111 hS) (s111 hS) (by decide) (by first | exact Or.inl ⟨_, rfl⟩ | exact Or.inr ⟨_, rfl⟩) (Or.inl rfl) (fun FR4 u5 => ?_)
  have hF6 : h_FR FR4 := hF_up hS hF u5 (s111 hS) (by decide +kernel)
  have hR7 : g_R n SH FR4 := gR_up hR u5 (s111 hS) (fun r e => by cases e; exact ⟨(c19 hS), (Or.inl (by decide)), by rw [(s19 hS)]; rfl⟩) (fun h => absurd h (by have := (by decide : 111 < 176); omega)) (fun _ => by simp) (fun h => absurd h.1 (by decide))
  refine hw_aloadn (aX7_readAll 3 rfl) rfl ?_
  refine xw_iloadn (aX7_readAll 4 rfl) rfl ?_
  refine hw_aloadn (aX7_readAll 5 rfl) rfl ?_
  refine hw_alen (k := 0) (z := 1000) (v := (1000 : Int32)) (aX7_readAll 6 rfl) (c19 hS) (s19 hS) (by decide) (by decide) ?_
  refine hw_callS (As := [.int (a2), .int ((1000 : Int32))]) (rest := [.ref (base + 111)]) (aX7_readAll 7 rfl) wc_RX7_28 (by decide) rfl wt_yJ9_min_7cf53 rfl rfl (Nat.le_of_ble_eq_true rfl) (Nat.le_of_ble_eq_true rfl) (k_J9_min_7cf53 (d := d + 7) hS hF6 hI hR7 (a2) ((1000 : Int32)) ) (fun v8 sv9 p10 => ?_)
  have := ((by decide : (1000 : Int32).toInt = 1000) : ((1000 : Int32)).toInt = 1000)
  have := ((by decide : (1000 : Int32).toInt = 1000) : ((1000 : Int32)).toInt = 1000)
  obtain ⟨r11, rfl, rfl, t15, t16⟩ := p10
  have rg_r11 := i_rng r11
  show hw sk base _ _ _ _ _ [.int (r11), .ref (base + 111)] _ _
  refine hv_puti (aX7_readAll 8 rfl) wf_RX7_34 (c111 hS) (s111 hS) (by decide) rfl rfl (fun FI19 u20 => ?_)
  have hI21 : g_I FI19 := gU_111_6 hI u20 (by omega) (by omega)
  refine hw_aloadn (aX7_readAll 9 rfl) rfl ?_
  refine hw_ic (v := (0 : Int32)) (aX7_readAll 10 rfl) (by decide) ?_
  refine hv_puti (aX7_readAll 11 rfl) wf_RX7_38 (c111 hS) (s111 hS) (by decide) rfl rfl (fun FI22 u23 => ?_)
  have hI24 : g_I FI22 := gU_111_8 hI21 u23 (by have := ((by decide : (0 : Int32).toInt = 0) : ((0 : Int32)).toInt = 0); omega) (by have := ((by decide : (0 : Int32).toInt = 0) : ((0 : Int32)).toInt = 0); omega)
  refine hw_aloadn (aX7_readAll 12 rfl) rfl ?_
  refine hw_ic (v := (0 : Int32)) (aX7_readAll 13 rfl) (by decide) ?_
  refine hv_puti (aX7_readAll 14 rfl) wf_RX7_41 (c111 hS) (s111 hS) (by decide) rfl rfl (fun FI25 u26 => ?_)
  have hI27 : g_I FI25 := gU_111_4 hI24 u26 (by have := ((by decide : (0 : Int32).toInt = 0) : ((0 : Int32)).toInt = 0); omega) (by have := ((by decide : (0 : Int32).toInt = 0) : ((0 : Int32)).toInt = 0); omega)
  refine hw_aloadn (aX7_readAll 15 rfl) rfl ?_
  refine hw_ic (v := (1 : Int32)) (aX7_readAll 16 rfl) (by decide) ?_
  refine hv_puti (aX7_readAll 17 rfl) wf_RX7_44 (c111 hS) (s111 hS) (by decide) rfl rfl (fun FI28 u29 => ?_)
  have hI30 : g_I FI28 := gU_F hI27 u29 rfl
  have lp43 : ∀ (m : Nat) (FIv31 : Nat → Nat → Int32) (FLv32 : Nat → Nat → Int64), (g_fr n (shd SH) [(111, 4), (111, 6), (111, 7), (111, 8), (111, 9)] [112, 114, 115] [] FI FIv31) → (g_fr n (shd SH) [(111, 10)] [113] [] FL FLv32) → (g_I FIv31) → (FIv31 111 6 = r11) → (0 ≤ (FIv31 111 4).toInt ∧ (FIv31 111 4).toInt ≤ 1001) → ((FIv31 111 9).toInt = 2 ∨ (FIv31 111 4).toInt ≤ (FIv31 111 8).toInt) → ((FIv31 111 4).toInt = 0 → (FIv31 111 9).toInt = 1) → ((FIv31 111 4).toInt ≤ (r11).toInt + 1) → ((r11).toInt ≤ (a2).toInt ∧ (r11).toInt ≤ 1000) → ((FIv31 111 4).toInt ≤ (r11).toInt ∨ (FIv31 111 9).toInt = 2) → (1 ≤ (FIv31 111 4).toInt → FIv31 112 ((FIv31 111 4).toInt - 1).toNat = FIv31 111 9) → (∀ i : Nat, (i : Int) < (FIv31 111 4).toInt → (FIv31 115 i).toInt ≤ (FIv31 114 i).toInt + 20) → 1001 - (FIv31 111 4).toInt < m → hw sk base (d + 8) none 65 30 [(0, .ref (base + 111))] [] (n, sl, SH, FIv31, FLv32, FR4) (h_V (fun s => ∃ FI' FL' FR', s = (n, sl, SH, FI', FL', FR') ∧ g_I FI' ∧ g_fr n (shd SH) [(111, 4), (111, 6), (111, 7), (111, 8), (111, 9)] [112, 114, 115] [] FI FI' ∧ g_fr n (shd SH) [(111, 10)] [113] [] FL FL' ∧ g_fr n (shd SH) [(111, 5)] [] [] FR FR' ∧ h_FR FR' ∧ g_R n SH FR' ∧ ((FI' 111 4).toInt ≤ (a2).toInt + 2) ∧ (g_K FI') ∧ (FR' 111 5 = some 19))) := by
    intro m
    induction m with
    | zero => intro FIv31 FLv32 fr33 fr34 hI35 kp36 iv37 iv38 iv39 iv40 iv41 iv42 xi30_0 xi30_1 hm; omega
    | succ m ih =>
      intro FIv31 FLv32 fr33 fr34 hI35 kp36 iv37 iv38 iv39 iv40 iv41 iv42 xi30_0 xi30_1 hm
      have := congrArg Int32.toInt kp36
      obtain ⟨x44, h45⟩ : ∃ y, FIv31 111 4 = y := ⟨_, rfl⟩
      have h45l := congrArg Int32.toInt h45
      have b46 := gI_111_4 hI35; rw [h45] at b46
      obtain ⟨x47, h48⟩ : ∃ y, FIv31 111 9 = y := ⟨_, rfl⟩
      have h48l := congrArg Int32.toInt h48
      have := i_rng x47
      obtain ⟨x49, h50⟩ : ∃ y, FIv31 111 8 = y := ⟨_, rfl⟩
      have h50l := congrArg Int32.toInt h50
      have b51 := gI_111_8 hI35; rw [h50] at b51
      refine hw_aloadn (aX7_readAll 18 rfl) rfl ?_
      refine hw_get (v := .int (x44)) (aX7_readAll 19 rfl) wf_RX7_41 (c111 hS) (s111 hS) (by decide) (congrArg Value.int (show FIv31 111 4 = x44 from h45)) ?_
      refine hw_aloadn (aX7_readAll 20 rfl) rfl ?_
      refine hw_get (v := .ref (base + 112)) (aX7_readAll 21 rfl) wf_RX7_9 (c111 hS) (s111 hS) (by decide) (congrArg (fun r => va_rf (h_rf base r)) (r111_0 hF6)) ?_
      refine hw_alen (k := 0) (z := 1001) (v := (1001 : Int32)) (aX7_readAll 22 rfl) (c112 hS) (s112 hS) (by decide) (by decide) ?_
      refine hw_icge (tgt := 127) (aX7_readAll 23 rfl) (by decide) rfl (by decide : (1001 : Int32).toInt = 1001) (fun cd52 => ?_) (fun cd52 => ?_)
      · refine xw_vret (aX7_readAll 69 rfl) rfl ?_
        exact ⟨rfl, FIv31, FLv32, FR4, rfl, hI35, fr33, fr34, (gf_f gf_rf u5 (by decide)), hF6, hR7, (by have := congrArg Int32.toInt (show FIv31 111 4 = x44 from h45); omega), (by have hq1 := congrArg Int32.toInt (show FIv31 111 4 = x44 from h45); have hq9 := congrArg Int32.toInt (show FIv31 111 9 = x47 from h48); refine ⟨by omega, ?_, xi30_1⟩; rw [xi30_0 (by omega)]; omega), (by exact up_eq u5)⟩
      · refine hw_aloadn (aX7_readAll 24 rfl) rfl ?_
        refine hw_get (v := .int (x47)) (aX7_readAll 25 rfl) wf_RX7_44 (c111 hS) (s111 hS) (by decide) (congrArg Value.int (show FIv31 111 9 = x47 from h48)) ?_
        refine hw_ic (v := (2 : Int32)) (aX7_readAll 26 rfl) (by decide) ?_
        refine hw_iceq (tgt := 127) (aX7_readAll 27 rfl) (by decide) rfl (by decide : (2 : Int32).toInt = 2) (fun cd53 => ?_) (fun cd53 => ?_)
        · refine xw_vret (aX7_readAll 69 rfl) rfl ?_
          exact ⟨rfl, FIv31, FLv32, FR4, rfl, hI35, fr33, fr34, (gf_f gf_rf u5 (by decide)), hF6, hR7, (by have := congrArg Int32.toInt (show FIv31 111 4 = x44 from h45); omega), (by have hq1 := congrArg Int32.toInt (show FIv31 111 4 = x44 from h45); have hq9 := congrArg Int32.toInt (show FIv31 111 9 = x47 from h48); refine ⟨by omega, ?_, xi30_1⟩; rw [xi30_0 (by omega)]; omega), (by exact up_eq u5)⟩
        · refine hw_aloadn (aX7_readAll 28 rfl) rfl ?_
          refine hw_get (v := .int (x47)) (aX7_readAll 29 rfl) wf_RX7_44 (c111 hS) (s111 hS) (by decide) (congrArg Value.int (show FIv31 111 9 = x47 from h48)) ?_
          refine hw_ic (v := (3 : Int32)) (aX7_readAll 30 rfl) (by decide) ?_
          refine hw_iceq (tgt := 127) (aX7_readAll 31 rfl) (by decide) rfl (by decide : (3 : Int32).toInt = 3) (fun cd54 => ?_) (fun cd54 => ?_)
          · refine xw_vret (aX7_readAll 69 rfl) rfl ?_
            exact ⟨rfl, FIv31, FLv32, FR4, rfl, hI35, fr33, fr34, (gf_f gf_rf u5 (by decide)), hF6, hR7, (by have := congrArg Int32.toInt (show FIv31 111 4 = x44 from h45); omega), (by have hq1 := congrArg Int32.toInt (show FIv31 111 4 = x44 from h45); have hq9 := congrArg Int32.toInt (show FIv31 111 9 = x47 from h48); refine ⟨by omega, ?_, xi30_1⟩; rw [xi30_0 (by omega)]; omega), (by exact up_eq u5)⟩
          · refine hw_aloadn (aX7_readAll 32 rfl) rfl ?_
            refine hw_callV (Bs := []) (rest := []) (aX7_readAll 33 rfl) wc_RX7_47 (by decide) rfl wi_yX7_readToken wv_yX7_readToken (c111 hS) (s111 hS) rfl rfl rfl (Nat.le_of_ble_eq_true rfl) (Nat.le_of_ble_eq_true rfl) (k_X7_readToken (d := d) hS hF6 hI35 hR7 (fun t ht => by rw [show FR4 111 5 = some 19 from up_eq u5] at ht; cases ht; rw [s19 hS]; have := congrArg Int32.toInt (show FIv31 111 6 = r11 from kp36); show _ ≤ (1000 : Int); omega)) (fun v55 sv56 p57 => ?_)
            have := congrArg Int32.toInt (show FIv31 111 8 = x49 from h50)
            have := congrArg Int32.toInt (show FIv31 111 8 = x49 from h50)
            have := congrArg Int32.toInt (show FIv31 111 6 = r11 from kp36)
            obtain ⟨rfl, FI59, FL60, rfl, hI61, f62, f63, t66, t67⟩ := p57
            obtain ⟨x70, h71⟩ : ∃ y, FI59 111 9 = y := ⟨_, rfl⟩
            have h71l := congrArg Int32.toInt h71
            have := i_rng x70
            obtain ⟨x72, h73⟩ : ∃ y, FI59 111 8 = y := ⟨_, rfl⟩
            have h73l := congrArg Int32.toInt h73
            have b74 := gI_111_8 hI61; rw [h73] at b74
            obtain ⟨x75, h76⟩ : ∃ y, FI59 111 7 = y := ⟨_, rfl⟩
            have h76l := congrArg Int32.toInt h76
            have b77 := gI_111_7 hI61; rw [h76] at b77
            show hw sk base _ _ _ _ _ [] _ _
            refine hw_aloadn (aX7_readAll 34 rfl) rfl ?_
            refine hw_get (v := .ref (base + 112)) (aX7_readAll 35 rfl) wf_RX7_9 (c111 hS) (s111 hS) (by decide) (congrArg (fun r => va_rf (h_rf base r)) (r111_0 hF6)) ?_
            refine hw_aloadn (aX7_readAll 36 rfl) rfl ?_
            refine hw_get (v := .int (x44)) (aX7_readAll 37 rfl) wf_RX7_41 (c111 hS) (s111 hS) (by decide) (congrArg Value.int (show FI59 111 4 = x44 from (gf_at f62 (c111 hS) (shd_f (by decide) (s111 hS)) rfl (h45)))) ?_
            refine hw_aloadn (aX7_readAll 38 rfl) rfl ?_
            refine hw_get (v := .int (x70)) (aX7_readAll 39 rfl) wf_RX7_44 (c111 hS) (s111 hS) (by decide) (congrArg Value.int (show FI59 111 9 = x70 from h71)) ?_
            refine hv_iast (k := (x44).toNatClampNeg) (aX7_readAll 40 rfl) (c112 hS) (s112 hS) (h_in rfl (by omega) (by omega)) rfl (fun FI78 u79 => ?_)
            have hI80 : g_I FI78 := gU_F hI61 u79 rfl
            refine hw_aloadn (aX7_readAll 41 rfl) rfl ?_
            refine hw_get (v := .ref (base + 113)) (aX7_readAll 42 rfl) wf_RX7_15 (c111 hS) (s111 hS) (by decide) (congrArg (fun r => va_rf (h_rf base r)) (r111_1 hF6)) ?_
            refine hw_aloadn (aX7_readAll 43 rfl) rfl ?_
            refine hw_get (v := .int (x44)) (aX7_readAll 44 rfl) wf_RX7_41 (c111 hS) (s111 hS) (by decide) (congrArg Value.int (show FI78 111 4 = x44 from (up_c u79 (by decide) ((gf_at f62 (c111 hS) (shd_f (by decide) (s111 hS)) rfl (h45)))))) ?_
            refine hw_aloadn (aX7_readAll 45 rfl) rfl ?_
            obtain ⟨x81, h82⟩ : ∃ y, FL60 111 10 = y := ⟨_, rfl⟩
            have h82l := congrArg Int64.toInt h82
            have := l_rng x81
            refine hw_get (v := .long (x81)) (aX7_readAll 46 rfl) wf_RX7_50 (c111 hS) (s111 hS) (by decide) (congrArg Value.long (show FL60 111 10 = x81 from h82)) ?_
            refine hv_last (k := (x44).toNatClampNeg) (aX7_readAll 47 rfl) (c113 hS) (s113 hS) (h_in rfl (by omega) (by omega)) rfl (fun FL83 u84 => ?_)
            refine hw_aloadn (aX7_readAll 48 rfl) rfl ?_
            refine hw_get (v := .ref (base + 114)) (aX7_readAll 49 rfl) wf_RX7_19 (c111 hS) (s111 hS) (by decide) (congrArg (fun r => va_rf (h_rf base r)) (r111_2 hF6)) ?_
            refine hw_aloadn (aX7_readAll 50 rfl) rfl ?_
            refine hw_get (v := .int (x44)) (aX7_readAll 51 rfl) wf_RX7_41 (c111 hS) (s111 hS) (by decide) (congrArg Value.int (show FI78 111 4 = x44 from (up_c u79 (by decide) ((gf_at f62 (c111 hS) (shd_f (by decide) (s111 hS)) rfl (h45)))))) ?_
            refine hw_aloadn (aX7_readAll 52 rfl) rfl ?_
            refine hw_get (v := .int (x75)) (aX7_readAll 53 rfl) wf_RX7_54 (c111 hS) (s111 hS) (by decide) (congrArg Value.int (show FI78 111 7 = x75 from (up_c u79 (by decide) (h76)))) ?_
            refine hv_iast (k := (x44).toNatClampNeg) (aX7_readAll 54 rfl) (c114 hS) (s114 hS) (h_in rfl (by omega) (by omega)) rfl (fun FI85 u86 => ?_)
            have hI87 : g_I FI85 := gU_114 hI80 u86 (by omega) (by omega)
            refine hw_aloadn (aX7_readAll 55 rfl) rfl ?_
            refine hw_get (v := .ref (base + 115)) (aX7_readAll 56 rfl) wf_RX7_22 (c111 hS) (s111 hS) (by decide) (congrArg (fun r => va_rf (h_rf base r)) (r111_3 hF6)) ?_
            refine hw_aloadn (aX7_readAll 57 rfl) rfl ?_
            refine hw_get (v := .int (x44)) (aX7_readAll 58 rfl) wf_RX7_41 (c111 hS) (s111 hS) (by decide) (congrArg Value.int (show FI85 111 4 = x44 from (up_c u86 (by decide) ((up_c u79 (by decide) ((gf_at f62 (c111 hS) (shd_f (by decide) (s111 hS)) rfl (h45)))))))) ?_
            refine hw_aloadn (aX7_readAll 59 rfl) rfl ?_
            refine hw_get (v := .int (x72)) (aX7_readAll 60 rfl) wf_RX7_38 (c111 hS) (s111 hS) (by decide) (congrArg Value.int (show FI85 111 8 = x72 from (up_c u86 (by decide) ((up_c u79 (by decide) (h73)))))) ?_
            refine hv_iast (k := (x44).toNatClampNeg) (aX7_readAll 61 rfl) (c115 hS) (s115 hS) (h_in rfl (by omega) (by omega)) rfl (fun FI88 u89 => ?_)
            have hI90 : g_I FI88 := gU_115 hI87 u89 (by omega) (by omega)
            refine hw_aloadn (aX7_readAll 62 rfl) rfl ?_
            refine xw_dup (aX7_readAll 63 rfl) rfl ?_
            refine hw_get (v := .int (x44)) (aX7_readAll 64 rfl) wf_RX7_41 (c111 hS) (s111 hS) (by decide) (congrArg Value.int (show FI88 111 4 = x44 from (up_c u89 (by decide) ((up_c u86 (by decide) ((up_c u79 (by decide) ((gf_at f62 (c111 hS) (shd_f (by decide) (s111 hS)) rfl (h45)))))))))) ?_
            refine hw_ic (v := (1 : Int32)) (aX7_readAll 65 rfl) (by decide) ?_
            refine xw_iadd (aX7_readAll 66 rfl) ?_
            refine hw_tie (A := ((x44).toInt) + (1)) (i_add rfl (by decide : (1 : Int32).toInt = 1) (by omega) (by omega)) (fun x91 e92 => ?_)
            refine hv_puti (aX7_readAll 67 rfl) wf_RX7_41 (c111 hS) (s111 hS) (by decide) rfl rfl (fun FI93 u94 => ?_)
            have hI95 : g_I FI93 := gU_111_4 hI90 u94 (by have := (e92 : (x91).toInt = ((x44).toInt) + (1)); omega) (by have := (e92 : (x91).toInt = ((x44).toInt) + (1)); omega)
            refine xw_goto (tgt := 30) (aX7_readAll 68 rfl) (by decide) ?_
            exact hw_L (ih FI93 FL83 (gf_f (gf_a (gf_a (gf_a (gf_tr ex_rf fr33 f62 rfl rfl rfl) u79 (by decide)) u86 (by decide)) u89 (by decide)) u94 (by decide)) (gf_a (gf_tr ex_rf fr34 f63 rfl rfl rfl) u84 (by decide)) hI95 (show FI93 111 6 = r11 from (up_k u94 (by decide) ((up_c u89 (by decide) ((up_c u86 (by decide) ((up_c u79 (by decide) ((gf_at f62 (c111 hS) (shd_f (by decide) (s111 hS)) rfl (kp36))))))))))) (by have := congrArg Int32.toInt (show FI93 111 4 = x91 from up_eq u94); have := (e92 : (x91).toInt = ((x44).toInt) + (1)); omega) (by have := congrArg Int32.toInt (show FI93 111 4 = x91 from up_eq u94); have := (e92 : (x91).toInt = ((x44).toInt) + (1)); have := congrArg Int32.toInt (show FI93 111 8 = x72 from (up_k u94 (by decide) ((up_c u89 (by decide) ((up_c u86 (by decide) ((up_c u79 (by decide) (h73))))))))); have := congrArg Int32.toInt (show FI93 111 9 = x70 from (up_k u94 (by decide) ((up_c u89 (by decide) ((up_c u86 (by decide) ((up_c u79 (by decide) (h71))))))))); omega) (by have := congrArg Int32.toInt (show FI93 111 4 = x91 from up_eq u94); have := (e92 : (x91).toInt = ((x44).toInt) + (1)); have := congrArg Int32.toInt (show FI93 111 9 = x70 from (up_k u94 (by decide) ((up_c u89 (by decide) ((up_c u86 (by decide) ((up_c u79 (by decide) (h71))))))))); omega) (by have := congrArg Int32.toInt (show FI93 111 4 = x91 from up_eq u94); have := (e92 : (x91).toInt = ((x44).toInt) + (1)); have := congrArg Int32.toInt (show FI93 111 6 = r11 from (up_k u94 (by decide) ((up_c u89 (by decide) ((up_c u86 (by decide) ((up_c u79 (by decide) ((gf_at f62 (c111 hS) (shd_f (by decide) (s111 hS)) rfl (kp36))))))))))); omega) (by have := congrArg Int32.toInt (show FI93 111 6 = r11 from (up_k u94 (by decide) ((up_c u89 (by decide) ((up_c u86 (by decide) ((up_c u79 (by decide) ((gf_at f62 (c111 hS) (shd_f (by decide) (s111 hS)) rfl (kp36))))))))))); omega) (by have := congrArg Int32.toInt (show FI93 111 4 = x91 from up_eq u94); have := (e92 : (x91).toInt = ((x44).toInt) + (1)); have := congrArg Int32.toInt (show FI93 111 6 = r11 from (up_k u94 (by decide) ((up_c u89 (by decide) ((up_c u86 (by decide) ((up_c u79 (by decide) ((gf_at f62 (c111 hS) (shd_f (by decide) (s111 hS)) rfl (kp36))))))))))); have := congrArg Int32.toInt (show FI93 111 9 = x70 from (up_k u94 (by decide) ((up_c u89 (by decide) ((up_c u86 (by decide) ((up_c u79 (by decide) (h71))))))))); omega) (show 1 ≤ (FI93 111 4).toInt → FI93 112 ((FI93 111 4).toInt - 1).toNat = FI93 111 9 from (by have := congrArg Int32.toInt (show FI93 111 4 = x91 from up_eq u94); have := (e92 : (x91).toInt = ((x44).toInt) + (1)); exact (fun _ => by have hk : ((FI93 111 4).toInt - 1).toNat = (x44).toNatClampNeg := (by show _ = (x44).toInt.toNat; omega); rw [hk]; exact (show FI93 112 (x44).toNatClampNeg = x70 from (up_c u94 (by decide) ((up_c u89 (by decide) ((up_c u86 (by decide) (up_eq u79))))))).trans (show FI93 111 9 = x70 from (up_k u94 (by decide) ((up_c u89 (by decide) ((up_c u86 (by decide) ((up_c u79 (by decide) (h71))))))))).symm))) (show ∀ i : Nat, (i : Int) < (FI93 111 4).toInt → (FI93 115 i).toInt ≤ (FI93 114 i).toInt + 20 from (by have := congrArg Int32.toInt (show FI93 111 4 = x91 from up_eq u94); have := (e92 : (x91).toInt = ((x44).toInt) + (1)); exact (fun i hi => by { by_cases hik : i = (x44).toNatClampNeg; { subst hik; have q1 := congrArg Int32.toInt (show FI93 115 _ = x72 from (up_c u94 (by decide) (up_eq u89))); have q2 := congrArg Int32.toInt (show FI93 114 _ = x75 from (up_c u94 (by decide) ((up_c u89 (by decide) (up_eq u86))))); omega }; { have e1 : FI93 115 i = FIv31 115 i := (up_c u94 (by decide) ((up_k u89 hik ((up_c u86 (by decide) ((up_c u79 (by decide) ((gf_at f62 (c115 hS) (shd_f (by decide) (s115 hS)) rfl (rfl)))))))))); have e2 : FI93 114 i = FIv31 114 i := (up_c u94 (by decide) ((up_c u89 (by decide) ((up_k u86 hik ((up_c u79 (by decide) ((gf_at f62 (c114 hS) (shd_f (by decide) (s114 hS)) rfl (rfl)))))))))); rw [e1, e2]; refine xi30_1 i ?_; have : i ≠ (x44).toInt.toNat := hik; omega } }))) (by have := congrArg Int32.toInt (show FI93 111 4 = x91 from up_eq u94); have := (e92 : (x91).toInt = ((x44).toInt) + (1)); omega)) ⟨rfl, trivial⟩
  exact hw_L (lp43 ((1001 - 0 : Int).toNat + 1) FI28 FL (gf_f (gf_f (gf_f (gf_f gf_rf u20 (by decide)) u23 (by decide)) u26 (by decide)) u29 (by decide)) gf_rf hI30 (show FI28 111 6 = r11 from (up_k u29 (by decide) ((up_k u26 (by decide) ((up_k u23 (by decide) (up_eq u20))))))) (by have := congrArg Int32.toInt (show FI28 111 4 = (0 : Int32) from (up_k u29 (by decide) (up_eq u26))); have := ((by decide : (0 : Int32).toInt = 0) : ((0 : Int32)).toInt = 0); omega) (by have := congrArg Int32.toInt (show FI28 111 4 = (0 : Int32) from (up_k u29 (by decide) (up_eq u26))); have := ((by decide : (0 : Int32).toInt = 0) : ((0 : Int32)).toInt = 0); have := congrArg Int32.toInt (show FI28 111 8 = (0 : Int32) from (up_k u29 (by decide) ((up_k u26 (by decide) (up_eq u23))))); have := ((by decide : (0 : Int32).toInt = 0) : ((0 : Int32)).toInt = 0); have := congrArg Int32.toInt (show FI28 111 9 = (1 : Int32) from up_eq u29); have := ((by decide : (1 : Int32).toInt = 1) : ((1 : Int32)).toInt = 1); omega) (by have := congrArg Int32.toInt (show FI28 111 4 = (0 : Int32) from (up_k u29 (by decide) (up_eq u26))); have := ((by decide : (0 : Int32).toInt = 0) : ((0 : Int32)).toInt = 0); have := congrArg Int32.toInt (show FI28 111 9 = (1 : Int32) from up_eq u29); have := ((by decide : (1 : Int32).toInt = 1) : ((1 : Int32)).toInt = 1); omega) (by have := congrArg Int32.toInt (show FI28 111 4 = (0 : Int32) from (up_k u29 (by decide) (up_eq u26))); have := ((by decide : (0 : Int32).toInt = 0) : ((0 : Int32)).toInt = 0); have := congrArg Int32.toInt (show FI28 111 6 = r11 from (up_k u29 (by decide) ((up_k u26 (by decide) ((up_k u23 (by decide) (up_eq u20))))))); omega) (by have := congrArg Int32.toInt (show FI28 111 6 = r11 from (up_k u29 (by decide) ((up_k u26 (by decide) ((up_k u23 (by decide) (up_eq u20))))))); omega) (by have := congrArg Int32.toInt (show FI28 111 4 = (0 : Int32) from (up_k u29 (by decide) (up_eq u26))); have := ((by decide : (0 : Int32).toInt = 0) : ((0 : Int32)).toInt = 0); have := congrArg Int32.toInt (show FI28 111 6 = r11 from (up_k u29 (by decide) ((up_k u26 (by decide) ((up_k u23 (by decide) (up_eq u20))))))); have := congrArg Int32.toInt (show FI28 111 9 = (1 : Int32) from up_eq u29); have := ((by decide : (1 : Int32).toInt = 1) : ((1 : Int32)).toInt = 1); omega) (show 1 ≤ (FI28 111 4).toInt → FI28 112 ((FI28 111 4).toInt - 1).toNat = FI28 111 9 from (by have := congrArg Int32.toInt (show FI28 111 4 = (0 : Int32) from (up_k u29 (by decide) (up_eq u26))); have := ((by decide : (0 : Int32).toInt = 0) : ((0 : Int32)).toInt = 0); exact (fun h => absurd h (by omega)))) (show ∀ i : Nat, (i : Int) < (FI28 111 4).toInt → (FI28 115 i).toInt ≤ (FI28 114 i).toInt + 20 from (by have := congrArg Int32.toInt (show FI28 111 4 = (0 : Int32) from (up_k u29 (by decide) (up_eq u26))); have := ((by decide : (0 : Int32).toInt = 0) : ((0 : Int32)).toInt = 0); exact (fun i hi => absurd hi (by omega)))) (by have := congrArg Int32.toInt (show FI28 111 4 = (0 : Int32) from (up_k u29 (by decide) (up_eq u26))); have := ((by decide : (0 : Int32).toInt = 0) : ((0 : Int32)).toInt = 0); omega)) ⟨rfl, trivial⟩
