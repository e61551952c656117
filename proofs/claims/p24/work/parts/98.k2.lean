section
def nX4_readDeclaration : Nat := 0xb15300b63b102a535d00b62a035a00b42c0d00a75600b62c2a0b00a0083300b42a5300b63d102a3000b62a2000b560042000b4592a532c2000b42a1800b42a4d5100b72e2d00b42a4200b40c00b42a2b591600bb5600a74500b606102a0c00a1be1800b42a2000b42a6b00a74500b6072a0b00994d00b62b2a7b00a74500b6042a0b009f073300b42a4c4900b62d00b42a0c00b42a
theorem bX4_readDeclaration : cX4_readDeclaration.data.toList.map UInt8.toNat = x_un nX4_readDeclaration 149 := by decide +kernel
def iX4_readDeclaration : List (Nat × Jvm.ClassFile.Instr × Nat) := [(0, .aload_n 0, 1), (1, .getfield 12, 3), (4, .aload_n 0, 1), (5, .getfield 45, 3), (8, .invokevirtual 73, 3), (11, .astore_n 1, 1), (12, .aload_n 0, 1), (13, .getfield 51, 3), (16, .iconst 4, 1), (17, .if_icmp .eq 11, 3), (20, .aload_n 0, 1), (21, .iconst 1, 1), (22, .invokevirtual 69, 3), (25, .goto 123, 3), (28, .aload_n 0, 1), (29, .aload_n 1, 1), (30, .invokevirtual 77, 3), (33, .ifCond .eq 11, 3), (36, .aload_n 0, 1), (37, .iconst 4, 1), (38, .invokevirtual 69, 3), (41, .goto 107, 3), (44, .aload_n 0, 1), (45, .getfield 32, 3), (48, .aload_n 0, 1), (49, .getfield 24, 3), (52, .arraylength, 1), (53, .if_icmp .lt 12, 3), (56, .aload_n 0, 1), (57, .bipush 6, 2), (59, .invokevirtual 69, 3), (62, .goto 86, 3), (65, .new 22, 3), (68, .dup, 1), (69, .aload_n 1, 1), (70, .aload_n 0, 1), (71, .getfield 12, 3), (74, .getfield 66, 3), (77, .aload_n 0, 1), (78, .getfield 45, 3), (81, .iaload, 1), (82, .invokespecial 81, 3), (85, .astore_n 2, 1), (86, .aload_n 0, 1), (87, .getfield 24, 3), (90, .aload_n 0, 1), (91, .getfield 32, 3), (94, .aload_n 2, 1), (95, .aastore, 1), (96, .aload_n 0, 1), (97, .dup, 1), (98, .getfield 32, 3), (101, .iconst 1, 1), (102, .iadd, 1), (103, .putfield 32, 3), (106, .aload_n 0, 1), (107, .invokevirtual 48, 3), (110, .aload_n 0, 1), (111, .bipush 61, 2), (113, .invokevirtual 83, 3), (116, .aload_n 0, 1), (117, .getfield 51, 3), (120, .iconst 5, 1), (121, .if_icmp .ne 11, 3), (124, .aload_n 0, 1), (125, .aload_n 2, 1), (126, .invokevirtual 86, 3), (129, .goto 13, 3), (132, .aload_n 2, 1), (133, .getfield 90, 3), (136, .iconst 0, 1), (137, .aload_n 0, 1), (138, .invokevirtual 93, 3), (141, .aastore, 1), (142, .aload_n 0, 1), (143, .bipush 59, 2), (145, .invokevirtual 83, 3), (148, .return_, 1)]
theorem dX4_readDeclaration : x_il nX4_readDeclaration 149 iX4_readDeclaration = true := by decide +kernel
theorem aX4_readDeclaration (k : Nat) {pc : Nat} {i : Jvm.ClassFile.Instr} {len : Nat} (hk : iX4_readDeclaration[k]? = some (pc, i, len)) : x_at xMM 42 pc i len yX4_readDeclaration 3 none := ⟨cX4_readDeclaration, rfl, x_il_ok bX4_readDeclaration dX4_readDeclaration k hk⟩
set_option maxHeartbeats 4000000 in
set_option maxRecDepth 100000 in
theorem k_readDecl {sk : xK} {base d n sl : Nat} {SH : Nat → Nat × Nat} {FI : Nat → Nat → Int32} {FL : Nat → Nat → Int64} {FR : Nat → Nat → Option Nat} (hS : h_S n SH) (hF : h_FR FR) (hI : g_I FI) (hR : g_R n SH FR) (gp : Nat → Nat) (gw : Nat → Nat) (gs : Nat → Nat) (lo : Nat) (g0 : 0 ≤ (FI 110 7).toInt ∧ (FI 110 7).toInt < (FI 111 4).toInt) (g1 : (FI 110 5).toInt = 0 ∨ (FI 110 8).toInt = 1) (g2 : (FI 110 7).toInt + 1 < (FI 111 4).toInt ∨ (FI 110 8).toInt ≤ 3) (g3 : (FI 110 5).toInt = 0) (g4 : (FI 110 4).toInt = 0) (gg0 : g_T n SH FI FR gp gw gs) (gg1 : g_K FI) (gg2 : g_PV lo SH FR (FI 110 3).toInt) (gg3 : lo ≤ n) (gg4 : ∀ t, FR 111 5 = some t → (SH t).2 < 2147483648) : hw sk base (d + 145) none 42 0 [(0, .ref (base + 110))] [] (n, sl, SH, FI, FL, FR) (h_V (fun s => ∃ n' sl' SH' FI' FL' FR', s = (n', sl', SH', FI', FL', FR') ∧ g_ex n SH n' SH' ∧ h_S n' SH' ∧ g_I FI' ∧ g_fr n (shd SH) [(110, 3), (110, 4), (110, 5), (110, 6), (110, 7), (110, 8)] [117] [1006, 1010] FI FI' ∧ g_fr n (shd SH) [(110, 9)] [] [1101] FL FL' ∧ g_fr n (shd SH) [] [] [1104, 1105] FR FR' ∧ h_FR FR' ∧ g_R n' SH' FR' ∧ (0 ≤ (FI' 110 7).toInt ∧ (FI' 110 7).toInt < (FI 111 4).toInt) ∧ ((FI' 110 5).toInt = 0 ∨ (FI' 110 8).toInt = 1) ∧ ((FI' 110 7).toInt + 1 < (FI 111 4).toInt ∨ (FI' 110 8).toInt ≤ 3) ∧ ((FI 110 7).toInt ≤ (FI' 110 7).toInt) ∧ ((FI 110 5).toInt = 0 ∨ (FI' 110 5).toInt = (FI 110 5).toInt) ∧ ((FI' 110 5).toInt ≠ 0 ∨ (FI' 110 4).toInt = (FI 110 4).toInt) ∧ ((n' : Int) ≤ n + 17 * ((FI' 110 7).toInt - (FI 110 7).toInt) + 15) ∧ ((sl' : Int) ≤ sl + 7 * ((n' : Int) - n) + ((FI' 110 7).toInt - (FI 110 7).toInt) + 60) ∧ ((n : Int) ≤ n') ∧ (∃ gp2 gw2 gs2, g_T n' SH' FI' FR' gp2 gw2 gs2 ∧ (∀ c, c < n → gp2 c = gp c ∧ gw2 c = gw c ∧ gs2 c = gs c) ∧ True) ∧ (g_PV lo SH' FR' (FI' 110 3).toInt) ∧ (∀ c9 k9, c9 < lo → (SH c9).1 = 104 → 176 ≤ c9 → FR' c9 k9 = FR c9 k9))) := by
  have hk0 : ∀ c, c < n → gp c = gp c ∧ gw c = gw c ∧ gs c = gs c := fun _ _ => ⟨rfl, rfl, rfl⟩
  obtain ⟨x1, h2⟩ : ∃ y, FI 110 7 = y := ⟨_, rfl⟩
  have h2l := congrArg Int32.toInt h2
  have b3 := gI_110_7 hI; rw [h2] at b3
  obtain ⟨x4, h5⟩ : ∃ y, FI 111 4 = y := ⟨_, rfl⟩
  have h5l := congrArg Int32.toInt h5
  have b6 := gI_111_4 hI; rw [h5] at b6
  obtain ⟨x7, h8⟩ : ∃ y, FI 110 5 = y := ⟨_, rfl⟩
  have h8l := congrArg Int32.toInt h8
  have := i_rng x7
  obtain ⟨x9, h10⟩ : ∃ y, FI 110 8 = y := ⟨_, rfl⟩
  have h10l := congrArg Int32.toInt h10
  have := i_rng x9
  obtain ⟨x11, h12⟩ : ∃ y, FI 110 4 = y := ⟨_, rfl⟩
  have h12l := congrArg Int32.toInt h12
  have := i_rng x11
  obtain ⟨x13, h14⟩ : ∃ y, FI 110 3 = y := ⟨_, rfl⟩
  have h14l := congrArg Int32.toInt h14
  have b15 := gI_110_3 hI; rw [h14] at b15
  obtain ⟨pv, h16, h17, h18, h19, h20⟩ := gg2
  obtain ⟨lt22, ow23, sh24⟩ := gR_get hR (c110 hS) (Or.inl (by decide)) (s110 hS) h16
  have g_lo : lo ≤ n := gg3
  refine hw_aloadn (aX4_readDeclaration 0 rfl) rfl ?_
  refine hw_get (v := .ref (base + 111)) (aX4_readDeclaration 1 rfl) wf_RX4_12 (c110 hS) (s110 hS) (by decide) (congrArg (fun r => va_rf (h_rf base r)) (r110_0 hF)) ?_
  refine hw_aloadn (aX4_readDeclaration 2 rfl) rfl ?_
  refine hw_get (v := .int (x1)) (aX4_readDeclaration 3 rfl) wf_RX4_45 (c110 hS) (s110 hS) (by decide) (congrArg Value.int (show FI 110 7 = x1 from h2)) ?_
  refine hw_callV (Bs := [.int (x1)]) (rest := []) (aX4_readDeclaration 4 rfl) wc_RX4_73 (by decide) rfl wi_yX7_letters wv_yX7_letters (c111 hS) (s111 hS) rfl rfl rfl (Nat.le_of_ble_eq_true rfl) (Nat.le_of_ble_eq_true rfl) (k_X7_letters (d := d + 141) hS hF hI hR (x1) (gK_mx (L := [(110, 3), (110, 4), (110, 5), (110, 6), (110, 7), (110, 8)]) (A := [117]) (T := [1006, 1010]) hS gg1 gf_rf (by decide)) (gg4)) (fun v25 sv26 p27 => ?_)
  obtain ⟨r28, rfl, n42, sl43, SH44, FI29, FL30, FR31, rfl, ex45, hS46, hI32, f33, f34, f35, hF36, hR37, t38, t39, ht40, nn41, hfr47⟩ := p27
  have lt48 := ex_lt ex45 lt22
  have sh49 := ex_sh ex45 lt22 h17
  obtain ⟨r50, rfl⟩ : ∃ q, r28 = some q := Option.ne_none_iff_exists'.mp nn41
  have fq51 := hfr47 r50 rfl
  have dq52 : 176 ≤ r50 := Nat.le_trans hS.1 fq51
  obtain ⟨lt54, ow55, sh56⟩ := ht40 r50 rfl
  have hT57 : g_T n42 SH44 FI29 FR31 gp gw gs := gT_ar (L := []) (A := []) (T := []) (L2 := []) (A2 := []) (T2 := []) hS hR gg0 (by omega) ex45 (by rw [show n = r50 by omega]; exact sh56) f33 f35 (by decide) (by decide)
  show hw sk base _ _ _ _ _ [.ref (base + r50)] _ _
  refine hw_astoren (L2 := [(1, .ref (base + r50)), (0, .ref (base + 110))]) (aX4_readDeclaration 5 rfl) (by decide) rfl ?_
  refine hw_aloadn (aX4_readDeclaration 6 rfl) rfl ?_
  refine hw_get (v := .int (x9)) (aX4_readDeclaration 7 rfl) wf_RX4_51 (c110 hS46) (s110 hS46) (by decide) (congrArg Value.int (show FI29 110 8 = x9 from (gf_at f33 (c110 hS) (shd_f (by decide) (s110 hS)) rfl (h10)))) ?_
  refine hw_ic (v := (4 : Int32)) (aX4_readDeclaration 8 rfl) (by decide) ?_
  refine hw_iceq (tgt := 28) (aX4_readDeclaration 9 rfl) (by decide) rfl (by decide : (4 : Int32).toInt = 4) (fun cd58 => ?_) (fun cd58 => ?_)
  · refine hw_aloadn (aX4_readDeclaration 14 rfl) rfl ?_
    refine hw_aloadn (aX4_readDeclaration 15 rfl) rfl ?_
    refine hw_callV (Bs := [.ref (base + r50)]) (rest := []) (aX4_readDeclaration 16 rfl) wc_RX4_77 (by decide) rfl wi_yX4_isKnown wv_yX4_isKnown (c110 hS46) (s110 hS46) rfl rfl rfl (Nat.le_of_ble_eq_true rfl) (Nat.le_of_ble_eq_true rfl) (k_X4_isKnown (d := d + 143) hS46 hF36 hI32 hR37 (r50) lt54 sh56 ow55 (lo) ((show g_PV lo SH44 FR31 (FI29 110 3).toInt from ⟨pv, (show FR31 110 2 = some pv from (gf_at f35 (c110 hS) (shd_f (by decide) (s110 hS)) rfl (h16))), sh49, h18, h19, fun i hi => by have := congrArg Int32.toInt (show FI29 110 3 = x13 from (gf_at f33 (c110 hS) (shd_f (by decide) (s110 hS)) rfl (h14))); have hik : True := trivial;  obtain ⟨v, e1, e2, e3, e4⟩ := h20 i (by omega); have hv := gR_get hR lt22 ow23 h17 e1; exact ⟨v, (show FR31 pv i = FR pv i from (gf_at f35 lt22 (shd_d h18 h17) rfl (rfl))).trans e1, e2, e3, gV_gr hR hv.1 hv.2.1 ex45 (fun k => g_low_at (L := []) (A := []) (T := [1104, 1105]) (ts := [1010]) (t := 1010) (gf_tr ex_rf gf_rf f35 rfl rfl rfl) (by decide) hv.1 e3 (show (SH v).1 + 1000 = 1010 from congrArg (fun p : Nat × Nat => p.1 + 1000) hv.2.2) (by decide)) e4⟩ ⟩))) (fun v59 sv60 p61 => ?_)
    obtain ⟨r62, rfl, rfl, t66⟩ := p61
    show hw sk base _ _ _ _ _ [.int (r62)] _ _
    refine hw_ifeq (tgt := 44) (aX4_readDeclaration 17 rfl) (by decide) rfl (fun cd69 => ?_) (fun cd69 => ?_)
    · refine hw_aloadn (aX4_readDeclaration 22 rfl) rfl ?_
      refine hw_get (v := .int (x13)) (aX4_readDeclaration 23 rfl) wf_RX4_32 (c110 hS46) (s110 hS46) (by decide) (congrArg Value.int (show FI29 110 3 = x13 from (gf_at f33 (c110 hS) (shd_f (by decide) (s110 hS)) rfl (h14)))) ?_
      refine hw_aloadn (aX4_readDeclaration 24 rfl) rfl ?_
      refine hw_get (v := .ref (base + pv)) (aX4_readDeclaration 25 rfl) wf_RX4_24 (c110 hS46) (s110 hS46) (by decide) (congrArg (fun r => va_rf (h_rf base r)) (show FR31 110 2 = some pv from (gf_at f35 (c110 hS) (shd_f (by decide) (s110 hS)) rfl (h16)))) ?_
      refine hw_alen (k := 4) (z := 12) (v := (12 : Int32)) (aX4_readDeclaration 26 rfl) lt48 sh49 (by decide) (by decide) ?_
      refine hw_iclt (tgt := 65) (aX4_readDeclaration 27 rfl) (by decide) rfl (by decide : (12 : Int32).toInt = 12) (fun cd70 => ?_) (fun cd70 => ?_)
      · refine hv_new (t := 10) hS46 hF36 hI32 hR37 (by unfold g_dt; omega) (aX4_readDeclaration 32 rfl) rfl (tin_2 (i := 52) rfl rfl) (tin_1 (i := 19) rfl rfl) (fun n71 sl72 SH73 FI74 FL75 FR76 hsl77 nw78 => ?_)
        obtain ⟨hn79, ex80, hS81, hF82, hI83, hR84, lt85, sh86, dy87, eI88, eL89, eR90, zI91, zL92, zR93⟩ := nw78
        have lt94 := ex_lt ex80 lt48
        have sh95 := ex_sh ex80 lt48 sh49
        have lt96 := ex_lt ex80 lt54
        have sh97 := ex_sh ex80 lt54 sh56
        have ex98 := ex_tr ex45 ex80
        obtain ⟨gp99, hg100⟩ : ∃ f, f = va_up gp n42 (0) := ⟨_, rfl⟩
        have : gp99 n42 = 0 := by rw [hg100]; exact va_s
        obtain ⟨gw101, hg102⟩ : ∃ f, f = va_up gw n42 (0) := ⟨_, rfl⟩
        have : gw101 n42 = 0 := by rw [hg102]; exact va_s
        obtain ⟨gs103, hg104⟩ : ∃ f, f = va_up gs n42 (0) := ⟨_, rfl⟩
        have : gs103 n42 = 0 := by rw [hg104]; exact va_s
        have hk105 : ∀ c, c < n → gp99 c = gp c ∧ gw101 c = gw c ∧ gs103 c = gs c := fun c hc => by
          obtain ⟨k1, k2, k3⟩ := hk0 c hc
          exact ⟨by rw [hg100]; exact (va_o (show c ≠ n42 from Nat.ne_of_lt (Nat.lt_of_lt_of_le hc (ex45).1))).trans k1, by rw [hg102]; exact (va_o (show c ≠ n42 from Nat.ne_of_lt (Nat.lt_of_lt_of_le hc (ex45).1))).trans k2, by rw [hg104]; exact (va_o (show c ≠ n42 from Nat.ne_of_lt (Nat.lt_of_lt_of_le hc (ex45).1))).trans k3⟩
        have hT106 : g_T n71 SH73 FI74 FR76 gp99 gw101 gs103 := by rw [hg100, hg102, hg104]; exact gT_mk hS46 hR37 hT57 hn79 ex80 sh86 (by decide) (fun c hc => eI88 c 0 (Nat.ne_of_lt hc)) (fun c k hc => eR90 c k (Nat.ne_of_lt hc)) zR93
        refine xw_dup (aX4_readDeclaration 33 rfl) rfl ?_
        refine hw_aloadn (aX4_readDeclaration 34 rfl) rfl ?_
        refine hw_aloadn (aX4_readDeclaration 35 rfl) rfl ?_
        refine hw_get (v := .ref (base + 111)) (aX4_readDeclaration 36 rfl) wf_RX4_12 (c110 hS81) (s110 hS81) (by decide) (congrArg (fun r => va_rf (h_rf base r)) (r110_0 hF82)) ?_
        refine hw_get (v := .ref (base + 114)) (aX4_readDeclaration 37 rfl) wf_RX4_66 (c111 hS81) (s111 hS81) (by decide) (congrArg (fun r => va_rf (h_rf base r)) (r111_2 hF82)) ?_
        refine hw_aloadn (aX4_readDeclaration 38 rfl) rfl ?_
        refine hw_get (v := .int (x1)) (aX4_readDeclaration 39 rfl) wf_RX4_45 (c110 hS81) (s110 hS81) (by decide) (congrArg Value.int (show FI74 110 7 = x1 from ((eI88 110 (7) (Nat.ne_of_lt (c110 hS46))).trans ((gf_at f33 (c110 hS) (shd_f (by decide) (s110 hS)) rfl (h2)))))) ?_
        obtain ⟨x107, h108⟩ : ∃ y, FI74 114 (x1).toNatClampNeg = y := ⟨_, rfl⟩
        have h108l := congrArg Int32.toInt h108
        have := i_rng x107
        refine hw_iald (v := x107) (aX4_readDeclaration 40 rfl) (c114 hS81) (s114 hS81) (h_in rfl (by omega) (by omega)) (show FI74 114 (x1).toNatClampNeg = x107 from h108) ?_
        have b109 := gI_114 hI83 (i_lt (x := x1) rfl (by omega) (by omega)); rw [h108] at b109
        refine hw_callN (Bs := [.ref (base + r50), .int (x107)]) (rest := [.ref (base + n42)]) (aX4_readDeclaration 41 rfl) wc_RX4_81 (by decide) rfl wi_yX10_init rfl rfl rfl (Nat.le_of_ble_eq_true rfl) (Nat.le_of_ble_eq_true rfl) (k_Vinit2 (d := d + 143) hS81 hF82 hI83 hR84 (n42) lt85 sh86 (Or.inr dy87) dy87 (r50) lt96 sh97 ow55 (x107) (dq52)) (fun v110 sv111 p112 => ?_)
        obtain ⟨rfl, n130, sl131, SH132, FI114, FL115, FR116, rfl, ex133, hS134, hI117, f118, f119, f120, hF121, hR122, t123, t124, u125, u126, u127⟩ := p112
        have hT135 : g_T n130 SH132 FI114 FR116 gp99 gw101 gs103 := gT_ex hS81 hR84 hT106 ex133 u127 (fun c hc hs => f118 c 0 (by have : c ≠ n42 := (fun e => by rw [e, sh86] at hs; cases hs); omega) (by simp) (by simp) (by simp)) (fun c k hc hs => f120 c k (by have : c ≠ n42 := (fun e => by rw [e, sh86] at hs; rcases hs with hs | hs <;> cases hs); omega) (by simp) (by simp) (by simp))
        have lt136 := ex_lt ex133 lt85
        have sh137 := ex_sh ex133 lt85 sh86
        have lt138 := ex_lt ex133 lt94
        have sh139 := ex_sh ex133 lt94 sh95
        have lt140 := ex_lt ex133 lt96
        have sh141 := ex_sh ex133 lt96 sh97
        have ex142 := ex_tr ex98 ex133
        show hw sk base _ _ _ _ _ [.ref (base + n42)] _ _
        refine hw_astoren (L2 := [(2, .ref (base + n42)), (1, .ref (base + r50)), (0, .ref (base + 110))]) (aX4_readDeclaration 42 rfl) (by decide) rfl ?_
        obtain ⟨⟨r143, h147, hz151⟩, ⟨r144, h148, hz152⟩, ⟨r145, h149, hz153⟩, ⟨r146, h150⟩⟩ := u125
        obtain ⟨lt155, ow156, sh157⟩ := gR_get hR122 lt136 (Or.inr dy87) sh137 h147
        have dy158 := gR_dyn hR122 lt136 (dyn_tag hS134 sh137 (by decide +kernel)) h147
        obtain ⟨lt159, ow160, sh161⟩ := gR_get hR122 lt136 (Or.inr dy87) sh137 h148
        have dy162 := gR_dyn hR122 lt136 (dyn_tag hS134 sh137 (by decide +kernel)) h148
        obtain ⟨lt163, ow164, sh165⟩ := gR_get hR122 lt136 (Or.inr dy87) sh137 h149
        have dy166 := gR_dyn hR122 lt136 (dyn_tag hS134 sh137 (by decide +kernel)) h149
        obtain ⟨lt167, ow168, sh169⟩ := gR_get hR122 lt136 (Or.inr dy87) sh137 h150
        have dy170 := gR_dyn hR122 lt136 (dyn_tag hS134 sh137 (by decide +kernel)) h150
        refine hw_aloadn (aX4_readDeclaration 43 rfl) rfl ?_
        refine hw_get (v := .ref (base + pv)) (aX4_readDeclaration 44 rfl) wf_RX4_24 (c110 hS134) (s110 hS134) (by decide) (congrArg (fun r => va_rf (h_rf base r)) (show FR116 110 2 = some pv from ((f120 110 (2) (Nat.lt_of_lt_of_le (by decide : 110 < 176) dy87) (by simp) (by simp) (by simp)).trans (((eR90 110 (2) (Nat.ne_of_lt (c110 hS46))).trans ((gf_at f35 (c110 hS) (shd_f (by decide) (s110 hS)) rfl (h16)))))))) ?_
        refine hw_aloadn (aX4_readDeclaration 45 rfl) rfl ?_
        refine hw_get (v := .int (x13)) (aX4_readDeclaration 46 rfl) wf_RX4_32 (c110 hS134) (s110 hS134) (by decide) (congrArg Value.int (show FI114 110 3 = x13 from ((f118 110 (3) (Nat.lt_of_lt_of_le (by decide : 110 < 176) dy87) (by simp) (by simp) (by simp)).trans (((eI88 110 (3) (Nat.ne_of_lt (c110 hS46))).trans ((gf_at f33 (c110 hS) (shd_f (by decide) (s110 hS)) rfl (h14)))))))) ?_
        refine hw_aloadn (aX4_readDeclaration 47 rfl) rfl ?_
        refine hv_aast (k := 4) (i2 := (x13).toNatClampNeg) (aX4_readDeclaration 48 rfl) lt138 sh139 rfl (by decide) lt136 sh137 rfl (h_in rfl (by omega) (by omega)) rfl (fun FR171 u172 => ?_)
        have hT173 : g_T n130 SH132 FI114 FR171 gp99 gw101 gs103 := gT_wo hT135 (by rw [sh139]; decide) (by rw [sh139]; decide) u172
        have hF174 : h_FR FR171 := hF_ua hS134 hF121 u172 sh139 (by decide +kernel)
        have hR175 : g_R n130 SH132 FR171 := gR_up hR122 u172 sh139 (fun r e => by cases e; exact ⟨lt136, (Or.inr dy87), by rw [sh137]; rfl⟩) (fun _ r e => by cases e; exact (dyn_tag hS134 sh137 (by decide +kernel))) (fun _ => by simp) (fun h => absurd h.1 (ne_tag sh139 (s49 hS134) (by decide)))
        refine hw_aloadn (aX4_readDeclaration 49 rfl) rfl ?_
        refine xw_dup (aX4_readDeclaration 50 rfl) rfl ?_
        refine hw_get (v := .int (x13)) (aX4_readDeclaration 51 rfl) wf_RX4_32 (c110 hS134) (s110 hS134) (by decide) (congrArg Value.int (show FI114 110 3 = x13 from ((f118 110 (3) (Nat.lt_of_lt_of_le (by decide : 110 < 176) dy87) (by simp) (by simp) (by simp)).trans (((eI88 110 (3) (Nat.ne_of_lt (c110 hS46))).trans ((gf_at f33 (c110 hS) (shd_f (by decide) (s110 hS)) rfl (h14)))))))) ?_
        refine hw_ic (v := (1 : Int32)) (aX4_readDeclaration 52 rfl) (by decide) ?_
        refine xw_iadd (aX4_readDeclaration 53 rfl) ?_
        refine hw_tie (A := ((x13).toInt) + (1)) (i_add rfl (by decide : (1 : Int32).toInt = 1) (by omega) (by omega)) (fun x176 e177 => ?_)
        refine hv_puti (aX4_readDeclaration 54 rfl) wf_RX4_32 (c110 hS134) (s110 hS134) (by decide) rfl rfl (fun FI178 u179 => ?_)
        have hT180 : g_T n130 SH132 FI178 FR171 gp99 gw101 gs103 := gT_wi hT173 (fun h => absurd h (by rw [(s110 hS134)]; decide)) u179
        have hI181 : g_I FI178 := gU_110_3 hI117 u179 (by have := (e177 : (x176).toInt = ((x13).toInt) + (1)); omega) (by have := (e177 : (x176).toInt = ((x13).toInt) + (1)); omega)
        have : (x7).toInt = 0 := by omega
        refine hw_aloadn (aX4_readDeclaration 55 rfl) rfl ?_
        refine hw_callV (Bs := []) (rest := []) (aX4_readDeclaration 56 rfl) wc_RX4_48 (by decide) rfl wi_yX4_take wv_yX4_take (c110 hS134) (s110 hS134) rfl rfl rfl (Nat.le_of_ble_eq_true rfl) (Nat.le_of_ble_eq_true rfl) (k_take2 (d := d + 144) hS134 hF174 hI181 hR175 (by have := congrArg Int32.toInt (show FI178 110 7 = x1 from (up_k u179 (by decide) (((f118 110 (7) (Nat.lt_of_lt_of_le (by decide : 110 < 176) dy87) (by simp) (by simp) (by simp)).trans (((eI88 110 (7) (Nat.ne_of_lt (c110 hS46))).trans ((gf_at f33 (c110 hS) (shd_f (by decide) (s110 hS)) rfl (h2))))))))); have := congrArg Int32.toInt (show FI178 110 7 = x1 from (up_k u179 (by decide) (((f118 110 (7) (Nat.lt_of_lt_of_le (by decide : 110 < 176) dy87) (by simp) (by simp) (by simp)).trans (((eI88 110 (7) (Nat.ne_of_lt (c110 hS46))).trans ((gf_at f33 (c110 hS) (shd_f (by decide) (s110 hS)) rfl (h2))))))))); have := congrArg Int32.toInt (show FI178 111 4 = x4 from (up_c u179 (by decide) (((f118 111 (4) (Nat.lt_of_lt_of_le (by decide : 111 < 176) dy87) (by simp) (by simp) (by simp)).trans (((eI88 111 (4) (Nat.ne_of_lt (c111 hS46))).trans ((gf_at f33 (c111 hS) (shd_f (by decide) (s111 hS)) rfl (h5))))))))); omega) (by have := congrArg Int32.toInt (show FI178 110 5 = x7 from (up_k u179 (by decide) (((f118 110 (5) (Nat.lt_of_lt_of_le (by decide : 110 < 176) dy87) (by simp) (by simp) (by simp)).trans (((eI88 110 (5) (Nat.ne_of_lt (c110 hS46))).trans ((gf_at f33 (c110 hS) (shd_f (by decide) (s110 hS)) rfl (h8))))))))); have := congrArg Int32.toInt (show FI178 110 8 = x9 from (up_k u179 (by decide) (((f118 110 (8) (Nat.lt_of_lt_of_le (by decide : 110 < 176) dy87) (by simp) (by simp) (by simp)).trans (((eI88 110 (8) (Nat.ne_of_lt (c110 hS46))).trans ((gf_at f33 (c110 hS) (shd_f (by decide) (s110 hS)) rfl (h10))))))))); omega) (by have := congrArg Int32.toInt (show FI178 110 7 = x1 from (up_k u179 (by decide) (((f118 110 (7) (Nat.lt_of_lt_of_le (by decide : 110 < 176) dy87) (by simp) (by simp) (by simp)).trans (((eI88 110 (7) (Nat.ne_of_lt (c110 hS46))).trans ((gf_at f33 (c110 hS) (shd_f (by decide) (s110 hS)) rfl (h2))))))))); have := congrArg Int32.toInt (show FI178 111 4 = x4 from (up_c u179 (by decide) (((f118 111 (4) (Nat.lt_of_lt_of_le (by decide : 111 < 176) dy87) (by simp) (by simp) (by simp)).trans (((eI88 111 (4) (Nat.ne_of_lt (c111 hS46))).trans ((gf_at f33 (c111 hS) (shd_f (by decide) (s111 hS)) rfl (h5))))))))); have := congrArg Int32.toInt (show FI178 110 8 = x9 from (up_k u179 (by decide) (((f118 110 (8) (Nat.lt_of_lt_of_le (by decide : 110 < 176) dy87) (by simp) (by simp) (by simp)).trans (((eI88 110 (8) (Nat.ne_of_lt (c110 hS46))).trans ((gf_at f33 (c110 hS) (shd_f (by decide) (s110 hS)) rfl (h10))))))))); omega) (gK_mx (L := [(110, 3), (110, 4), (110, 5), (110, 6), (110, 7), (110, 8)]) (A := [117]) (T := [1006, 1010]) hS gg1 (gf_f (gf_tr ⟨(ex45).1, ((ex_shd ex98)).2⟩ (gf_al (gf_tr ex_rf gf_rf f33 rfl rfl rfl) (ex45).1 eI88) f118 rfl rfl rfl) u179 (by decide)) (by decide))) (fun v182 sv183 p184 => ?_)
        have := congrArg Int32.toInt (show FI178 111 4 = x4 from (up_c u179 (by decide) (((f118 111 (4) (Nat.lt_of_lt_of_le (by decide : 111 < 176) dy87) (by simp) (by simp) (by simp)).trans (((eI88 111 (4) (Nat.ne_of_lt (c111 hS46))).trans ((gf_at f33 (c111 hS) (shd_f (by decide) (s111 hS)) rfl (h5)))))))))
        have := congrArg Int32.toInt (show FI178 111 4 = x4 from (up_c u179 (by decide) (((f118 111 (4) (Nat.lt_of_lt_of_le (by decide : 111 < 176) dy87) (by simp) (by simp) (by simp)).trans (((eI88 111 (4) (Nat.ne_of_lt (c111 hS46))).trans ((gf_at f33 (c111 hS) (shd_f (by decide) (s111 hS)) rfl (h5)))))))))
        have := congrArg Int32.toInt (show FI178 110 7 = x1 from (up_k u179 (by decide) (((f118 110 (7) (Nat.lt_of_lt_of_le (by decide : 110 < 176) dy87) (by simp) (by simp) (by simp)).trans (((eI88 110 (7) (Nat.ne_of_lt (c110 hS46))).trans ((gf_at f33 (c110 hS) (shd_f (by decide) (s110 hS)) rfl (h2)))))))))
        have := congrArg Int32.toInt (show FI178 110 5 = x7 from (up_k u179 (by decide) (((f118 110 (5) (Nat.lt_of_lt_of_le (by decide : 110 < 176) dy87) (by simp) (by simp) (by simp)).trans (((eI88 110 (5) (Nat.ne_of_lt (c110 hS46))).trans ((gf_at f33 (c110 hS) (shd_f (by decide) (s110 hS)) rfl (h8)))))))))
        have := congrArg Int32.toInt (show FI178 110 5 = x7 from (up_k u179 (by decide) (((f118 110 (5) (Nat.lt_of_lt_of_le (by decide : 110 < 176) dy87) (by simp) (by simp) (by simp)).trans (((eI88 110 (5) (Nat.ne_of_lt (c110 hS46))).trans ((gf_at f33 (c110 hS) (shd_f (by decide) (s110 hS)) rfl (h8)))))))))
        have := congrArg Int32.toInt (show FI178 110 5 = x7 from (up_k u179 (by decide) (((f118 110 (5) (Nat.lt_of_lt_of_le (by decide : 110 < 176) dy87) (by simp) (by simp) (by simp)).trans (((eI88 110 (5) (Nat.ne_of_lt (c110 hS46))).trans ((gf_at f33 (c110 hS) (shd_f (by decide) (s110 hS)) rfl (h8)))))))))
        have := congrArg Int32.toInt (show FI178 110 5 = x7 from (up_k u179 (by decide) (((f118 110 (5) (Nat.lt_of_lt_of_le (by decide : 110 < 176) dy87) (by simp) (by simp) (by simp)).trans (((eI88 110 (5) (Nat.ne_of_lt (c110 hS46))).trans ((gf_at f33 (c110 hS) (shd_f (by decide) (s110 hS)) rfl (h8)))))))))
        have := congrArg Int32.toInt (show FI178 110 7 = x1 from (up_k u179 (by decide) (((f118 110 (7) (Nat.lt_of_lt_of_le (by decide : 110 < 176) dy87) (by simp) (by simp) (by simp)).trans (((eI88 110 (7) (Nat.ne_of_lt (c110 hS46))).trans ((gf_at f33 (c110 hS) (shd_f (by decide) (s110 hS)) rfl (h2)))))))))
        have := congrArg Int32.toInt (show FI178 111 4 = x4 from (up_c u179 (by decide) (((f118 111 (4) (Nat.lt_of_lt_of_le (by decide : 111 < 176) dy87) (by simp) (by simp) (by simp)).trans (((eI88 111 (4) (Nat.ne_of_lt (c111 hS46))).trans ((gf_at f33 (c111 hS) (shd_f (by decide) (s111 hS)) rfl (h5)))))))))
        have := congrArg Int32.toInt (show FI178 110 7 = x1 from (up_k u179 (by decide) (((f118 110 (7) (Nat.lt_of_lt_of_le (by decide : 110 < 176) dy87) (by simp) (by simp) (by simp)).trans (((eI88 110 (7) (Nat.ne_of_lt (c110 hS46))).trans ((gf_at f33 (c110 hS) (shd_f (by decide) (s110 hS)) rfl (h2)))))))))
        have := congrArg Int32.toInt (show FI178 110 7 = x1 from (up_k u179 (by decide) (((f118 110 (7) (Nat.lt_of_lt_of_le (by decide : 110 < 176) dy87) (by simp) (by simp) (by simp)).trans (((eI88 110 (7) (Nat.ne_of_lt (c110 hS46))).trans ((gf_at f33 (c110 hS) (shd_f (by decide) (s110 hS)) rfl (h2)))))))))
        have := congrArg Int32.toInt (show FI178 110 5 = x7 from (up_k u179 (by decide) (((f118 110 (5) (Nat.lt_of_lt_of_le (by decide : 110 < 176) dy87) (by simp) (by simp) (by simp)).trans (((eI88 110 (5) (Nat.ne_of_lt (c110 hS46))).trans ((gf_at f33 (c110 hS) (shd_f (by decide) (s110 hS)) rfl (h8)))))))))
        have := congrArg Int32.toInt (show FI178 110 8 = x9 from (up_k u179 (by decide) (((f118 110 (8) (Nat.lt_of_lt_of_le (by decide : 110 < 176) dy87) (by simp) (by simp) (by simp)).trans (((eI88 110 (8) (Nat.ne_of_lt (c110 hS46))).trans ((gf_at f33 (c110 hS) (shd_f (by decide) (s110 hS)) rfl (h10)))))))))
        obtain ⟨rfl, FI186, FL187, rfl, hI188, f189, f190, t193, t194, t195, t196, t197, t198, t199, t200, t201⟩ := p184
        replace t199 := (t199.resolve_left (by omega)).resolve_left (by omega)
        clear t201
        have hT204 : g_T n130 SH132 FI186 FR171 gp99 gw101 gs103 := gT_mw (L := [(110, 7), (110, 8)]) (A := []) (T := []) (L2 := []) (A2 := []) (T2 := []) hS134 hT180 f189 gf_rf (by decide) (by decide)
        obtain ⟨x205, h206⟩ : ∃ y, FI186 110 7 = y := ⟨_, rfl⟩
        have h206l := congrArg Int32.toInt h206
        have b207 := gI_110_7 hI188; rw [h206] at b207
        obtain ⟨x208, h209⟩ : ∃ y, FI186 110 8 = y := ⟨_, rfl⟩
        have h209l := congrArg Int32.toInt h209
        have := i_rng x208
        show hw sk base _ _ _ _ _ [] _ _
        refine hw_aloadn (aX4_readDeclaration 57 rfl) rfl ?_
        refine hw_bp (v := (61 : Int32)) (aX4_readDeclaration 58 rfl) (by decide) ?_
        refine hw_callV (Bs := [.int ((61 : Int32))]) (rest := []) (aX4_readDeclaration 59 rfl) wc_RX4_83 (by decide) rfl wi_yX4_expect wv_yX4_expect (c110 hS134) (s110 hS134) rfl rfl rfl (Nat.le_of_ble_eq_true rfl) (Nat.le_of_ble_eq_true rfl) (k_expect2 (d := d + 143) hS134 hF174 hI188 hR175 ((61 : Int32)) (by have := congrArg Int32.toInt (show FI186 110 7 = x205 from h206); have := congrArg Int32.toInt (show FI186 110 7 = x205 from h206); have := congrArg Int32.toInt (show FI186 111 4 = x4 from (gf_at f189 (c111 hS134) (shd_f (by decide) (s111 hS134)) rfl ((up_c u179 (by decide) (((f118 111 (4) (Nat.lt_of_lt_of_le (by decide : 111 < 176) dy87) (by simp) (by simp) (by simp)).trans (((eI88 111 (4) (Nat.ne_of_lt (c111 hS46))).trans ((gf_at f33 (c111 hS) (shd_f (by decide) (s111 hS)) rfl (h5))))))))))); omega) (by have := congrArg Int32.toInt (show FI186 110 5 = x7 from (gf_at f189 (c110 hS134) (shd_f (by decide) (s110 hS134)) rfl ((up_k u179 (by decide) (((f118 110 (5) (Nat.lt_of_lt_of_le (by decide : 110 < 176) dy87) (by simp) (by simp) (by simp)).trans (((eI88 110 (5) (Nat.ne_of_lt (c110 hS46))).trans ((gf_at f33 (c110 hS) (shd_f (by decide) (s110 hS)) rfl (h8))))))))))); have := congrArg Int32.toInt (show FI186 110 8 = x208 from h209); omega) (by have := congrArg Int32.toInt (show FI186 110 7 = x205 from h206); have := congrArg Int32.toInt (show FI186 111 4 = x4 from (gf_at f189 (c111 hS134) (shd_f (by decide) (s111 hS134)) rfl ((up_c u179 (by decide) (((f118 111 (4) (Nat.lt_of_lt_of_le (by decide : 111 < 176) dy87) (by simp) (by simp) (by simp)).trans (((eI88 111 (4) (Nat.ne_of_lt (c111 hS46))).trans ((gf_at f33 (c111 hS) (shd_f (by decide) (s111 hS)) rfl (h5))))))))))); have := congrArg Int32.toInt (show FI186 110 8 = x208 from h209); omega) (gK_mx (L := [(110, 3), (110, 4), (110, 5), (110, 6), (110, 7), (110, 8)]) (A := [117]) (T := [1006, 1010]) hS gg1 (gf_tr (ex_shd ex142) (gf_f (gf_tr ⟨(ex45).1, ((ex_shd ex98)).2⟩ (gf_al (gf_tr ex_rf gf_rf f33 rfl rfl rfl) (ex45).1 eI88) f118 rfl rfl rfl) u179 (by decide)) f189 rfl rfl rfl) (by decide))) (fun v210 sv211 p212 => ?_)
        have := congrArg Int32.toInt (show FI186 111 4 = x4 from (gf_at f189 (c111 hS134) (shd_f (by decide) (s111 hS134)) rfl ((up_c u179 (by decide) (((f118 111 (4) (Nat.lt_of_lt_of_le (by decide : 111 < 176) dy87) (by simp) (by simp) (by simp)).trans (((eI88 111 (4) (Nat.ne_of_lt (c111 hS46))).trans ((gf_at f33 (c111 hS) (shd_f (by decide) (s111 hS)) rfl (h5)))))))))))
        have := congrArg Int32.toInt (show FI186 111 4 = x4 from (gf_at f189 (c111 hS134) (shd_f (by decide) (s111 hS134)) rfl ((up_c u179 (by decide) (((f118 111 (4) (Nat.lt_of_lt_of_le (by decide : 111 < 176) dy87) (by simp) (by simp) (by simp)).trans (((eI88 111 (4) (Nat.ne_of_lt (c111 hS46))).trans ((gf_at f33 (c111 hS) (shd_f (by decide) (s111 hS)) rfl (h5)))))))))))
        have := congrArg Int32.toInt (show FI186 110 7 = x205 from h206)
        have := congrArg Int32.toInt (show FI186 110 5 = x7 from (gf_at f189 (c110 hS134) (shd_f (by decide) (s110 hS134)) rfl ((up_k u179 (by decide) (((f118 110 (5) (Nat.lt_of_lt_of_le (by decide : 110 < 176) dy87) (by simp) (by simp) (by simp)).trans (((eI88 110 (5) (Nat.ne_of_lt (c110 hS46))).trans ((gf_at f33 (c110 hS) (shd_f (by decide) (s110 hS)) rfl (h8)))))))))))
        have := congrArg Int32.toInt (show FI186 110 5 = x7 from (gf_at f189 (c110 hS134) (shd_f (by decide) (s110 hS134)) rfl ((up_k u179 (by decide) (((f118 110 (5) (Nat.lt_of_lt_of_le (by decide : 110 < 176) dy87) (by simp) (by simp) (by simp)).trans (((eI88 110 (5) (Nat.ne_of_lt (c110 hS46))).trans ((gf_at f33 (c110 hS) (shd_f (by decide) (s110 hS)) rfl (h8)))))))))))
        obtain ⟨rfl, FI214, FL215, rfl, hI216, f217, f218, t221, t222, t223, t224, t225⟩ := p212
        clear t194 t195
        have hT228 : g_T n130 SH132 FI214 FR171 gp99 gw101 gs103 := gT_mw (L := [(110, 5), (110, 6), (110, 7), (110, 8)]) (A := []) (T := []) (L2 := []) (A2 := []) (T2 := []) hS134 hT204 f217 gf_rf (by decide) (by decide)
        obtain ⟨x229, h230⟩ : ∃ y, FI214 110 7 = y := ⟨_, rfl⟩
        have h230l := congrArg Int32.toInt h230
        have b231 := gI_110_7 hI216; rw [h230] at b231
        obtain ⟨x232, h233⟩ : ∃ y, FI214 110 5 = y := ⟨_, rfl⟩
        have h233l := congrArg Int32.toInt h233
        have := i_rng x232
        obtain ⟨x234, h235⟩ : ∃ y, FI214 110 8 = y := ⟨_, rfl⟩
        have h235l := congrArg Int32.toInt h235
        have := i_rng x234
        show hw sk base _ _ _ _ _ [] _ _
        refine hw_aloadn (aX4_readDeclaration 60 rfl) rfl ?_
        refine hw_get (v := .int (x234)) (aX4_readDeclaration 61 rfl) wf_RX4_51 (c110 hS134) (s110 hS134) (by decide) (congrArg Value.int (show FI214 110 8 = x234 from h235)) ?_
        refine hw_ic (v := (5 : Int32)) (aX4_readDeclaration 62 rfl) (by decide) ?_
        refine hw_icne (tgt := 132) (aX4_readDeclaration 63 rfl) (by decide) rfl (by decide : (5 : Int32).toInt = 5) (fun cd236 => ?_) (fun cd236 => ?_)
        · refine hw_aloadn (aX4_readDeclaration 68 rfl) rfl ?_
          refine hw_get (v := .ref (base + r145)) (aX4_readDeclaration 69 rfl) wf_RX4_90 lt136 sh137 (by decide) (congrArg (fun r => va_rf (h_rf base r)) (show FR171 n42 4 = some r145 from (up_c u172 (ne_tag sh137 sh139 (by decide)) (h149)))) ?_
          refine hw_ic (v := (0 : Int32)) (aX4_readDeclaration 70 rfl) (by decide) ?_
          refine hw_aloadn (aX4_readDeclaration 71 rfl) rfl ?_
          refine hw_callV (Bs := []) (rest := [.int ((0 : Int32)), .ref (base + r145)]) (aX4_readDeclaration 72 rfl) wc_RX4_93 (by decide) rfl wi_yX4_readLocation wv_yX4_readLocation (c110 hS134) (s110 hS134) rfl rfl rfl (Nat.le_of_ble_eq_true rfl) (Nat.le_of_ble_eq_true rfl) (k_readLocation (d := d + 1) hS134 hF174 hI216 hR175 (gp99) (gw101) (gs103) (by have := congrArg Int32.toInt (show FI214 110 7 = x229 from h230); have := congrArg Int32.toInt (show FI214 110 7 = x229 from h230); have := congrArg Int32.toInt (show FI214 111 4 = x4 from (gf_at f217 (c111 hS134) (shd_f (by decide) (s111 hS134)) rfl ((gf_at f189 (c111 hS134) (shd_f (by decide) (s111 hS134)) rfl ((up_c u179 (by decide) (((f118 111 (4) (Nat.lt_of_lt_of_le (by decide : 111 < 176) dy87) (by simp) (by simp) (by simp)).trans (((eI88 111 (4) (Nat.ne_of_lt (c111 hS46))).trans ((gf_at f33 (c111 hS) (shd_f (by decide) (s111 hS)) rfl (h5))))))))))))); omega) (by have := congrArg Int32.toInt (show FI214 110 5 = x232 from h233); have := congrArg Int32.toInt (show FI214 110 8 = x234 from h235); omega) (by have := congrArg Int32.toInt (show FI214 110 7 = x229 from h230); have := congrArg Int32.toInt (show FI214 111 4 = x4 from (gf_at f217 (c111 hS134) (shd_f (by decide) (s111 hS134)) rfl ((gf_at f189 (c111 hS134) (shd_f (by decide) (s111 hS134)) rfl ((up_c u179 (by decide) (((f118 111 (4) (Nat.lt_of_lt_of_le (by decide : 111 < 176) dy87) (by simp) (by simp) (by simp)).trans (((eI88 111 (4) (Nat.ne_of_lt (c111 hS46))).trans ((gf_at f33 (c111 hS) (shd_f (by decide) (s111 hS)) rfl (h5))))))))))))); have := congrArg Int32.toInt (show FI214 110 8 = x234 from h235); omega) (by have := congrArg Int32.toInt (show FI214 110 5 = x232 from h233); have := congrArg Int32.toInt (show FI214 110 4 = x11 from (gf_at f217 (c110 hS134) (shd_f (by decide) (s110 hS134)) rfl ((gf_at f189 (c110 hS134) (shd_f (by decide) (s110 hS134)) rfl ((up_k u179 (by decide) (((f118 110 (4) (Nat.lt_of_lt_of_le (by decide : 110 < 176) dy87) (by simp) (by simp) (by simp)).trans (((eI88 110 (4) (Nat.ne_of_lt (c110 hS46))).trans ((gf_at f33 (c110 hS) (shd_f (by decide) (s110 hS)) rfl (h12))))))))))))); omega) (by have := congrArg Int32.toInt (show FI214 110 5 = x232 from h233); have := congrArg Int32.toInt (show FI214 110 4 = x11 from (gf_at f217 (c110 hS134) (shd_f (by decide) (s110 hS134)) rfl ((gf_at f189 (c110 hS134) (shd_f (by decide) (s110 hS134)) rfl ((up_k u179 (by decide) (((f118 110 (4) (Nat.lt_of_lt_of_le (by decide : 110 < 176) dy87) (by simp) (by simp) (by simp)).trans (((eI88 110 (4) (Nat.ne_of_lt (c110 hS46))).trans ((gf_at f33 (c110 hS) (shd_f (by decide) (s110 hS)) rfl (h12))))))))))))); omega) (hT228) (gK_mx (L := [(110, 3), (110, 4), (110, 5), (110, 6), (110, 7), (110, 8)]) (A := [117]) (T := [1006, 1010]) hS gg1 (gf_tr (ex_shd ex142) (gf_tr (ex_shd ex142) (gf_f (gf_tr ⟨(ex45).1, ((ex_shd ex98)).2⟩ (gf_al (gf_tr ex_rf gf_rf f33 rfl rfl rfl) (ex45).1 eI88) f118 rfl rfl rfl) u179 (by decide)) f189 rfl rfl rfl) f217 rfl rfl rfl) (by decide))) (fun v237 sv238 p239 => ?_)
          have := congrArg Int32.toInt (show FI214 111 4 = x4 from (gf_at f217 (c111 hS134) (shd_f (by decide) (s111 hS134)) rfl ((gf_at f189 (c111 hS134) (shd_f (by decide) (s111 hS134)) rfl ((up_c u179 (by decide) (((f118 111 (4) (Nat.lt_of_lt_of_le (by decide : 111 < 176) dy87) (by simp) (by simp) (by simp)).trans (((eI88 111 (4) (Nat.ne_of_lt (c111 hS46))).trans ((gf_at f33 (c111 hS) (shd_f (by decide) (s111 hS)) rfl (h5)))))))))))))
          have := congrArg Int32.toInt (show FI214 111 4 = x4 from (gf_at f217 (c111 hS134) (shd_f (by decide) (s111 hS134)) rfl ((gf_at f189 (c111 hS134) (shd_f (by decide) (s111 hS134)) rfl ((up_c u179 (by decide) (((f118 111 (4) (Nat.lt_of_lt_of_le (by decide : 111 < 176) dy87) (by simp) (by simp) (by simp)).trans (((eI88 111 (4) (Nat.ne_of_lt (c111 hS46))).trans ((gf_at f33 (c111 hS) (shd_f (by decide) (s111 hS)) rfl (h5)))))))))))))
          have := congrArg Int32.toInt (show FI214 110 7 = x229 from h230)
          have := congrArg Int32.toInt (show FI214 110 5 = x232 from h233)
          have := congrArg Int32.toInt (show FI214 110 5 = x232 from h233)
          have := congrArg Int32.toInt (show FI214 110 4 = x11 from (gf_at f217 (c110 hS134) (shd_f (by decide) (s110 hS134)) rfl ((gf_at f189 (c110 hS134) (shd_f (by decide) (s110 hS134)) rfl ((up_k u179 (by decide) (((f118 110 (4) (Nat.lt_of_lt_of_le (by decide : 110 < 176) dy87) (by simp) (by simp) (by simp)).trans (((eI88 110 (4) (Nat.ne_of_lt (c110 hS46))).trans ((gf_at f33 (c110 hS) (shd_f (by decide) (s110 hS)) rfl (h12)))))))))))))
          have := congrArg Int32.toInt (show FI214 110 7 = x229 from h230)
          have := congrArg Int32.toInt (show FI214 110 7 = x229 from h230)
          obtain ⟨r240, rfl, n262, sl263, SH264, FI241, FL242, FR243, rfl, ex265, hS266, hI244, f245, f246, f247, hF248, hR249, t250, t251, t252, t253, t254, t255, t256, t257, t258, u259, ht260, nn261, hfr267⟩ := p239
          clear t222 t223
          obtain ⟨gp268, gw269, gs270, hT271, hkp272, hq273⟩ := u259
          have hk274 : ∀ c, c < n → gp268 c = gp c ∧ gw269 c = gw c ∧ gs270 c = gs c := fun c hc => by obtain ⟨k1, k2, k3⟩ := hk105 c hc; obtain ⟨m1, m2, m3⟩ := hkp272 c (Nat.lt_of_lt_of_le hc (ex142).1); exact ⟨m1.trans k1, m2.trans k2, m3.trans k3⟩
          have lt275 := ex_lt ex265 lt136
          have sh276 := ex_sh ex265 lt136 sh137
          have lt277 := ex_lt ex265 lt138
          have sh278 := ex_sh ex265 lt138 sh139
          have lt279 := ex_lt ex265 lt155
          have sh280 := ex_sh ex265 lt155 hz151
          have lt281 := ex_lt ex265 lt159
          have sh282 := ex_sh ex265 lt159 hz152
          have lt283 := ex_lt ex265 lt163
          have sh284 := ex_sh ex265 lt163 hz153
          have lt285 := ex_lt ex265 lt167
          have sh286 := ex_sh ex265 lt167 sh169
          have lt287 := ex_lt ex265 lt140
          have sh288 := ex_sh ex265 lt140 sh141
          have ex289 := ex_tr ex142 ex265
          obtain ⟨r290, rfl⟩ : ∃ q, r240 = some q := Option.ne_none_iff_exists'.mp nn261
          have fq291 := hfr267 r290 rfl
          have dq292 : 176 ≤ r290 := Nat.le_trans hS134.1 fq291
          obtain ⟨lt294, ow295, sh296⟩ := ht260 r290 rfl
          obtain ⟨x297, h298⟩ : ∃ y, FI241 110 7 = y := ⟨_, rfl⟩
          have h298l := congrArg Int32.toInt h298
          have b299 := gI_110_7 hI244; rw [h298] at b299
          obtain ⟨x300, h301⟩ : ∃ y, FI241 110 5 = y := ⟨_, rfl⟩
          have h301l := congrArg Int32.toInt h301
          have := i_rng x300
          obtain ⟨x302, h303⟩ : ∃ y, FI241 110 8 = y := ⟨_, rfl⟩
          have h303l := congrArg Int32.toInt h303
          have := i_rng x302
          obtain ⟨x304, h305⟩ : ∃ y, FI241 110 4 = y := ⟨_, rfl⟩
          have h305l := congrArg Int32.toInt h305
          have := i_rng x304
          show hw sk base _ _ _ _ _ [.ref (base + r290), .int ((0 : Int32)), .ref (base + r145)] _ _
          refine hv_aast (k := 5) (i2 := 0) (aX4_readDeclaration 73 rfl) lt283 sh284 rfl (by decide) lt294 sh296 rfl (h_in (by decide : (0 : Int32).toInt = 0) (by omega) (by omega)) (by decide) (fun FR306 u307 => ?_)
          have hT308 : g_T n262 SH264 FI241 FR306 gp268 gw269 gs270 := gT_wo hT271 (by rw [sh284]; decide) (by rw [sh284]; decide) u307
          have hF309 : h_FR FR306 := hF_ua hS266 hF248 u307 sh284 (by decide +kernel)
          have hR310 : g_R n262 SH264 FR306 := gR_up hR249 u307 sh284 (fun r e => by cases e; exact ⟨lt294, ow295, by rw [sh296]; rfl⟩) (fun _ r e => by cases e; exact (dyn_tag hS266 sh296 (by decide +kernel))) (fun _ => by simp) (fun h => absurd h.1 (ne_tag sh284 (s49 hS266) (by decide)))
          refine hw_aloadn (aX4_readDeclaration 74 rfl) rfl ?_
          refine hw_bp (v := (59 : Int32)) (aX4_readDeclaration 75 rfl) (by decide) ?_
          refine hw_callV (Bs := [.int ((59 : Int32))]) (rest := []) (aX4_readDeclaration 76 rfl) wc_RX4_83 (by decide) rfl wi_yX4_expect wv_yX4_expect (c110 hS266) (s110 hS266) rfl rfl rfl (Nat.le_of_ble_eq_true rfl) (Nat.le_of_ble_eq_true rfl) (k_expect2 (d := d + 143) hS266 hF309 hI244 hR310 ((59 : Int32)) (by have := congrArg Int32.toInt (show FI241 110 7 = x297 from h298); have := congrArg Int32.toInt (show FI241 110 7 = x297 from h298); have := congrArg Int32.toInt (show FI241 111 4 = x4 from (gf_at f245 (c111 hS134) (shd_f (by decide) (s111 hS134)) rfl ((gf_at f217 (c111 hS134) (shd_f (by decide) (s111 hS134)) rfl ((gf_at f189 (c111 hS134) (shd_f (by decide) (s111 hS134)) rfl ((up_c u179 (by decide) (((f118 111 (4) (Nat.lt_of_lt_of_le (by decide : 111 < 176) dy87) (by simp) (by simp) (by simp)).trans (((eI88 111 (4) (Nat.ne_of_lt (c111 hS46))).trans ((gf_at f33 (c111 hS) (shd_f (by decide) (s111 hS)) rfl (h5))))))))))))))); omega) (by have := congrArg Int32.toInt (show FI241 110 5 = x300 from h301); have := congrArg Int32.toInt (show FI241 110 8 = x302 from h303); omega) (by have := congrArg Int32.toInt (show FI241 110 7 = x297 from h298); have := congrArg Int32.toInt (show FI241 111 4 = x4 from (gf_at f245 (c111 hS134) (shd_f (by decide) (s111 hS134)) rfl ((gf_at f217 (c111 hS134) (shd_f (by decide) (s111 hS134)) rfl ((gf_at f189 (c111 hS134) (shd_f (by decide) (s111 hS134)) rfl ((up_c u179 (by decide) (((f118 111 (4) (Nat.lt_of_lt_of_le (by decide : 111 < 176) dy87) (by simp) (by simp) (by simp)).trans (((eI88 111 (4) (Nat.ne_of_lt (c111 hS46))).trans ((gf_at f33 (c111 hS) (shd_f (by decide) (s111 hS)) rfl (h5))))))))))))))); have := congrArg Int32.toInt (show FI241 110 8 = x302 from h303); omega) (gK_mx (L := [(110, 3), (110, 4), (110, 5), (110, 6), (110, 7), (110, 8)]) (A := [117]) (T := [1006, 1010]) hS gg1 (gf_tr (ex_shd ex142) (gf_tr (ex_shd ex142) (gf_tr (ex_shd ex142) (gf_f (gf_tr ⟨(ex45).1, ((ex_shd ex98)).2⟩ (gf_al (gf_tr ex_rf gf_rf f33 rfl rfl rfl) (ex45).1 eI88) f118 rfl rfl rfl) u179 (by decide)) f189 rfl rfl rfl) f217 rfl rfl rfl) f245 rfl rfl rfl) (by decide))) (fun v311 sv312 p313 => ?_)
          have := congrArg Int32.toInt (show FI241 111 4 = x4 from (gf_at f245 (c111 hS134) (shd_f (by decide) (s111 hS134)) rfl ((gf_at f217 (c111 hS134) (shd_f (by decide) (s111 hS134)) rfl ((gf_at f189 (c111 hS134) (shd_f (by decide) (s111 hS134)) rfl ((up_c u179 (by decide) (((f118 111 (4) (Nat.lt_of_lt_of_le (by decide : 111 < 176) dy87) (by simp) (by simp) (by simp)).trans (((eI88 111 (4) (Nat.ne_of_lt (c111 hS46))).trans ((gf_at f33 (c111 hS) (shd_f (by decide) (s111 hS)) rfl (h5)))))))))))))))
          have := congrArg Int32.toInt (show FI241 111 4 = x4 from (gf_at f245 (c111 hS134) (shd_f (by decide) (s111 hS134)) rfl ((gf_at f217 (c111 hS134) (shd_f (by decide) (s111 hS134)) rfl ((gf_at f189 (c111 hS134) (shd_f (by decide) (s111 hS134)) rfl ((up_c u179 (by decide) (((f118 111 (4) (Nat.lt_of_lt_of_le (by decide : 111 < 176) dy87) (by simp) (by simp) (by simp)).trans (((eI88 111 (4) (Nat.ne_of_lt (c111 hS46))).trans ((gf_at f33 (c111 hS) (shd_f (by decide) (s111 hS)) rfl (h5)))))))))))))))
          have := congrArg Int32.toInt (show FI241 110 7 = x297 from h298)
          have := congrArg Int32.toInt (show FI241 110 5 = x300 from h301)
          have := congrArg Int32.toInt (show FI241 110 5 = x300 from h301)
          obtain ⟨rfl, FI315, FL316, rfl, hI317, f318, f319, t322, t323, t324, t325, t326⟩ := p313
          clear t251 t252
          have hT329 : g_T n262 SH264 FI315 FR306 gp268 gw269 gs270 := gT_mw (L := [(110, 5), (110, 6), (110, 7), (110, 8)]) (A := []) (T := []) (L2 := []) (A2 := []) (T2 := []) hS266 hT308 f318 gf_rf (by decide) (by decide)
          obtain ⟨x330, h331⟩ : ∃ y, FI315 110 7 = y := ⟨_, rfl⟩
          have h331l := congrArg Int32.toInt h331
          have b332 := gI_110_7 hI317; rw [h331] at b332
          obtain ⟨x333, h334⟩ : ∃ y, FI315 110 5 = y := ⟨_, rfl⟩
          have h334l := congrArg Int32.toInt h334
          have := i_rng x333
          obtain ⟨x335, h336⟩ : ∃ y, FI315 110 8 = y := ⟨_, rfl⟩
          have h336l := congrArg Int32.toInt h336
          have := i_rng x335
          show hw sk base _ _ _ _ _ [] _ _
          refine xw_vret (aX4_readDeclaration 77 rfl) rfl ?_
          exact ⟨rfl, n262, sl263, SH264, FI315, FL316, FR306, rfl, ex289, hS266, hI317, (gf_tr (ex_shd ex289) (gf_tr (ex_shd ex142) (gf_tr (ex_shd ex142) (gf_tr (ex_shd ex142) (gf_f (gf_tr ⟨(ex45).1, ((ex_shd ex98)).2⟩ (gf_al (gf_tr ex_rf gf_rf f33 rfl rfl rfl) (ex45).1 eI88) f118 rfl rfl rfl) u179 (by decide)) f189 rfl rfl rfl) f217 rfl rfl rfl) f245 rfl rfl rfl) f318 rfl rfl rfl), (gf_tr (ex_shd ex289) (gf_tr (ex_shd ex142) (gf_tr (ex_shd ex142) (gf_tr (ex_shd ex142) (gf_tr ⟨(ex45).1, ((ex_shd ex98)).2⟩ (gf_al (gf_tr ex_rf gf_rf f34 rfl rfl rfl) (ex45).1 eL89) f119 rfl rfl rfl) f190 rfl rfl rfl) f218 rfl rfl rfl) f246 rfl rfl rfl) f319 rfl rfl rfl), (gf_tx (ex_shd ex289) (gf_tr (ex_shd ex142) (gf_tx (ex_shd ex142) (gf_tr ⟨(ex45).1, ((ex_shd ex98)).2⟩ (gf_al (gf_tr ex_rf gf_rf f35 rfl rfl rfl) (ex45).1 eR90) f120 rfl rfl rfl) u172 (shd_d h18 sh139) (by decide)) f247 rfl rfl rfl) u307 (shd_d (dyn_tag hS266 sh284 (by decide +kernel)) sh284) (by decide)), hF309, hR310, (by have := congrArg Int32.toInt (show FI315 110 7 = x330 from h331); omega), (by have := congrArg Int32.toInt (show FI315 110 5 = x333 from h334); have := congrArg Int32.toInt (show FI315 110 8 = x335 from h336); omega), (by have := congrArg Int32.toInt (show FI315 110 7 = x330 from h331); have := congrArg Int32.toInt (show FI315 110 8 = x335 from h336); omega), (by have := congrArg Int32.toInt (show FI315 110 7 = x330 from h331); omega), (by have := congrArg Int32.toInt (show FI315 110 5 = x333 from h334); omega), (by have := congrArg Int32.toInt (show FI315 110 4 = x304 from (gf_at f318 (c110 hS266) (shd_f (by decide) (s110 hS266)) rfl (h305))); have := congrArg Int32.toInt (show FI315 110 5 = x333 from h334); omega), (by have := congrArg Int32.toInt (show FI315 110 7 = x330 from h331); omega), (by have := congrArg Int32.toInt (show FI315 110 7 = x330 from h331); omega), (by omega), (by exact ⟨gp268, gw269, gs270, hT329, hk274, trivial⟩), (by exact (show g_PV lo SH264 FR306 (FI315 110 3).toInt from ⟨pv, (show FR306 110 2 = some pv from (up_c u307 (ne_tag (s110 hS266) sh284 (by decide)) ((gf_at f247 (c110 hS134) (shd_f (by decide) (s110 hS134)) rfl ((up_c u172 (ne_tag (s110 hS134) sh139 (by decide)) (((f120 110 (2) (Nat.lt_of_lt_of_le (by decide : 110 < 176) dy87) (by simp) (by simp) (by simp)).trans (((eR90 110 (2) (Nat.ne_of_lt (c110 hS46))).trans ((gf_at f35 (c110 hS) (shd_f (by decide) (s110 hS)) rfl (h16))))))))))))), sh278, h18, h19, fun i hi => by have := congrArg Int32.toInt (show FI315 110 3 = x176 from (gf_at f318 (c110 hS266) (shd_f (by decide) (s110 hS266)) rfl ((gf_at f245 (c110 hS134) (shd_f (by decide) (s110 hS134)) rfl ((gf_at f217 (c110 hS134) (shd_f (by decide) (s110 hS134)) rfl ((gf_at f189 (c110 hS134) (shd_f (by decide) (s110 hS134)) rfl (up_eq u179))))))))); have := (e177 : (x176).toInt = ((x13).toInt) + (1)); by_cases hik : i = (x13).toNatClampNeg; { subst hik; exact ⟨n42, (show FR306 pv _ = some n42 from (up_c u307 (ne_tag sh278 sh284 (by decide)) ((gf_at f247 lt138 (shd_d h18 sh139) rfl (up_eq u172))))), Nat.le_trans g_lo (ex45).1, dy87, (show g_Vv SH264 FR306 n42 from ⟨⟨_, (up_c u307 (ne_tag sh276 sh284 (by decide)) ((gf_at f247 lt136 (shd_d (dyn_tag hS134 sh137 (by decide +kernel)) sh137) rfl ((up_c u172 (ne_tag sh137 sh139 (by decide)) (h147)))))), sh280⟩, ⟨_, (up_c u307 (ne_tag sh276 sh284 (by decide)) ((gf_at f247 lt136 (shd_d (dyn_tag hS134 sh137 (by decide +kernel)) sh137) rfl ((up_c u172 (ne_tag sh137 sh139 (by decide)) (h148)))))), sh282⟩, ⟨_, (up_c u307 (ne_tag sh276 sh284 (by decide)) ((gf_at f247 lt136 (shd_d (dyn_tag hS134 sh137 (by decide +kernel)) sh137) rfl ((up_c u172 (ne_tag sh137 sh139 (by decide)) (h149)))))), sh284⟩, ⟨_, (up_c u307 (ne_tag sh276 sh284 (by decide)) ((gf_at f247 lt136 (shd_d (dyn_tag hS134 sh137 (by decide +kernel)) sh137) rfl ((up_c u172 (ne_tag sh137 sh139 (by decide)) (h150))))))⟩⟩)⟩ }; { have hi2 : i ≠ (x13).toInt.toNat := hik;  obtain ⟨v, e1, e2, e3, e4⟩ := h20 i (by omega); have hv := gR_get hR lt22 ow23 h17 e1; exact ⟨v, (show FR306 pv i = FR pv i from (up_c u307 (ne_tag sh278 sh284 (by decide)) ((gf_at f247 lt138 (shd_d h18 sh139) rfl ((up_k u172 hik (((f120 pv (i) lt48 (by simp) (by simp) (by simp)).trans (((eR90 pv (i) (Nat.ne_of_lt lt48)).trans ((gf_at f35 lt22 (shd_d h18 h17) rfl (rfl))))))))))))).trans e1, e2, e3, gV_gr hR hv.1 hv.2.1 ex289 (fun k => g_low_at (L := []) (A := []) (T := [1104, 1105]) (ts := [1010]) (t := 1010) (gf_tx (ex_shd ex289) (gf_tr (ex_shd ex142) (gf_tx (ex_shd ex142) (gf_tr ⟨(ex45).1, ((ex_shd ex98)).2⟩ (gf_al (gf_tr ex_rf gf_rf f35 rfl rfl rfl) (ex45).1 eR90) f120 rfl rfl rfl) u172 (shd_d h18 sh139) (by decide)) f247 rfl rfl rfl) u307 (shd_d (dyn_tag hS266 sh284 (by decide +kernel)) sh284) (by decide)) (by decide) hv.1 e3 (show (SH v).1 + 1000 = 1010 from congrArg (fun p : Nat × Nat => p.1 + 1000) hv.2.2) (by decide)) e4⟩  }⟩)), (by intro c9 k9 h9 ht9 hd9; have hv9 : c9 < n := Nat.lt_of_lt_of_le h9 g_lo; have hs9 : SH c9 = (104, (SH c9).2) := Prod.ext ht9 rfl; have hp9 : c9 ≠ pv := (by have := h19; omega); exact (up_c u307 (ne_tag (ex_sh ex289 hv9 hs9) sh284 (by decide)) ((gf_at f247 (ex_lt ex142 hv9) (shd_d hd9 (ex_sh ex142 hv9 hs9)) rfl ((up_c u172 hp9 (((f120 c9 (k9) (Nat.lt_of_lt_of_le hv9 (ex45).1) (by simp) (by simp) (by simp)).trans (((eR90 c9 (k9) (Nat.ne_of_lt (ex_lt ex45 hv9))).trans ((gf_at f35 hv9 (shd_d hd9 hs9) rfl (rfl)))))))))))))⟩
        · refine hw_aloadn (aX4_readDeclaration 64 rfl) rfl ?_
          refine hw_aloadn (aX4_readDeclaration 65 rfl) rfl ?_
          refine hw_callV (Bs := [.ref (base + n42)]) (rest := []) (aX4_readDeclaration 66 rfl) wc_RX4_86 (by decide) rfl wi_yX4_readRows wv_yX4_readRows (c110 hS134) (s110 hS134) rfl rfl rfl (Nat.le_of_ble_eq_true rfl) (Nat.le_of_ble_eq_true rfl) (k_readRows (d := d) hS134 hF174 hI216 hR175 (n42) lt136 sh137 (Or.inr dy87) (gp99) (gw101) (gs103) (by have := congrArg Int32.toInt (show FI214 110 7 = x229 from h230); have := congrArg Int32.toInt (show FI214 110 7 = x229 from h230); have := congrArg Int32.toInt (show FI214 111 4 = x4 from (gf_at f217 (c111 hS134) (shd_f (by decide) (s111 hS134)) rfl ((gf_at f189 (c111 hS134) (shd_f (by decide) (s111 hS134)) rfl ((up_c u179 (by decide) (((f118 111 (4) (Nat.lt_of_lt_of_le (by decide : 111 < 176) dy87) (by simp) (by simp) (by simp)).trans (((eI88 111 (4) (Nat.ne_of_lt (c111 hS46))).trans ((gf_at f33 (c111 hS) (shd_f (by decide) (s111 hS)) rfl (h5))))))))))))); omega) (by have := congrArg Int32.toInt (show FI214 110 5 = x232 from h233); have := congrArg Int32.toInt (show FI214 110 8 = x234 from h235); omega) (by have := congrArg Int32.toInt (show FI214 110 7 = x229 from h230); have := congrArg Int32.toInt (show FI214 111 4 = x4 from (gf_at f217 (c111 hS134) (shd_f (by decide) (s111 hS134)) rfl ((gf_at f189 (c111 hS134) (shd_f (by decide) (s111 hS134)) rfl ((up_c u179 (by decide) (((f118 111 (4) (Nat.lt_of_lt_of_le (by decide : 111 < 176) dy87) (by simp) (by simp) (by simp)).trans (((eI88 111 (4) (Nat.ne_of_lt (c111 hS46))).trans ((gf_at f33 (c111 hS) (shd_f (by decide) (s111 hS)) rfl (h5))))))))))))); have := congrArg Int32.toInt (show FI214 110 8 = x234 from h235); omega) (by have := congrArg Int32.toInt (show FI214 110 5 = x232 from h233); have := congrArg Int32.toInt (show FI214 110 4 = x11 from (gf_at f217 (c110 hS134) (shd_f (by decide) (s110 hS134)) rfl ((gf_at f189 (c110 hS134) (shd_f (by decide) (s110 hS134)) rfl ((up_k u179 (by decide) (((f118 110 (4) (Nat.lt_of_lt_of_le (by decide : 110 < 176) dy87) (by simp) (by simp) (by simp)).trans (((eI88 110 (4) (Nat.ne_of_lt (c110 hS46))).trans ((gf_at f33 (c110 hS) (shd_f (by decide) (s110 hS)) rfl (h12))))))))))))); omega) (by have := congrArg Int32.toInt (show FI214 110 5 = x232 from h233); have := congrArg Int32.toInt (show FI214 110 4 = x11 from (gf_at f217 (c110 hS134) (shd_f (by decide) (s110 hS134)) rfl ((gf_at f189 (c110 hS134) (shd_f (by decide) (s110 hS134)) rfl ((up_k u179 (by decide) (((f118 110 (4) (Nat.lt_of_lt_of_le (by decide : 110 < 176) dy87) (by simp) (by simp) (by simp)).trans (((eI88 110 (4) (Nat.ne_of_lt (c110 hS46))).trans ((gf_at f33 (c110 hS) (shd_f (by decide) (s110 hS)) rfl (h12))))))))))))); omega) (hT228) (gK_mx (L := [(110, 3), (110, 4), (110, 5), (110, 6), (110, 7), (110, 8)]) (A := [117]) (T := [1006, 1010]) hS gg1 (gf_tr (ex_shd ex142) (gf_tr (ex_shd ex142) (gf_f (gf_tr ⟨(ex45).1, ((ex_shd ex98)).2⟩ (gf_al (gf_tr ex_rf gf_rf f33 rfl rfl rfl) (ex45).1 eI88) f118 rfl rfl rfl) u179 (by decide)) f189 rfl rfl rfl) f217 rfl rfl rfl) (by decide)) ((show g_Vv SH132 FR171 n42 from ⟨⟨_, (up_c u172 (ne_tag sh137 sh139 (by decide)) (h147)), hz151⟩, ⟨_, (up_c u172 (ne_tag sh137 sh139 (by decide)) (h148)), hz152⟩, ⟨_, (up_c u172 (ne_tag sh137 sh139 (by decide)) (h149)), hz153⟩, ⟨_, (up_c u172 (ne_tag sh137 sh139 (by decide)) (h150))⟩⟩))) (fun v337 sv338 p339 => ?_)
          have := congrArg Int32.toInt (show FI214 111 4 = x4 from (gf_at f217 (c111 hS134) (shd_f (by decide) (s111 hS134)) rfl ((gf_at f189 (c111 hS134) (shd_f (by decide) (s111 hS134)) rfl ((up_c u179 (by decide) (((f118 111 (4) (Nat.lt_of_lt_of_le (by decide : 111 < 176) dy87) (by simp) (by simp) (by simp)).trans (((eI88 111 (4) (Nat.ne_of_lt (c111 hS46))).trans ((gf_at f33 (c111 hS) (shd_f (by decide) (s111 hS)) rfl (h5)))))))))))))
          have := congrArg Int32.toInt (show FI214 111 4 = x4 from (gf_at f217 (c111 hS134) (shd_f (by decide) (s111 hS134)) rfl ((gf_at f189 (c111 hS134) (shd_f (by decide) (s111 hS134)) rfl ((up_c u179 (by decide) (((f118 111 (4) (Nat.lt_of_lt_of_le (by decide : 111 < 176) dy87) (by simp) (by simp) (by simp)).trans (((eI88 111 (4) (Nat.ne_of_lt (c111 hS46))).trans ((gf_at f33 (c111 hS) (shd_f (by decide) (s111 hS)) rfl (h5)))))))))))))
          have := congrArg Int32.toInt (show FI214 110 7 = x229 from h230)
          have := congrArg Int32.toInt (show FI214 110 5 = x232 from h233)
          have := congrArg Int32.toInt (show FI214 110 5 = x232 from h233)
          have := congrArg Int32.toInt (show FI214 110 4 = x11 from (gf_at f217 (c110 hS134) (shd_f (by decide) (s110 hS134)) rfl ((gf_at f189 (c110 hS134) (shd_f (by decide) (s110 hS134)) rfl ((up_k u179 (by decide) (((f118 110 (4) (Nat.lt_of_lt_of_le (by decide : 110 < 176) dy87) (by simp) (by simp) (by simp)).trans (((eI88 110 (4) (Nat.ne_of_lt (c110 hS46))).trans ((gf_at f33 (c110 hS) (shd_f (by decide) (s110 hS)) rfl (h12)))))))))))))
          have := congrArg Int32.toInt (show FI214 110 7 = x229 from h230)
          have := congrArg Int32.toInt (show FI214 110 7 = x229 from h230)
          obtain ⟨rfl, n362, sl363, SH364, FI341, FL342, FR343, rfl, ex365, hS366, hI344, f345, f346, f347, hF348, hR349, t350, t351, t352, t353, t354, t355, t356, t357, t358, u359⟩ := p339
          clear t222 t223
          obtain ⟨gp367, gw368, gs369, hT370, hkp371, hq372⟩ := u359
          have hk373 : ∀ c, c < n → gp367 c = gp c ∧ gw368 c = gw c ∧ gs369 c = gs c := fun c hc => by obtain ⟨k1, k2, k3⟩ := hk105 c hc; obtain ⟨m1, m2, m3⟩ := hkp371 c (Nat.lt_of_lt_of_le hc (ex142).1); exact ⟨m1.trans k1, m2.trans k2, m3.trans k3⟩
          have lt374 := ex_lt ex365 lt136
          have sh375 := ex_sh ex365 lt136 sh137
          have lt376 := ex_lt ex365 lt138
          have sh377 := ex_sh ex365 lt138 sh139
          have lt378 := ex_lt ex365 lt155
          have sh379 := ex_sh ex365 lt155 hz151
          have lt380 := ex_lt ex365 lt159
          have sh381 := ex_sh ex365 lt159 hz152
          have lt382 := ex_lt ex365 lt163
          have sh383 := ex_sh ex365 lt163 hz153
          have lt384 := ex_lt ex365 lt167
          have sh385 := ex_sh ex365 lt167 sh169
          have lt386 := ex_lt ex365 lt140
          have sh387 := ex_sh ex365 lt140 sh141
          have ex388 := ex_tr ex142 ex365
          obtain ⟨x389, h390⟩ : ∃ y, FI341 110 7 = y := ⟨_, rfl⟩
          have h390l := congrArg Int32.toInt h390
          have b391 := gI_110_7 hI344; rw [h390] at b391
          obtain ⟨x392, h393⟩ : ∃ y, FI341 110 5 = y := ⟨_, rfl⟩
          have h393l := congrArg Int32.toInt h393
          have := i_rng x392
          obtain ⟨x394, h395⟩ : ∃ y, FI341 110 8 = y := ⟨_, rfl⟩
          have h395l := congrArg Int32.toInt h395
          have := i_rng x394
          obtain ⟨x396, h397⟩ : ∃ y, FI341 110 4 = y := ⟨_, rfl⟩
          have h397l := congrArg Int32.toInt h397
          have := i_rng x396
          show hw sk base _ _ _ _ _ [] _ _
          refine xw_goto (tgt := 142) (aX4_readDeclaration 67 rfl) (by decide) ?_
          refine hw_aloadn (aX4_readDeclaration 74 rfl) rfl ?_
          refine hw_bp (v := (59 : Int32)) (aX4_readDeclaration 75 rfl) (by decide) ?_
          refine hw_callV (Bs := [.int ((59 : Int32))]) (rest := []) (aX4_readDeclaration 76 rfl) wc_RX4_83 (by decide) rfl wi_yX4_expect wv_yX4_expect (c110 hS366) (s110 hS366) rfl rfl rfl (Nat.le_of_ble_eq_true rfl) (Nat.le_of_ble_eq_true rfl) (k_expect2 (d := d + 143) hS366 hF348 hI344 hR349 ((59 : Int32)) (by have := congrArg Int32.toInt (show FI341 110 7 = x389 from h390); have := congrArg Int32.toInt (show FI341 110 7 = x389 from h390); have := congrArg Int32.toInt (show FI341 111 4 = x4 from (gf_at f345 (c111 hS134) (shd_f (by decide) (s111 hS134)) rfl ((gf_at f217 (c111 hS134) (shd_f (by decide) (s111 hS134)) rfl ((gf_at f189 (c111 hS134) (shd_f (by decide) (s111 hS134)) rfl ((up_c u179 (by decide) (((f118 111 (4) (Nat.lt_of_lt_of_le (by decide : 111 < 176) dy87) (by simp) (by simp) (by simp)).trans (((eI88 111 (4) (Nat.ne_of_lt (c111 hS46))).trans ((gf_at f33 (c111 hS) (shd_f (by decide) (s111 hS)) rfl (h5))))))))))))))); omega) (by have := congrArg Int32.toInt (show FI341 110 5 = x392 from h393); have := congrArg Int32.toInt (show FI341 110 8 = x394 from h395); omega) (by have := congrArg Int32.toInt (show FI341 110 7 = x389 from h390); have := congrArg Int32.toInt (show FI341 111 4 = x4 from (gf_at f345 (c111 hS134) (shd_f (by decide) (s111 hS134)) rfl ((gf_at f217 (c111 hS134) (shd_f (by decide) (s111 hS134)) rfl ((gf_at f189 (c111 hS134) (shd_f (by decide) (s111 hS134)) rfl ((up_c u179 (by decide) (((f118 111 (4) (Nat.lt_of_lt_of_le (by decide : 111 < 176) dy87) (by simp) (by simp) (by simp)).trans (((eI88 111 (4) (Nat.ne_of_lt (c111 hS46))).trans ((gf_at f33 (c111 hS) (shd_f (by decide) (s111 hS)) rfl (h5))))))))))))))); have := congrArg Int32.toInt (show FI341 110 8 = x394 from h395); omega) (gK_mx (L := [(110, 3), (110, 4), (110, 5), (110, 6), (110, 7), (110, 8)]) (A := [117]) (T := [1006, 1010]) hS gg1 (gf_tr (ex_shd ex142) (gf_tr (ex_shd ex142) (gf_tr (ex_shd ex142) (gf_f (gf_tr ⟨(ex45).1, ((ex_shd ex98)).2⟩ (gf_al (gf_tr ex_rf gf_rf f33 rfl rfl rfl) (ex45).1 eI88) f118 rfl rfl rfl) u179 (by decide)) f189 rfl rfl rfl) f217 rfl rfl rfl) f345 rfl rfl rfl) (by decide))) (fun v398 sv399 p400 => ?_)
          have := congrArg Int32.toInt (show FI341 111 4 = x4 from (gf_at f345 (c111 hS134) (shd_f (by decide) (s111 hS134)) rfl ((gf_at f217 (c111 hS134) (shd_f (by decide) (s111 hS134)) rfl ((gf_at f189 (c111 hS134) (shd_f (by decide) (s111 hS134)) rfl ((up_c u179 (by decide) (((f118 111 (4) (Nat.lt_of_lt_of_le (by decide : 111 < 176) dy87) (by simp) (by simp) (by simp)).trans (((eI88 111 (4) (Nat.ne_of_lt (c111 hS46))).trans ((gf_at f33 (c111 hS) (shd_f (by decide) (s111 hS)) rfl (h5)))))))))))))))
          have := congrArg Int32.toInt (show FI341 111 4 = x4 from (gf_at f345 (c111 hS134) (shd_f (by decide) (s111 hS134)) rfl ((gf_at f217 (c111 hS134) (shd_f (by decide) (s111 hS134)) rfl ((gf_at f189 (c111 hS134) (shd_f (by decide) (s111 hS134)) rfl ((up_c u179 (by decide) (((f118 111 (4) (Nat.lt_of_lt_of_le (by decide : 111 < 176) dy87) (by simp) (by simp) (by simp)).trans (((eI88 111 (4) (Nat.ne_of_lt (c111 hS46))).trans ((gf_at f33 (c111 hS) (shd_f (by decide) (s111 hS)) rfl (h5)))))))))))))))
          have := congrArg Int32.toInt (show FI341 110 7 = x389 from h390)
          have := congrArg Int32.toInt (show FI341 110 5 = x392 from h393)
          have := congrArg Int32.toInt (show FI341 110 5 = x392 from h393)
          obtain ⟨rfl, FI402, FL403, rfl, hI404, f405, f406, t409, t410, t411, t412, t413⟩ := p400
          clear t351 t352
          have hT416 : g_T n362 SH364 FI402 FR343 gp367 gw368 gs369 := gT_mw (L := [(110, 5), (110, 6), (110, 7), (110, 8)]) (A := []) (T := []) (L2 := []) (A2 := []) (T2 := []) hS366 hT370 f405 gf_rf (by decide) (by decide)
          obtain ⟨x417, h418⟩ : ∃ y, FI402 110 7 = y := ⟨_, rfl⟩
          have h418l := congrArg Int32.toInt h418
          have b419 := gI_110_7 hI404; rw [h418] at b419
          obtain ⟨x420, h421⟩ : ∃ y, FI402 110 5 = y := ⟨_, rfl⟩
          have h421l := congrArg Int32.toInt h421
          have := i_rng x420
          obtain ⟨x422, h423⟩ : ∃ y, FI402 110 8 = y := ⟨_, rfl⟩
          have h423l := congrArg Int32.toInt h423
          have := i_rng x422
          show hw sk base _ _ _ _ _ [] _ _
          refine xw_vret (aX4_readDeclaration 77 rfl) rfl ?_
          exact ⟨rfl, n362, sl363, SH364, FI402, FL403, FR343, rfl, ex388, hS366, hI404, (gf_tr (ex_shd ex388) (gf_tr (ex_shd ex142) (gf_tr (ex_shd ex142) (gf_tr (ex_shd ex142) (gf_f (gf_tr ⟨(ex45).1, ((ex_shd ex98)).2⟩ (gf_al (gf_tr ex_rf gf_rf f33 rfl rfl rfl) (ex45).1 eI88) f118 rfl rfl rfl) u179 (by decide)) f189 rfl rfl rfl) f217 rfl rfl rfl) f345 rfl rfl rfl) f405 rfl rfl rfl), (gf_tr (ex_shd ex388) (gf_tr (ex_shd ex142) (gf_tr (ex_shd ex142) (gf_tr (ex_shd ex142) (gf_tr ⟨(ex45).1, ((ex_shd ex98)).2⟩ (gf_al (gf_tr ex_rf gf_rf f34 rfl rfl rfl) (ex45).1 eL89) f119 rfl rfl rfl) f190 rfl rfl rfl) f218 rfl rfl rfl) f346 rfl rfl rfl) f406 rfl rfl rfl), (gf_tr (ex_shd ex142) (gf_tx (ex_shd ex142) (gf_tr ⟨(ex45).1, ((ex_shd ex98)).2⟩ (gf_al (gf_tr ex_rf gf_rf f35 rfl rfl rfl) (ex45).1 eR90) f120 rfl rfl rfl) u172 (shd_d h18 sh139) (by decide)) f347 rfl rfl rfl), hF348, hR349, (by have := congrArg Int32.toInt (show FI402 110 7 = x417 from h418); omega), (by have := congrArg Int32.toInt (show FI402 110 5 = x420 from h421); have := congrArg Int32.toInt (show FI402 110 8 = x422 from h423); omega), (by have := congrArg Int32.toInt (show FI402 110 7 = x417 from h418); have := congrArg Int32.toInt (show FI402 110 8 = x422 from h423); omega), (by have := congrArg Int32.toInt (show FI402 110 7 = x417 from h418); omega), (by have := congrArg Int32.toInt (show FI402 110 5 = x420 from h421); omega), (by have := congrArg Int32.toInt (show FI402 110 4 = x396 from (gf_at f405 (c110 hS366) (shd_f (by decide) (s110 hS366)) rfl (h397))); have := congrArg Int32.toInt (show FI402 110 5 = x420 from h421); omega), (by have := congrArg Int32.toInt (show FI402 110 7 = x417 from h418); omega), (by have := congrArg Int32.toInt (show FI402 110 7 = x417 from h418); omega), (by omega), (by exact ⟨gp367, gw368, gs369, hT416, hk373, trivial⟩), (by exact (show g_PV lo SH364 FR343 (FI402 110 3).toInt from ⟨pv, (show FR343 110 2 = some pv from (gf_at f347 (c110 hS134) (shd_f (by decide) (s110 hS134)) rfl ((up_c u172 (ne_tag (s110 hS134) sh139 (by decide)) (((f120 110 (2) (Nat.lt_of_lt_of_le (by decide : 110 < 176) dy87) (by simp) (by simp) (by simp)).trans (((eR90 110 (2) (Nat.ne_of_lt (c110 hS46))).trans ((gf_at f35 (c110 hS) (shd_f (by decide) (s110 hS)) rfl (h16))))))))))), sh377, h18, h19, fun i hi => by have := congrArg Int32.toInt (show FI402 110 3 = x176 from (gf_at f405 (c110 hS366) (shd_f (by decide) (s110 hS366)) rfl ((gf_at f345 (c110 hS134) (shd_f (by decide) (s110 hS134)) rfl ((gf_at f217 (c110 hS134) (shd_f (by decide) (s110 hS134)) rfl ((gf_at f189 (c110 hS134) (shd_f (by decide) (s110 hS134)) rfl (up_eq u179))))))))); have := (e177 : (x176).toInt = ((x13).toInt) + (1)); by_cases hik : i = (x13).toNatClampNeg; { subst hik; exact ⟨n42, (show FR343 pv _ = some n42 from (gf_at f347 lt138 (shd_d h18 sh139) rfl (up_eq u172))), Nat.le_trans g_lo (ex45).1, dy87, (show g_Vv SH364 FR343 n42 from ⟨⟨_, (gf_at f347 lt136 (shd_d (dyn_tag hS134 sh137 (by decide +kernel)) sh137) rfl ((up_c u172 (ne_tag sh137 sh139 (by decide)) (h147)))), sh379⟩, ⟨_, (gf_at f347 lt136 (shd_d (dyn_tag hS134 sh137 (by decide +kernel)) sh137) rfl ((up_c u172 (ne_tag sh137 sh139 (by decide)) (h148)))), sh381⟩, ⟨_, (gf_at f347 lt136 (shd_d (dyn_tag hS134 sh137 (by decide +kernel)) sh137) rfl ((up_c u172 (ne_tag sh137 sh139 (by decide)) (h149)))), sh383⟩, ⟨_, (gf_at f347 lt136 (shd_d (dyn_tag hS134 sh137 (by decide +kernel)) sh137) rfl ((up_c u172 (ne_tag sh137 sh139 (by decide)) (h150))))⟩⟩)⟩ }; { have hi2 : i ≠ (x13).toInt.toNat := hik;  obtain ⟨v, e1, e2, e3, e4⟩ := h20 i (by omega); have hv := gR_get hR lt22 ow23 h17 e1; exact ⟨v, (show FR343 pv i = FR pv i from (gf_at f347 lt138 (shd_d h18 sh139) rfl ((up_k u172 hik (((f120 pv (i) lt48 (by simp) (by simp) (by simp)).trans (((eR90 pv (i) (Nat.ne_of_lt lt48)).trans ((gf_at f35 lt22 (shd_d h18 h17) rfl (rfl))))))))))).trans e1, e2, e3, gV_gr hR hv.1 hv.2.1 ex388 (fun k => g_low_at (L := []) (A := []) (T := [1104, 1105]) (ts := [1010]) (t := 1010) (gf_tr (ex_shd ex142) (gf_tx (ex_shd ex142) (gf_tr ⟨(ex45).1, ((ex_shd ex98)).2⟩ (gf_al (gf_tr ex_rf gf_rf f35 rfl rfl rfl) (ex45).1 eR90) f120 rfl rfl rfl) u172 (shd_d h18 sh139) (by decide)) f347 rfl rfl rfl) (by decide) hv.1 e3 (show (SH v).1 + 1000 = 1010 from congrArg (fun p : Nat × Nat => p.1 + 1000) hv.2.2) (by decide)) e4⟩  }⟩)), (by intro c9 k9 h9 ht9 hd9; have hv9 : c9 < n := Nat.lt_of_lt_of_le h9 g_lo; have hs9 : SH c9 = (104, (SH c9).2) := Prod.ext ht9 rfl; have hp9 : c9 ≠ pv := (by have := h19; omega); exact (gf_at f347 (ex_lt ex142 hv9) (shd_d hd9 (ex_sh ex142 hv9 hs9)) rfl ((up_c u172 hp9 (((f120 c9 (k9) (Nat.lt_of_lt_of_le hv9 (ex45).1) (by simp) (by simp) (by simp)).trans (((eR90 c9 (k9) (Nat.ne_of_lt (ex_lt ex45 hv9))).trans ((gf_at f35 hv9 (shd_d hd9 hs9) rfl (rfl)))))))))))⟩
      · refine hw_aloadn (aX4_readDeclaration 28 rfl) rfl ?_
        refine hw_bp (v := (6 : Int32)) (aX4_readDeclaration 29 rfl) (by decide) ?_
        refine hw_callV (Bs := [.int ((6 : Int32))]) (rest := []) (aX4_readDeclaration 30 rfl) wc_RX4_69 (by decide) rfl wi_yX4_refuse wv_yX4_refuse (c110 hS46) (s110 hS46) rfl rfl rfl (Nat.le_of_ble_eq_true rfl) (Nat.le_of_ble_eq_true rfl) (k_refuse2 (d := d + 144) hS46 hF36 hI32 hR37 ((6 : Int32)) (by have := congrArg Int32.toInt (show FI29 110 7 = x1 from (gf_at f33 (c110 hS) (shd_f (by decide) (s110 hS)) rfl (h2))); have := congrArg Int32.toInt (show FI29 110 7 = x1 from (gf_at f33 (c110 hS) (shd_f (by decide) (s110 hS)) rfl (h2))); have := congrArg Int32.toInt (show FI29 111 4 = x4 from (gf_at f33 (c111 hS) (shd_f (by decide) (s111 hS)) rfl (h5))); omega) (by have := congrArg Int32.toInt (show FI29 110 5 = x7 from (gf_at f33 (c110 hS) (shd_f (by decide) (s110 hS)) rfl (h8))); have := congrArg Int32.toInt (show FI29 110 8 = x9 from (gf_at f33 (c110 hS) (shd_f (by decide) (s110 hS)) rfl (h10))); omega) (by have := congrArg Int32.toInt (show FI29 110 7 = x1 from (gf_at f33 (c110 hS) (shd_f (by decide) (s110 hS)) rfl (h2))); have := congrArg Int32.toInt (show FI29 111 4 = x4 from (gf_at f33 (c111 hS) (shd_f (by decide) (s111 hS)) rfl (h5))); have := congrArg Int32.toInt (show FI29 110 8 = x9 from (gf_at f33 (c110 hS) (shd_f (by decide) (s110 hS)) rfl (h10))); omega) (by have := ((by decide : (6 : Int32).toInt = 6) : ((6 : Int32)).toInt = 6); have := ((by decide : (6 : Int32).toInt = 6) : ((6 : Int32)).toInt = 6); omega)) (fun v424 sv425 p426 => ?_)
        have := congrArg Int32.toInt (show FI29 110 5 = x7 from (gf_at f33 (c110 hS) (shd_f (by decide) (s110 hS)) rfl (h8)))
        have := congrArg Int32.toInt (show FI29 110 5 = x7 from (gf_at f33 (c110 hS) (shd_f (by decide) (s110 hS)) rfl (h8)))
        obtain ⟨rfl, FI428, rfl, hI429, f430, t433, t434⟩ := p426
        have hT437 : g_T n42 SH44 FI428 FR31 gp gw gs := gT_mw (L := [(110, 5), (110, 6), (110, 8)]) (A := []) (T := []) (L2 := []) (A2 := []) (T2 := []) hS46 hT57 f430 gf_rf (by decide) (by decide)
        obtain ⟨x438, h439⟩ : ∃ y, FI428 110 5 = y := ⟨_, rfl⟩
        have h439l := congrArg Int32.toInt h439
        have := i_rng x438
        obtain ⟨x440, h441⟩ : ∃ y, FI428 110 8 = y := ⟨_, rfl⟩
        have h441l := congrArg Int32.toInt h441
        have := i_rng x440
        show hw sk base _ _ _ _ _ [] _ _
        refine xw_goto (tgt := 148) (aX4_readDeclaration 31 rfl) (by decide) ?_
        refine xw_vret (aX4_readDeclaration 77 rfl) rfl ?_
        exact ⟨rfl, n42, sl43, SH44, FI428, FL30, FR31, rfl, ex45, hS46, hI429, (gf_tr (ex_shd ex45) (gf_tr ex_rf gf_rf f33 rfl rfl rfl) f430 rfl rfl rfl), (gf_tr ex_rf gf_rf f34 rfl rfl rfl), (gf_tr ex_rf gf_rf f35 rfl rfl rfl), hF36, hR37, (by have := congrArg Int32.toInt (show FI428 110 7 = x1 from (gf_at f430 (c110 hS46) (shd_f (by decide) (s110 hS46)) rfl ((gf_at f33 (c110 hS) (shd_f (by decide) (s110 hS)) rfl (h2))))); omega), (by have := congrArg Int32.toInt (show FI428 110 5 = x438 from h439); have := congrArg Int32.toInt (show FI428 110 8 = x440 from h441); omega), (by have := congrArg Int32.toInt (show FI428 110 7 = x1 from (gf_at f430 (c110 hS46) (shd_f (by decide) (s110 hS46)) rfl ((gf_at f33 (c110 hS) (shd_f (by decide) (s110 hS)) rfl (h2))))); have := congrArg Int32.toInt (show FI428 110 8 = x440 from h441); omega), (by have := congrArg Int32.toInt (show FI428 110 7 = x1 from (gf_at f430 (c110 hS46) (shd_f (by decide) (s110 hS46)) rfl ((gf_at f33 (c110 hS) (shd_f (by decide) (s110 hS)) rfl (h2))))); omega), (by have := congrArg Int32.toInt (show FI428 110 5 = x438 from h439); omega), (by have := congrArg Int32.toInt (show FI428 110 4 = x11 from (gf_at f430 (c110 hS46) (shd_f (by decide) (s110 hS46)) rfl ((gf_at f33 (c110 hS) (shd_f (by decide) (s110 hS)) rfl (h12))))); have := congrArg Int32.toInt (show FI428 110 5 = x438 from h439); omega), (by have := congrArg Int32.toInt (show FI428 110 7 = x1 from (gf_at f430 (c110 hS46) (shd_f (by decide) (s110 hS46)) rfl ((gf_at f33 (c110 hS) (shd_f (by decide) (s110 hS)) rfl (h2))))); omega), (by have := congrArg Int32.toInt (show FI428 110 7 = x1 from (gf_at f430 (c110 hS46) (shd_f (by decide) (s110 hS46)) rfl ((gf_at f33 (c110 hS) (shd_f (by decide) (s110 hS)) rfl (h2))))); omega), (by omega), (by exact ⟨gp, gw, gs, hT437, hk0, trivial⟩), (by exact (show g_PV lo SH44 FR31 (FI428 110 3).toInt from ⟨pv, (show FR31 110 2 = some pv from (gf_at f35 (c110 hS) (shd_f (by decide) (s110 hS)) rfl (h16))), sh49, h18, h19, fun i hi => by have := congrArg Int32.toInt (show FI428 110 3 = x13 from (gf_at f430 (c110 hS46) (shd_f (by decide) (s110 hS46)) rfl ((gf_at f33 (c110 hS) (shd_f (by decide) (s110 hS)) rfl (h14))))); have hik : True := trivial;  obtain ⟨v, e1, e2, e3, e4⟩ := h20 i (by omega); have hv := gR_get hR lt22 ow23 h17 e1; exact ⟨v, (show FR31 pv i = FR pv i from (gf_at f35 lt22 (shd_d h18 h17) rfl (rfl))).trans e1, e2, e3, gV_gr hR hv.1 hv.2.1 ex45 (fun k => g_low_at (L := []) (A := []) (T := [1104, 1105]) (ts := [1010]) (t := 1010) (gf_tr ex_rf gf_rf f35 rfl rfl rfl) (by decide) hv.1 e3 (show (SH v).1 + 1000 = 1010 from congrArg (fun p : Nat × Nat => p.1 + 1000) hv.2.2) (by decide)) e4⟩ ⟩)), (by intro c9 k9 h9 ht9 hd9; have hv9 : c9 < n := Nat.lt_of_lt_of_le h9 g_lo; have hs9 : SH c9 = (104, (SH c9).2) := Prod.ext ht9 rfl; have hp9 : c9 ≠ pv := (by have := h19; omega); exact (gf_at f35 hv9 (shd_d hd9 hs9) rfl (rfl)))⟩
    · refine hw_aloadn (aX4_readDeclaration 18 rfl) rfl ?_
      refine hw_ic (v := (4 : Int32)) (aX4_readDeclaration 19 rfl) (by decide) ?_
      refine hw_callV (Bs := [.int ((4 : Int32))]) (rest := []) (aX4_readDeclaration 20 rfl) wc_RX4_69 (by decide) rfl wi_yX4_refuse wv_yX4_refuse (c110 hS46) (s110 hS46) rfl rfl rfl (Nat.le_of_ble_eq_true rfl) (Nat.le_of_ble_eq_true rfl) (k_refuse2 (d := d + 144) hS46 hF36 hI32 hR37 ((4 : Int32)) (by have := congrArg Int32.toInt (show FI29 110 7 = x1 from (gf_at f33 (c110 hS) (shd_f (by decide) (s110 hS)) rfl (h2))); have := congrArg Int32.toInt (show FI29 110 7 = x1 from (gf_at f33 (c110 hS) (shd_f (by decide) (s110 hS)) rfl (h2))); have := congrArg Int32.toInt (show FI29 111 4 = x4 from (gf_at f33 (c111 hS) (shd_f (by decide) (s111 hS)) rfl (h5))); omega) (by have := congrArg Int32.toInt (show FI29 110 5 = x7 from (gf_at f33 (c110 hS) (shd_f (by decide) (s110 hS)) rfl (h8))); have := congrArg Int32.toInt (show FI29 110 8 = x9 from (gf_at f33 (c110 hS) (shd_f (by decide) (s110 hS)) rfl (h10))); omega) (by have := congrArg Int32.toInt (show FI29 110 7 = x1 from (gf_at f33 (c110 hS) (shd_f (by decide) (s110 hS)) rfl (h2))); have := congrArg Int32.toInt (show FI29 111 4 = x4 from (gf_at f33 (c111 hS) (shd_f (by decide) (s111 hS)) rfl (h5))); have := congrArg Int32.toInt (show FI29 110 8 = x9 from (gf_at f33 (c110 hS) (shd_f (by decide) (s110 hS)) rfl (h10))); omega) (by have := ((by decide : (4 : Int32).toInt = 4) : ((4 : Int32)).toInt = 4); have := ((by decide : (4 : Int32).toInt = 4) : ((4 : Int32)).toInt = 4); omega)) (fun v442 sv443 p444 => ?_)
      have := congrArg Int32.toInt (show FI29 110 5 = x7 from (gf_at f33 (c110 hS) (shd_f (by decide) (s110 hS)) rfl (h8)))
      have := congrArg Int32.toInt (show FI29 110 5 = x7 from (gf_at f33 (c110 hS) (shd_f (by decide) (s110 hS)) rfl (h8)))
      obtain ⟨rfl, FI446, rfl, hI447, f448, t451, t452⟩ := p444
      have hT455 : g_T n42 SH44 FI446 FR31 gp gw gs := gT_mw (L := [(110, 5), (110, 6), (110, 8)]) (A := []) (T := []) (L2 := []) (A2 := []) (T2 := []) hS46 hT57 f448 gf_rf (by decide) (by decide)
      obtain ⟨x456, h457⟩ : ∃ y, FI446 110 5 = y := ⟨_, rfl⟩
      have h457l := congrArg Int32.toInt h457
      have := i_rng x456
      obtain ⟨x458, h459⟩ : ∃ y, FI446 110 8 = y := ⟨_, rfl⟩
      have h459l := congrArg Int32.toInt h459
      have := i_rng x458
      show hw sk base _ _ _ _ _ [] _ _
      refine xw_goto (tgt := 148) (aX4_readDeclaration 21 rfl) (by decide) ?_
      refine xw_vret (aX4_readDeclaration 77 rfl) rfl ?_
      exact ⟨rfl, n42, sl43, SH44, FI446, FL30, FR31, rfl, ex45, hS46, hI447, (gf_tr (ex_shd ex45) (gf_tr ex_rf gf_rf f33 rfl rfl rfl) f448 rfl rfl rfl), (gf_tr ex_rf gf_rf f34 rfl rfl rfl), (gf_tr ex_rf gf_rf f35 rfl rfl rfl), hF36, hR37, (by have := congrArg Int32.toInt (show FI446 110 7 = x1 from (gf_at f448 (c110 hS46) (shd_f (by decide) (s110 hS46)) rfl ((gf_at f33 (c110 hS) (shd_f (by decide) (s110 hS)) rfl (h2))))); omega), (by have := congrArg Int32.toInt (show FI446 110 5 = x456 from h457); have := congrArg Int32.toInt (show FI446 110 8 = x458 from h459); omega), (by have := congrArg Int32.toInt (show FI446 110 7 = x1 from (gf_at f448 (c110 hS46) (shd_f (by decide) (s110 hS46)) rfl ((gf_at f33 (c110 hS) (shd_f (by decide) (s110 hS)) rfl (h2))))); have := congrArg Int32.toInt (show FI446 110 8 = x458 from h459); omega), (by have := congrArg Int32.toInt (show FI446 110 7 = x1 from (gf_at f448 (c110 hS46) (shd_f (by decide) (s110 hS46)) rfl ((gf_at f33 (c110 hS) (shd_f (by decide) (s110 hS)) rfl (h2))))); omega), (by have := congrArg Int32.toInt (show FI446 110 5 = x456 from h457); omega), (by have := congrArg Int32.toInt (show FI446 110 4 = x11 from (gf_at f448 (c110 hS46) (shd_f (by decide) (s110 hS46)) rfl ((gf_at f33 (c110 hS) (shd_f (by decide) (s110 hS)) rfl (h12))))); have := congrArg Int32.toInt (show FI446 110 5 = x456 from h457); omega), (by have := congrArg Int32.toInt (show FI446 110 7 = x1 from (gf_at f448 (c110 hS46) (shd_f (by decide) (s110 hS46)) rfl ((gf_at f33 (c110 hS) (shd_f (by decide) (s110 hS)) rfl (h2))))); omega), (by have := congrArg Int32.toInt (show FI446 110 7 = x1 from (gf_at f448 (c110 hS46) (shd_f (by decide) (s110 hS46)) rfl ((gf_at f33 (c110 hS) (shd_f (by decide) (s110 hS)) rfl (h2))))); omega), (by omega), (by exact ⟨gp, gw, gs, hT455, hk0, trivial⟩), (by exact (show g_PV lo SH44 FR31 (FI446 110 3).toInt from ⟨pv, (show FR31 110 2 = some pv from (gf_at f35 (c110 hS) (shd_f (by decide) (s110 hS)) rfl (h16))), sh49, h18, h19, fun i hi => by have := congrArg Int32.toInt (show FI446 110 3 = x13 from (gf_at f448 (c110 hS46) (shd_f (by decide) (s110 hS46)) rfl ((gf_at f33 (c110 hS) (shd_f (by decide) (s110 hS)) rfl (h14))))); have hik : True := trivial;  obtain ⟨v, e1, e2, e3, e4⟩ := h20 i (by omega); have hv := gR_get hR lt22 ow23 h17 e1; exact ⟨v, (show FR31 pv i = FR pv i from (gf_at f35 lt22 (shd_d h18 h17) rfl (rfl))).trans e1, e2, e3, gV_gr hR hv.1 hv.2.1 ex45 (fun k => g_low_at (L := []) (A := []) (T := [1104, 1105]) (ts := [1010]) (t := 1010) (gf_tr ex_rf gf_rf f35 rfl rfl rfl) (by decide) hv.1 e3 (show (SH v).1 + 1000 = 1010 from congrArg (fun p : Nat × Nat => p.1 + 1000) hv.2.2) (by decide)) e4⟩ ⟩)), (by intro c9 k9 h9 ht9 hd9; have hv9 : c9 < n := Nat.lt_of_lt_of_le h9 g_lo; have hs9 : SH c9 = (104, (SH c9).2) := Prod.ext ht9 rfl; have hp9 : c9 ≠ pv := (by have := h19; omega); exact (gf_at f35 hv9 (shd_d hd9 hs9) rfl (rfl)))⟩
  · refine hw_aloadn (aX4_readDeclaration 10 rfl) rfl ?_
    refine hw_ic (v := (1 : Int32)) (aX4_readDeclaration 11 rfl) (by decide) ?_
    refine hw_callV (Bs := [.int ((1 : Int32))]) (rest := []) (aX4_readDeclaration 12 rfl) wc_RX4_69 (by decide) rfl wi_yX4_refuse wv_yX4_refuse (c110 hS46) (s110 hS46) rfl rfl rfl (Nat.le_of_ble_eq_true rfl) (Nat.le_of_ble_eq_true rfl) (k_refuse2 (d := d + 144) hS46 hF36 hI32 hR37 ((1 : Int32)) (by have := congrArg Int32.toInt (show FI29 110 7 = x1 from (gf_at f33 (c110 hS) (shd_f (by decide) (s110 hS)) rfl (h2))); have := congrArg Int32.toInt (show FI29 110 7 = x1 from (gf_at f33 (c110 hS) (shd_f (by decide) (s110 hS)) rfl (h2))); have := congrArg Int32.toInt (show FI29 111 4 = x4 from (gf_at f33 (c111 hS) (shd_f (by decide) (s111 hS)) rfl (h5))); omega) (by have := congrArg Int32.toInt (show FI29 110 5 = x7 from (gf_at f33 (c110 hS) (shd_f (by decide) (s110 hS)) rfl (h8))); have := congrArg Int32.toInt (show FI29 110 8 = x9 from (gf_at f33 (c110 hS) (shd_f (by decide) (s110 hS)) rfl (h10))); omega) (by have := congrArg Int32.toInt (show FI29 110 7 = x1 from (gf_at f33 (c110 hS) (shd_f (by decide) (s110 hS)) rfl (h2))); have := congrArg Int32.toInt (show FI29 111 4 = x4 from (gf_at f33 (c111 hS) (shd_f (by decide) (s111 hS)) rfl (h5))); have := congrArg Int32.toInt (show FI29 110 8 = x9 from (gf_at f33 (c110 hS) (shd_f (by decide) (s110 hS)) rfl (h10))); omega) (by have := ((by decide : (1 : Int32).toInt = 1) : ((1 : Int32)).toInt = 1); have := ((by decide : (1 : Int32).toInt = 1) : ((1 : Int32)).toInt = 1); omega)) (fun v460 sv461 p462 => ?_)
    have := congrArg Int32.toInt (show FI29 110 5 = x7 from (gf_at f33 (c110 hS) (shd_f (by decide) (s110 hS)) rfl (h8)))
    have := congrArg Int32.toInt (show FI29 110 5 = x7 from (gf_at f33 (c110 hS) (shd_f (by decide) (s110 hS)) rfl (h8)))
    obtain ⟨rfl, FI464, rfl, hI465, f466, t469, t470⟩ := p462
    have hT473 : g_T n42 SH44 FI464 FR31 gp gw gs := gT_mw (L := [(110, 5), (110, 6), (110, 8)]) (A := []) (T := []) (L2 := []) (A2 := []) (T2 := []) hS46 hT57 f466 gf_rf (by decide) (by decide)
    obtain ⟨x474, h475⟩ : ∃ y, FI464 110 5 = y := ⟨_, rfl⟩
    have h475l := congrArg Int32.toInt h475
    have := i_rng x474
    obtain ⟨x476, h477⟩ : ∃ y, FI464 110 8 = y := ⟨_, rfl⟩
    have h477l := congrArg Int32.toInt h477
    have := i_rng x476
    show hw sk base _ _ _ _ _ [] _ _
    refine xw_goto (tgt := 148) (aX4_readDeclaration 13 rfl) (by decide) ?_
    refine xw_vret (aX4_readDeclaration 77 rfl) rfl ?_
    exact ⟨rfl, n42, sl43, SH44, FI464, FL30, FR31, rfl, ex45, hS46, hI465, (gf_tr (ex_shd ex45) (gf_tr ex_rf gf_rf f33 rfl rfl rfl) f466 rfl rfl rfl), (gf_tr ex_rf gf_rf f34 rfl rfl rfl), (gf_tr ex_rf gf_rf f35 rfl rfl rfl), hF36, hR37, (by have := congrArg Int32.toInt (show FI464 110 7 = x1 from (gf_at f466 (c110 hS46) (shd_f (by decide) (s110 hS46)) rfl ((gf_at f33 (c110 hS) (shd_f (by decide) (s110 hS)) rfl (h2))))); omega), (by have := congrArg Int32.toInt (show FI464 110 5 = x474 from h475); have := congrArg Int32.toInt (show FI464 110 8 = x476 from h477); omega), (by have := congrArg Int32.toInt (show FI464 110 7 = x1 from (gf_at f466 (c110 hS46) (shd_f (by decide) (s110 hS46)) rfl ((gf_at f33 (c110 hS) (shd_f (by decide) (s110 hS)) rfl (h2))))); have := congrArg Int32.toInt (show FI464 110 8 = x476 from h477); omega), (by have := congrArg Int32.toInt (show FI464 110 7 = x1 from (gf_at f466 (c110 hS46) (shd_f (by decide) (s110 hS46)) rfl ((gf_at f33 (c110 hS) (shd_f (by decide) (s110 hS)) rfl (h2))))); omega), (by have := congrArg Int32.toInt (show FI464 110 5 = x474 from h475); omega), (by have := congrArg Int32.toInt (show FI464 110 4 = x11 from (gf_at f466 (c110 hS46) (shd_f (by decide) (s110 hS46)) rfl ((gf_at f33 (c110 hS) (shd_f (by decide) (s110 hS)) rfl (h12))))); have := congrArg Int32.toInt (show FI464 110 5 = x474 from h475); omega), (by have := congrArg Int32.toInt (show FI464 110 7 = x1 from (gf_at f466 (c110 hS46) (shd_f (by decide) (s110 hS46)) rfl ((gf_at f33 (c110 hS) (shd_f (by decide) (s110 hS)) rfl (h2))))); omega), (by have := congrArg Int32.toInt (show FI464 110 7 = x1 from (gf_at f466 (c110 hS46) (shd_f (by decide) (s110 hS46)) rfl ((gf_at f33 (c110 hS) (shd_f (by decide) (s110 hS)) rfl (h2))))); omega), (by omega), (by exact ⟨gp, gw, gs, hT473, hk0, trivial⟩), (by exact (show g_PV lo SH44 FR31 (FI464 110 3).toInt from ⟨pv, (show FR31 110 2 = some pv from (gf_at f35 (c110 hS) (shd_f (by decide) (s110 hS)) rfl (h16))), sh49, h18, h19, fun i hi => by have := congrArg Int32.toInt (show FI464 110 3 = x13 from (gf_at f466 (c110 hS46) (shd_f (by decide) (s110 hS46)) rfl ((gf_at f33 (c110 hS) (shd_f (by decide) (s110 hS)) rfl (h14))))); have hik : True := trivial;  obtain ⟨v, e1, e2, e3, e4⟩ := h20 i (by omega); have hv := gR_get hR lt22 ow23 h17 e1; exact ⟨v, (show FR31 pv i = FR pv i from (gf_at f35 lt22 (shd_d h18 h17) rfl (rfl))).trans e1, e2, e3, gV_gr hR hv.1 hv.2.1 ex45 (fun k => g_low_at (L := []) (A := []) (T := [1104, 1105]) (ts := [1010]) (t := 1010) (gf_tr ex_rf gf_rf f35 rfl rfl rfl) (by decide) hv.1 e3 (show (SH v).1 + 1000 = 1010 from congrArg (fun p : Nat × Nat => p.1 + 1000) hv.2.2) (by decide)) e4⟩ ⟩)), (by intro c9 k9 h9 ht9 hd9; have hv9 : c9 < n := Nat.lt_of_lt_of_le h9 g_lo; have hs9 : SH c9 = (104, (SH c9).2) := Prod.ext ht9 rfl; have hp9 : c9 ≠ pv := (by have := h19; omega); exact (gf_at f35 hv9 (shd_d hd9 hs9) rfl (rfl)))⟩
end
section
set_option maxHeartbeats 4000000 in
set_option maxRecDepth 100000 in
theorem k_take0 {sk : xK} {base d n sl : Nat} {SH : Nat → Nat × Nat} {FI : Nat → Nat → Int32} {FL : Nat → Nat → Int64} {FR : Nat → Nat → Option Nat} (hS : h_S n SH) (hF : h_FR FR) (hI : g_I FI) (hR : g_R n SH FR) (g0 : (FI 110 7).toInt = -1) (g1 : (FI 110 5).toInt = 0) (g2 : 1 ≤ (FI 111 4).toInt) (gg0 : g_K FI) : hw sk base d none 38 0 [(0, .ref (base + 110))] [] (n, sl, SH, FI, FL, FR) (h_V (fun s => ∃ FI' FL', s = (n, sl, SH, FI', FL', FR) ∧ g_I FI' ∧ g_fr n (shd SH) [(110, 7), (110, 8)] [] [] FI FI' ∧ g_fr n (shd SH) [(110, 9)] [] [] FL FL' ∧ ((FI' 110 7).toInt = 0) ∧ ((FI' 110 7).toInt + 1 < (FI 111 4).toInt ∨ (FI' 110 8).toInt ≤ 3))) := by
  obtain ⟨x1, h2⟩ : ∃ y, FI 110 7 = y := ⟨_, rfl⟩
  have h2l := congrArg Int32.toInt h2
  have b3 := gI_110_7 hI; rw [h2] at b3
  obtain ⟨x4, h5⟩ : ∃ y, FI 110 5 = y := ⟨_, rfl⟩
  have h5l := congrArg Int32.toInt h5
  have := i_rng x4
  obtain ⟨x6, h7⟩ : ∃ y, FI 111 4 = y := ⟨_, rfl⟩
  have h7l := congrArg Int32.toInt h7
  have b8 := gI_111_4 hI; rw [h7] at b8
  obtain ⟨x9, h10⟩ : ∃ y, FI 110 8 = y := ⟨_, rfl⟩
  have h10l := congrArg Int32.toInt h10
  have := i_rng x9
  refine hw_aloadn (aX4_take 0 rfl) rfl ?_
  refine hw_get (v := .int (x4)) (aX4_take 1 rfl) wf_RX4_39 (c110 hS) (s110 hS) (by decide) (congrArg Value.int (show FI 110 5 = x4 from h5)) ?_
  refine hw_ifne (tgt := 65) (aX4_take 2 rfl) (by decide) rfl (fun cd11 => ?_) (fun cd11 => ?_)
  · refine xw_vret (aX4_take 33 rfl) rfl ?_
    exact ⟨rfl, FI, FL, rfl, hI, gf_rf, gf_rf, (by have := congrArg Int32.toInt (show FI 110 7 = x1 from h2); omega), (by have := congrArg Int32.toInt (show FI 110 7 = x1 from h2); have := congrArg Int32.toInt (show FI 110 8 = x9 from h10); omega)⟩
  · refine hw_aloadn (aX4_take 3 rfl) rfl ?_
    refine hw_get (v := .int (x1)) (aX4_take 4 rfl) wf_RX4_45 (c110 hS) (s110 hS) (by decide) (congrArg Value.int (show FI 110 7 = x1 from h2)) ?_
    refine hw_ic (v := (1 : Int32)) (aX4_take 5 rfl) (by decide) ?_
    refine xw_iadd (aX4_take 6 rfl) ?_
    refine hw_tie (A := ((x1).toInt) + (1)) (i_add rfl (by decide : (1 : Int32).toInt = 1) (by omega) (by omega)) (fun x12 e13 => ?_)
    refine hw_aloadn (aX4_take 7 rfl) rfl ?_
    refine hw_get (v := .ref (base + 111)) (aX4_take 8 rfl) wf_RX4_12 (c110 hS) (s110 hS) (by decide) (congrArg (fun r => va_rf (h_rf base r)) (r110_0 hF)) ?_
    refine hw_get (v := .int (x6)) (aX4_take 9 rfl) wf_RX4_54 (c111 hS) (s111 hS) (by decide) (congrArg Value.int (show FI 111 4 = x6 from h7)) ?_
    refine hw_icge (tgt := 65) (aX4_take 10 rfl) (by decide) e13 rfl (fun cd14 => ?_) (fun cd14 => ?_)
    · refine xw_vret (aX4_take 33 rfl) rfl ?_
      exact ⟨rfl, FI, FL, rfl, hI, gf_rf, gf_rf, (by have := congrArg Int32.toInt (show FI 110 7 = x1 from h2); omega), (by have := congrArg Int32.toInt (show FI 110 7 = x1 from h2); have := congrArg Int32.toInt (show FI 110 8 = x9 from h10); omega)⟩
    · refine hw_aloadn (aX4_take 11 rfl) rfl ?_
      refine xw_dup (aX4_take 12 rfl) rfl ?_
      refine hw_get (v := .int (x1)) (aX4_take 13 rfl) wf_RX4_45 (c110 hS) (s110 hS) (by decide) (congrArg Value.int (show FI 110 7 = x1 from h2)) ?_
      refine hw_ic (v := (1 : Int32)) (aX4_take 14 rfl) (by decide) ?_
      refine xw_iadd (aX4_take 15 rfl) ?_
      refine hw_tie (A := ((x1).toInt) + (1)) (i_add rfl (by decide : (1 : Int32).toInt = 1) (by omega) (by omega)) (fun x15 e16 => ?_)
      refine hv_puti (aX4_take 16 rfl) wf_RX4_45 (c110 hS) (s110 hS) (by decide) rfl rfl (fun FI17 u18 => ?_)
      have hI19 : g_I FI17 := gU_110_7 hI u18 (by have := (e16 : (x15).toInt = ((x1).toInt) + (1)); omega) (by have := (e16 : (x15).toInt = ((x1).toInt) + (1)); omega)
      refine hw_aloadn (aX4_take 17 rfl) rfl ?_
      refine hw_aloadn (aX4_take 18 rfl) rfl ?_
      refine hw_get (v := .ref (base + 111)) (aX4_take 19 rfl) wf_RX4_12 (c110 hS) (s110 hS) (by decide) (congrArg (fun r => va_rf (h_rf base r)) (r110_0 hF)) ?_
      refine hw_get (v := .ref (base + 112)) (aX4_take 20 rfl) wf_RX4_55 (c111 hS) (s111 hS) (by decide) (congrArg (fun r => va_rf (h_rf base r)) (r111_0 hF)) ?_
      refine hw_aloadn (aX4_take 21 rfl) rfl ?_
      refine hw_get (v := .int (x15)) (aX4_take 22 rfl) wf_RX4_45 (c110 hS) (s110 hS) (by decide) (congrArg Value.int (show FI17 110 7 = x15 from up_eq u18)) ?_
      obtain ⟨x20, h21⟩ : ∃ y, FI17 112 (x15).toNatClampNeg = y := ⟨_, rfl⟩
      have h21l := congrArg Int32.toInt h21
      have := i_rng x20
      refine hw_iald (v := x20) (aX4_take 23 rfl) (c112 hS) (s112 hS) (h_in e16 (by omega) (by omega)) (show FI17 112 (x15).toNatClampNeg = x20 from h21) ?_
      have hk3 : (x15).toInt + 1 < (x6).toInt ∨ (x20).toInt ≤ 3 := by { by_cases hq : (x15).toInt + 1 = (x6).toInt; { right; have h9 := gg0.2.1; have e9 : ((FI 111 4).toInt - 1).toNat = (x15).toNatClampNeg := (by show _ = (x15).toInt.toNat; have := (e16 : (x15).toInt = ((x1).toInt) + (1)); omega); rw [e9, ← (show FI17 112 _ = FI 112 _ from up_c u18 (by decide) rfl), show FI17 112 _ = x20 from h21] at h9; exact h9 }; { left; have := (e16 : (x15).toInt = ((x1).toInt) + (1)); omega } }
      refine hv_puti (aX4_take 24 rfl) wf_RX4_51 (c110 hS) (s110 hS) (by decide) rfl rfl (fun FI22 u23 => ?_)
      have hI24 : g_I FI22 := gU_F hI19 u23 rfl
      refine hw_aloadn (aX4_take 25 rfl) rfl ?_
      refine hw_aloadn (aX4_take 26 rfl) rfl ?_
      refine hw_get (v := .ref (base + 111)) (aX4_take 27 rfl) wf_RX4_12 (c110 hS) (s110 hS) (by decide) (congrArg (fun r => va_rf (h_rf base r)) (r110_0 hF)) ?_
      refine hw_get (v := .ref (base + 113)) (aX4_take 28 rfl) wf_RX4_58 (c111 hS) (s111 hS) (by decide) (congrArg (fun r => va_rf (h_rf base r)) (r111_1 hF)) ?_
      refine hw_aloadn (aX4_take 29 rfl) rfl ?_
      refine hw_get (v := .int (x15)) (aX4_take 30 rfl) wf_RX4_45 (c110 hS) (s110 hS) (by decide) (congrArg Value.int (show FI22 110 7 = x15 from (up_k u23 (by decide) (up_eq u18)))) ?_
      obtain ⟨x25, h26⟩ : ∃ y, FL 113 (x15).toNatClampNeg = y := ⟨_, rfl⟩
      have h26l := congrArg Int64.toInt h26
      have := l_rng x25
      refine hw_lald (v := x25) (aX4_take 31 rfl) (c113 hS) (s113 hS) (h_in e16 (by omega) (by omega)) (show FL 113 (x15).toNatClampNeg = x25 from h26) ?_
      refine hv_putl (aX4_take 32 rfl) wf_RX4_62 (c110 hS) (s110 hS) (by decide) rfl rfl (fun FL27 u28 => ?_)
      refine xw_vret (aX4_take 33 rfl) rfl ?_
      exact ⟨rfl, FI22, FL27, rfl, hI24, (gf_f (gf_f gf_rf u18 (by decide)) u23 (by decide)), (gf_f gf_rf u28 (by decide)), (by have := congrArg Int32.toInt (show FI22 110 7 = x15 from (up_k u23 (by decide) (up_eq u18))); have := (e16 : (x15).toInt = ((x1).toInt) + (1)); omega), (by have := congrArg Int32.toInt (show FI22 110 7 = x15 from (up_k u23 (by decide) (up_eq u18))); have := (e16 : (x15).toInt = ((x1).toInt) + (1)); have := congrArg Int32.toInt (show FI22 110 8 = x20 from up_eq u23); omega)⟩
def nX4_begin : Nat := 0xb13000b62a2d00b5022a2a00b5022a2700b5032a2400b5032a2000b5032a1800b51600bd0c102a1c00b61c2b0c00b42a
theorem bX4_begin : cX4_begin.data.toList.map UInt8.toNat = x_un nX4_begin 48 := by decide +kernel
def iX4_begin : List (Nat × Jvm.ClassFile.Instr × Nat) := [(0, .aload_n 0, 1), (1, .getfield 12, 3), (4, .aload_n 1, 1), (5, .iload_n 2, 1), (6, .invokevirtual 28, 3), (9, .aload_n 0, 1), (10, .bipush 12, 2), (12, .anewarray 22, 3), (15, .putfield 24, 3), (18, .aload_n 0, 1), (19, .iconst 0, 1), (20, .putfield 32, 3), (23, .aload_n 0, 1), (24, .iconst 0, 1), (25, .putfield 36, 3), (28, .aload_n 0, 1), (29, .iconst 0, 1), (30, .putfield 39, 3), (33, .aload_n 0, 1), (34, .iconst (-1), 1), (35, .putfield 42, 3), (38, .aload_n 0, 1), (39, .iconst (-1), 1), (40, .putfield 45, 3), (43, .aload_n 0, 1), (44, .invokevirtual 48, 3), (47, .return_, 1)]
theorem dX4_begin : x_il nX4_begin 48 iX4_begin = true := by decide +kernel
theorem aX4_begin (k : Nat) {pc : Nat} {i : Jvm.ClassFile.Instr} {len : Nat} (hk : iX4_begin[k]? = some (pc, i, len)) : x_at xMM 36 pc i len yX4_begin 3 none := ⟨cX4_begin, rfl, x_il_ok bX4_begin dX4_begin k hk⟩
set_option maxHeartbeats 4000000 in
set_option maxRecDepth 100000 in
theorem k_X4_begin {sk : xK} {base d n sl : Nat} {SH : Nat → Nat × Nat} {FI : Nat → Nat → Int32} {FL : Nat → Nat → Int64} {FR : Nat → Nat → Option Nat} (hS : h_S n SH) (hF : h_FR FR) (hI : g_I FI) (hR : g_R n SH FR) (a2 : Int32) (gp : Nat → Nat) (gw : Nat → Nat) (gs : Nat → Nat) (g0 : 0 ≤ (a2).toInt ∧ (a2).toInt ≤ 1000) (gg0 : g_T n SH FI FR gp gw gs) : hw sk base (d + 9) none 36 0 [(0, .ref (base + 110)), (1, .ref (base + 19)), (2, .int (a2))] [] (n, sl, SH, FI, FL, FR) (h_V (fun s => ∃ n' sl' SH' FI' FL' FR', s = (n', sl', SH', FI', FL', FR') ∧ g_ex n SH n' SH' ∧ h_S n' SH' ∧ g_I FI' ∧ g_fr n (shd SH) [(110, 3), (110, 4), (110, 5), (110, 6), (110, 7), (110, 8), (111, 4), (111, 6), (111, 7), (111, 8), (111, 9)] [112, 114, 115] [] FI FI' ∧ g_fr n (shd SH) [(110, 9), (111, 10)] [113] [] FL FL' ∧ g_fr n (shd SH) [(110, 2), (111, 5)] [] [] FR FR' ∧ h_FR FR' ∧ g_R n' SH' FR' ∧ ((FI' 110 5).toInt = 0) ∧ ((FI' 110 4).toInt = 0) ∧ (0 ≤ (FI' 110 7).toInt ∧ (FI' 110 7).toInt < (FI' 111 4).toInt) ∧ ((FI' 110 7).toInt + 1 < (FI' 111 4).toInt ∨ (FI' 110 8).toInt ≤ 3) ∧ ((FI' 111 4).toInt ≤ (a2).toInt + 2) ∧ (n' = n + 1) ∧ (sl' = sl + 12) ∧ ((FI' 110 7).toInt = 0) ∧ (∃ gp2 gw2 gs2, g_T n' SH' FI' FR' gp2 gw2 gs2 ∧ (∀ c, c < n → gp2 c = gp c ∧ gw2 c = gw c ∧ gs2 c = gs c) ∧ True) ∧ (g_K FI') ∧ (g_PV n SH' FR' (FI' 110 3).toInt) ∧ (FR' 111 5 = some 19))) := by
  have rg_a2 := i_rng a2
  have hk0 : ∀ c, c < n → gp c = gp c ∧ gw c = gw c ∧ gs c = gs c := fun _ _ => ⟨rfl, rfl, rfl⟩
  obtain ⟨x1, h2⟩ : ∃ y, FI 110 5 = y := ⟨_, rfl⟩
  have h2l := congrArg Int32.toInt h2
  have := i_rng x1
  obtain ⟨x3, h4⟩ : ∃ y, FI 110 4 = y := ⟨_, rfl⟩
  have h4l := congrArg Int32.toInt h4
  have := i_rng x3
  obtain ⟨x5, h6⟩ : ∃ y, FI 110 7 = y := ⟨_, rfl⟩
  have h6l := congrArg Int32.toInt h6
  have b7 := gI_110_7 hI; rw [h6] at b7
  obtain ⟨x8, h9⟩ : ∃ y, FI 111 4 = y := ⟨_, rfl⟩
  have h9l := congrArg Int32.toInt h9
  have b10 := gI_111_4 hI; rw [h9] at b10
  obtain ⟨x11, h12⟩ : ∃ y, FI 110 8 = y := ⟨_, rfl⟩
  have h12l := congrArg Int32.toInt h12
  have := i_rng x11
  refine hw_aloadn (aX4_begin 0 rfl) rfl ?_
  refine hw_get (v := .ref (base + 111)) (aX4_begin 1 rfl) wf_RX4_12 (c110 hS) (s110 hS) (by decide) (congrArg (fun r => va_rf (h_rf base r)) (r110_0 hF)) ?_
  refine hw_aloadn (aX4_begin 2 rfl) rfl ?_
  refine xw_iloadn (aX4_begin 3 rfl) rfl ?_
  refine hw_callV (Bs := [.ref (base + 19), .int (a2)]) (rest := []) (aX4_begin 4 rfl) wc_RX4_28 (by decide) rfl wi_yX7_readAll wv_yX7_readAll (c111 hS) (s111 hS) rfl rfl rfl (Nat.le_of_ble_eq_true rfl) (Nat.le_of_ble_eq_true rfl) (k_X7_readAll (d := d) hS hF hI hR (a2) (by omega)) (fun v13 sv14 p15 => ?_)
  obtain ⟨rfl, FI17, FL18, FR19, rfl, hI20, f21, f22, f23, hF24, hR25, t26, u27, u28⟩ := p15
  have hT31 : g_T n SH FI17 FR19 gp gw gs := gT_mw (L := [(111, 4), (111, 6), (111, 7), (111, 8), (111, 9)]) (A := [112, 114, 115]) (T := []) (L2 := [(111, 5)]) (A2 := []) (T2 := []) hS gg0 f21 f23 (by decide) (by decide)
  obtain ⟨x32, h33⟩ : ∃ y, FI17 111 4 = y := ⟨_, rfl⟩
  have h33l := congrArg Int32.toInt h33
  have b34 := gI_111_4 hI20; rw [h33] at b34
  show hw sk base _ _ _ _ _ [] _ _
  refine hw_aloadn (aX4_begin 5 rfl) rfl ?_
  refine hw_bp (v := (12 : Int32)) (aX4_begin 6 rfl) (by decide) ?_
  refine hv_newq (k := 4) (z := 12) hS hF24 hI20 hR25 (by unfold g_dt; omega) (aX4_begin 7 rfl) rfl (by decide) (tin_2 (i := 52) rfl rfl) (nin_1 (i := 87) rfl rfl) (by decide) (by decide) (by decide) (fun n35 sl36 SH37 FI38 FL39 FR40 hsl41 nw42 => ?_)
  obtain ⟨hn43, ex44, hS45, hF46, hI47, hR48, lt49, sh50, dy51, eI52, eL53, eR54, zI55, zL56, zR57⟩ := nw42
  have hK58 := gK_nw u27 dy51 eI52
  obtain ⟨gp59, hg60⟩ : ∃ f, f = va_up gp n (0) := ⟨_, rfl⟩
  have : gp59 n = 0 := by rw [hg60]; exact va_s
  obtain ⟨gw61, hg62⟩ : ∃ f, f = va_up gw n (0) := ⟨_, rfl⟩
  have : gw61 n = 0 := by rw [hg62]; exact va_s
  obtain ⟨gs63, hg64⟩ : ∃ f, f = va_up gs n (0) := ⟨_, rfl⟩
  have : gs63 n = 0 := by rw [hg64]; exact va_s
  have hk65 : ∀ c, c < n → gp59 c = gp c ∧ gw61 c = gw c ∧ gs63 c = gs c := fun c hc => by
    obtain ⟨k1, k2, k3⟩ := hk0 c hc
    exact ⟨by rw [hg60]; exact (va_o (show c ≠ n from Nat.ne_of_lt (Nat.lt_of_lt_of_le hc (Nat.le_refl _)))).trans k1, by rw [hg62]; exact (va_o (show c ≠ n from Nat.ne_of_lt (Nat.lt_of_lt_of_le hc (Nat.le_refl _)))).trans k2, by rw [hg64]; exact (va_o (show c ≠ n from Nat.ne_of_lt (Nat.lt_of_lt_of_le hc (Nat.le_refl _)))).trans k3⟩
  have hT66 : g_T n35 SH37 FI38 FR40 gp59 gw61 gs63 := by rw [hg60, hg62, hg64]; exact gT_mk hS hR25 hT31 hn43 ex44 sh50 (by decide) (fun c hc => eI52 c 0 (Nat.ne_of_lt hc)) (fun c k hc => eR54 c k (Nat.ne_of_lt hc)) zR57
  refine hv_putr (r := some (n)) (aX4_begin 8 rfl) wf_RX4_24 (c110 hS45) (s110 hS45) (by decide) (by first | exact Or.inl ⟨_, rfl⟩ | exact Or.inr ⟨_, rfl⟩) (Or.inl rfl) (fun FR67 u68 => ?_)
  have hT69 : g_T n35 SH37 FI38 FR67 gp59 gw61 gs63 := gT_wo hT66 (by rw [(s110 hS45)]; decide) (by rw [(s110 hS45)]; decide) u68
  have hF70 : h_FR FR67 := hF_up hS45 hF46 u68 (s110 hS45) (by decide +kernel)
  have hR71 : g_R n35 SH37 FR67 := gR_up hR48 u68 (s110 hS45) (fun r e => by cases e; exact ⟨lt49, (Or.inr dy51), by rw [sh50]; rfl⟩) (fun h => absurd h (by have := (by decide : 110 < 176); omega)) (fun _ => by simp) (fun h => absurd h.1 (by decide))
  refine hw_aloadn (aX4_begin 9 rfl) rfl ?_
  refine hw_ic (v := (0 : Int32)) (aX4_begin 10 rfl) (by decide) ?_
  refine hv_puti (aX4_begin 11 rfl) wf_RX4_32 (c110 hS45) (s110 hS45) (by decide) rfl rfl (fun FI72 u73 => ?_)
  have hK74 := gK_up hK58 (by decide) u73
  have hT75 : g_T n35 SH37 FI72 FR67 gp59 gw61 gs63 := gT_wi hT69 (fun h => absurd h (by rw [(s110 hS45)]; decide)) u73
  have hI76 : g_I FI72 := gU_110_3 hI47 u73 (by have := ((by decide : (0 : Int32).toInt = 0) : ((0 : Int32)).toInt = 0); omega) (by have := ((by decide : (0 : Int32).toInt = 0) : ((0 : Int32)).toInt = 0); omega)
  refine hw_aloadn (aX4_begin 12 rfl) rfl ?_
  refine hw_ic (v := (0 : Int32)) (aX4_begin 13 rfl) (by decide) ?_
  refine hv_puti (aX4_begin 14 rfl) wf_RX4_36 (c110 hS45) (s110 hS45) (by decide) rfl rfl (fun FI77 u78 => ?_)
  have hK79 := gK_up hK74 (by decide) u78
  have hT80 : g_T n35 SH37 FI77 FR67 gp59 gw61 gs63 := gT_wi hT75 (fun h => absurd h (by rw [(s110 hS45)]; decide)) u78
  have hI81 : g_I FI77 := gU_F hI76 u78 rfl
  refine hw_aloadn (aX4_begin 15 rfl) rfl ?_
  refine hw_ic (v := (0 : Int32)) (aX4_begin 16 rfl) (by decide) ?_
  refine hv_puti (aX4_begin 17 rfl) wf_RX4_39 (c110 hS45) (s110 hS45) (by decide) rfl rfl (fun FI82 u83 => ?_)
  have hK84 := gK_up hK79 (by decide) u83
  have hT85 : g_T n35 SH37 FI82 FR67 gp59 gw61 gs63 := gT_wi hT80 (fun h => absurd h (by rw [(s110 hS45)]; decide)) u83
  have hI86 : g_I FI82 := gU_F hI81 u83 rfl
  refine hw_aloadn (aX4_begin 18 rfl) rfl ?_
  refine hw_ic (v := ((-1) : Int32)) (aX4_begin 19 rfl) (by decide) ?_
  refine hv_puti (aX4_begin 20 rfl) wf_RX4_42 (c110 hS45) (s110 hS45) (by decide) rfl rfl (fun FI87 u88 => ?_)
  have hK89 := gK_up hK84 (by decide) u88
  have hT90 : g_T n35 SH37 FI87 FR67 gp59 gw61 gs63 := gT_wi hT85 (fun h => absurd h (by rw [(s110 hS45)]; decide)) u88
  have hI91 : g_I FI87 := gU_F hI86 u88 rfl
  refine hw_aloadn (aX4_begin 21 rfl) rfl ?_
  refine hw_ic (v := ((-1) : Int32)) (aX4_begin 22 rfl) (by decide) ?_
  refine hv_puti (aX4_begin 23 rfl) wf_RX4_45 (c110 hS45) (s110 hS45) (by decide) rfl rfl (fun FI92 u93 => ?_)
  have hK94 := gK_up hK89 (by decide) u93
  have hT95 : g_T n35 SH37 FI92 FR67 gp59 gw61 gs63 := gT_wi hT90 (fun h => absurd h (by rw [(s110 hS45)]; decide)) u93
  have hI96 : g_I FI92 := gU_110_7 hI91 u93 (by have := ((by decide : ((-1) : Int32).toInt = (-1)) : (((-1) : Int32)).toInt = (-1)); omega) (by have := ((by decide : ((-1) : Int32).toInt = (-1)) : (((-1) : Int32)).toInt = (-1)); omega)
  have := hK94.1
  refine hw_aloadn (aX4_begin 24 rfl) rfl ?_
  refine hw_callV (Bs := []) (rest := []) (aX4_begin 25 rfl) wc_RX4_48 (by decide) rfl wi_yX4_take wv_yX4_take (c110 hS45) (s110 hS45) rfl rfl rfl (Nat.le_of_ble_eq_true rfl) (Nat.le_of_ble_eq_true rfl) (k_take0 (d := d + 8) hS45 hF70 hI96 hR71 (by have := congrArg Int32.toInt (show FI92 110 7 = ((-1) : Int32) from up_eq u93); have := ((by decide : ((-1) : Int32).toInt = (-1)) : (((-1) : Int32)).toInt = (-1)); omega) (by have := congrArg Int32.toInt (show FI92 110 5 = (0 : Int32) from (up_k u93 (by decide) ((up_k u88 (by decide) (up_eq u83))))); have := ((by decide : (0 : Int32).toInt = 0) : ((0 : Int32)).toInt = 0); omega) (by have := congrArg Int32.toInt (show FI92 111 4 = x32 from (up_c u93 (by decide) ((up_c u88 (by decide) ((up_c u83 (by decide) ((up_c u78 (by decide) ((up_c u73 (by decide) (((eI52 111 (4) (Nat.ne_of_lt (c111 hS))).trans (h33))))))))))))); omega) (hK94)) (fun v97 sv98 p99 => ?_)
  have := congrArg Int32.toInt (show FI92 111 4 = x32 from (up_c u93 (by decide) ((up_c u88 (by decide) ((up_c u83 (by decide) ((up_c u78 (by decide) ((up_c u73 (by decide) (((eI52 111 (4) (Nat.ne_of_lt (c111 hS))).trans (h33)))))))))))))
  obtain ⟨rfl, FI101, FL102, rfl, hI103, f104, f105, t108, t109⟩ := p99
  have hK112 := gK_mx (L := [(110, 7), (110, 8)]) (A := []) (T := []) hS45 hK94 f104 (by decide)
  have hT113 : g_T n35 SH37 FI101 FR67 gp59 gw61 gs63 := gT_mw (L := [(110, 7), (110, 8)]) (A := []) (T := []) (L2 := []) (A2 := []) (T2 := []) hS45 hT95 f104 gf_rf (by decide) (by decide)
  obtain ⟨x114, h115⟩ : ∃ y, FI101 110 7 = y := ⟨_, rfl⟩
  have h115l := congrArg Int32.toInt h115
  have b116 := gI_110_7 hI103; rw [h115] at b116
  obtain ⟨x117, h118⟩ : ∃ y, FI101 110 8 = y := ⟨_, rfl⟩
  have h118l := congrArg Int32.toInt h118
  have := i_rng x117
  show hw sk base _ _ _ _ _ [] _ _
  refine xw_vret (aX4_begin 26 rfl) rfl ?_
  exact ⟨rfl, n35, sl36, SH37, FI101, FL102, FR67, rfl, ex44, hS45, hI103, (gf_tr (ex_shd ex44) (gf_f (gf_f (gf_f (gf_f (gf_f (gf_al (gf_tr ex_rf gf_rf f21 rfl rfl rfl) (Nat.le_refl _) eI52) u73 (by decide)) u78 (by decide)) u83 (by decide)) u88 (by decide)) u93 (by decide)) f104 rfl rfl rfl), (gf_tr (ex_shd ex44) (gf_al (gf_tr ex_rf gf_rf f22 rfl rfl rfl) (Nat.le_refl _) eL53) f105 rfl rfl rfl), (gf_f (gf_al (gf_tr ex_rf gf_rf f23 rfl rfl rfl) (Nat.le_refl _) eR54) u68 (by decide)), hF70, hR71, (by have := congrArg Int32.toInt (show FI101 110 5 = (0 : Int32) from (gf_at f104 (c110 hS45) (shd_f (by decide) (s110 hS45)) rfl ((up_k u93 (by decide) ((up_k u88 (by decide) (up_eq u83))))))); have := ((by decide : (0 : Int32).toInt = 0) : ((0 : Int32)).toInt = 0); omega), (by have := congrArg Int32.toInt (show FI101 110 4 = (0 : Int32) from (gf_at f104 (c110 hS45) (shd_f (by decide) (s110 hS45)) rfl ((up_k u93 (by decide) ((up_k u88 (by decide) ((up_k u83 (by decide) (up_eq u78))))))))); have := ((by decide : (0 : Int32).toInt = 0) : ((0 : Int32)).toInt = 0); omega), (by have := congrArg Int32.toInt (show FI101 111 4 = x32 from (gf_at f104 (c111 hS45) (shd_f (by decide) (s111 hS45)) rfl ((up_c u93 (by decide) ((up_c u88 (by decide) ((up_c u83 (by decide) ((up_c u78 (by decide) ((up_c u73 (by decide) (((eI52 111 (4) (Nat.ne_of_lt (c111 hS))).trans (h33))))))))))))))); have := congrArg Int32.toInt (show FI101 110 7 = x114 from h115); omega), (by have := congrArg Int32.toInt (show FI101 111 4 = x32 from (gf_at f104 (c111 hS45) (shd_f (by decide) (s111 hS45)) rfl ((up_c u93 (by decide) ((up_c u88 (by decide) ((up_c u83 (by decide) ((up_c u78 (by decide) ((up_c u73 (by decide) (((eI52 111 (4) (Nat.ne_of_lt (c111 hS))).trans (h33))))))))))))))); have := congrArg Int32.toInt (show FI101 110 7 = x114 from h115); have := congrArg Int32.toInt (show FI101 110 8 = x117 from h118); omega), (by have := congrArg Int32.toInt (show FI101 111 4 = x32 from (gf_at f104 (c111 hS45) (shd_f (by decide) (s111 hS45)) rfl ((up_c u93 (by decide) ((up_c u88 (by decide) ((up_c u83 (by decide) ((up_c u78 (by decide) ((up_c u73 (by decide) (((eI52 111 (4) (Nat.ne_of_lt (c111 hS))).trans (h33))))))))))))))); omega), (by omega), (by omega), (by have := congrArg Int32.toInt (show FI101 110 7 = x114 from h115); omega), (by exact ⟨gp59, gw61, gs63, hT113, hk65, trivial⟩), (by exact hK112), (by exact ⟨n, (show FR67 110 2 = some n from up_eq u68), sh50, dy51, Nat.le_refl _, fun i hi => absurd hi (by have := congrArg Int32.toInt (show FI101 110 3 = (0 : Int32) from (gf_at f104 (c110 hS45) (shd_f (by decide) (s110 hS45)) rfl ((up_k u93 (by decide) ((up_k u88 (by decide) ((up_k u83 (by decide) ((up_k u78 (by decide) (up_eq u73))))))))))); have : ((0 : Int32)).toInt = 0 := (by decide); omega)⟩), (by exact (up_c u68 (by decide) (((eR54 111 (5) (Nat.ne_of_lt (c111 hS))).trans (u28)))))⟩
end
