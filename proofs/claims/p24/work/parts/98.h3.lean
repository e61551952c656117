def nX4_readUnary : Nat := 0xb02b4500b6042a0800a72400b564042400b4592a5300b629102aba00b59600b62a2b3000b62a2700997500b62a2e00a72400b564042400b4592aba00b5c300b62a2b3000b62a4700997500b62a4e00a75300b6082ad000b59100b62a2b3000b62a6200a73000b62a770000007e000000770000002d00000097000000280000006300000025000000770000000e0000005c0000000d0000005c0000000c0000005c0000000b00000077000000060000005c000000050000000a000000bd000000000000abcf00b42b4cb700b73e00b42a3300b42a59b500bb
theorem bX4_readUnary : cX4_readUnary.data.toList.map UInt8.toNat = x_un nX4_readUnary 216 := by decide +kernel
def iX4_readUnary : List (Nat × Jvm.ClassFile.Instr × Nat) := [(0, .new 181, 3), (3, .dup, 1), (4, .aload_n 0, 1), (5, .getfield 51, 3), (8, .aload_n 0, 1), (9, .getfield 62, 3), (12, .invokespecial 183, 3), (15, .astore_n 1, 1), (16, .aload_n 1, 1), (17, .getfield 207, 3), (112, .aload_n 0, 1), (113, .invokevirtual 48, 3), (116, .goto 98, 3), (119, .aload_n 0, 1), (120, .invokevirtual 48, 3), (123, .aload_n 1, 1), (124, .aload_n 0, 1), (125, .invokevirtual 145, 3), (128, .putfield 208, 3), (131, .aload_n 0, 1), (132, .iconst 5, 1), (133, .invokevirtual 83, 3), (136, .goto 78, 3), (139, .aload_n 0, 1), (140, .invokevirtual 117, 3), (143, .ifCond .eq 71, 3), (146, .aload_n 0, 1), (147, .invokevirtual 48, 3), (150, .aload_n 1, 1), (151, .aload_n 0, 1), (152, .invokevirtual 195, 3), (155, .putfield 186, 3), (158, .aload_n 0, 1), (159, .dup, 1), (160, .getfield 36, 3), (163, .iconst 1, 1), (164, .isub, 1), (165, .putfield 36, 3), (168, .goto 46, 3), (171, .aload_n 0, 1), (172, .invokevirtual 117, 3), (175, .ifCond .eq 39, 3), (178, .aload_n 0, 1), (179, .invokevirtual 48, 3), (182, .aload_n 1, 1), (183, .aload_n 0, 1), (184, .invokevirtual 150, 3), (187, .putfield 186, 3), (190, .aload_n 0, 1), (191, .bipush 41, 2), (193, .invokevirtual 83, 3), (196, .aload_n 0, 1), (197, .dup, 1), (198, .getfield 36, 3), (201, .iconst 1, 1), (202, .isub, 1), (203, .putfield 36, 3), (206, .goto 8, 3), (209, .aload_n 0, 1), (210, .iconst 1, 1), (211, .invokevirtual 69, 3), (214, .aload_n 1, 1), (215, .areturn, 1)]
theorem dX4_readUnary : x_il nX4_readUnary 216 iX4_readUnary = true := by decide +kernel
theorem aX4_readUnary (k : Nat) {pc : Nat} {i : Jvm.ClassFile.Instr} {len : Nat} (hk : iX4_readUnary[k]? = some (pc, i, len)) : x_at xMM 56 pc i len yX4_readUnary 2 (some (.object "LocationDesk$Node")) := ⟨cX4_readUnary, rfl, x_il_ok bX4_readUnary dX4_readUnary k hk⟩
theorem aX4_readUnary_20 : x_at xMM 56 20 (.lookupswitch 189 #[(5, 92), (6, 119), (11, 92), (12, 92), (13, 92), (14, 119), (37, 99), (40, 151), (45, 119), (126, 119)]) 92 yX4_readUnary 2 (some (.object "LocationDesk$Node")) := ⟨cX4_readUnary, rfl, by decide +kernel⟩
set_option maxHeartbeats 4000000 in
set_option maxRecDepth 100000 in
theorem k_unaryF {sk : xK} {base d n sl : Nat} {SH : Nat → Nat × Nat} {FI : Nat → Nat → Int32} {FL : Nat → Nat → Int64} {FR : Nat → Nat → Option Nat} (hS : h_S n SH) (hF : h_FR FR) (hI : g_I FI) (hR : g_R n SH FR) (gp : Nat → Nat) (gw : Nat → Nat) (gs : Nat → Nat) (g0 : 0 ≤ (FI 110 7).toInt ∧ (FI 110 7).toInt < (FI 111 4).toInt) (g1 : (FI 110 5).toInt = 0 ∨ (FI 110 8).toInt = 1) (g2 : (FI 110 7).toInt + 1 < (FI 111 4).toInt ∨ (FI 110 8).toInt ≤ 3) (g3 : (FI 110 5).toInt ≠ 0) (gg0 : g_T n SH FI FR gp gw gs) (gg1 : g_K FI) : hw sk base (d + 2) none 56 0 [(0, .ref (base + 110))] [] (n, sl, SH, FI, FL, FR) (h_A base (fun r s => ∃ n' sl' SH' FI' FL' FR', s = (n', sl', SH', FI', FL', FR') ∧ g_ex n SH n' SH' ∧ h_S n' SH' ∧ g_I FI' ∧ g_fr n (shd SH) [(110, 4), (110, 5), (110, 6), (110, 7), (110, 8)] [] [] FI FI' ∧ g_fr n (shd SH) [(110, 9)] [] [] FL FL' ∧ g_fr n (shd SH) [] [] [] FR FR' ∧ h_FR FR' ∧ g_R n' SH' FR' ∧ (0 ≤ (FI' 110 7).toInt ∧ (FI' 110 7).toInt < (FI 111 4).toInt) ∧ ((FI' 110 5).toInt = 0 ∨ (FI' 110 8).toInt = 1) ∧ ((FI' 110 7).toInt + 1 < (FI 111 4).toInt ∨ (FI' 110 8).toInt ≤ 3) ∧ ((FI 110 7).toInt ≤ (FI' 110 7).toInt) ∧ ((FI 110 5).toInt = 0 ∨ (FI' 110 5).toInt = (FI 110 5).toInt) ∧ ((FI' 110 5).toInt ≠ 0 ∨ (FI' 110 4).toInt = (FI 110 4).toInt) ∧ ((n' : Int) ≤ n + 17 * ((FI' 110 7).toInt - (FI 110 7).toInt) + 1) ∧ ((sl' : Int) ≤ sl + 7 * ((n' : Int) - n)) ∧ ((n : Int) ≤ n') ∧ (∃ gp2 gw2 gs2, g_T n' SH' FI' FR' gp2 gw2 gs2 ∧ (∀ c, c < n → gp2 c = gp c ∧ gw2 c = gw c ∧ gs2 c = gs c) ∧ (∀ q, r = some q → gp2 q = 0 ∧ gw2 q + 20 + 40 * n ≤ 40 * n' ∧ FR' q 6 = none)) ∧ (∀ q, r = some q → q < n' ∧ own q ∧ SH' q = (3, (SH' q).2)) ∧ r ≠ none ∧ (∀ q, r = some q → n ≤ q))) := by
  have hk0 : ∀ c, c < n → gp c = gp c ∧ gw c = gw c ∧ gs c = gs c := fun _ _ => ⟨rfl, rfl, rfl⟩
  obtain ⟨x1, h2⟩ : ∃ y, FI 110 7 = y := ⟨_, rfl⟩
  have h2l := congrArg Int32.toInt h2
  have b3 := gI_110_7 hI; rw [h2] at b3
  obtain ⟨x4, h5⟩ : ∃ y, FI 111 4 = y := ⟨_, rfl⟩
  have h5l := congrArg Int32.toInt h5
  have b6 := gI_111_4 hI; rw [h5] at b6
  obtain ⟨x7, h8⟩ : ∃ y, FI 110 5 = y := ⟨_, rfl⟩
  have h8l := congrArg Int32.toInt h8
  have := i_rng x7
  obtain ⟨x9, h10⟩ : ∃ y, FI 110 8 = y := ⟨_, rfl⟩
  have h10l := congrArg Int32.toInt h10
  have := i_rng x9
  obtain ⟨x11, h12⟩ : ∃ y, FI 110 4 = y := ⟨_, rfl⟩
  have h12l := congrArg Int32.toInt h12
  have := i_rng x11
  have e13 : 1 ≤ (x9).toInt ∧ (x9).toInt ≤ 1 := by omega
  refine hv_new (t := 3) hS hF hI hR (by unfold g_dt; omega) (aX4_readUnary 0 rfl) rfl (tin_5 (i := 88) rfl rfl) (tin_1 (i := 21) rfl rfl) (fun n14 sl15 SH16 FI17 FL18 FR19 hsl20 nw21 => ?_)
  obtain ⟨hn22, ex23, hS24, hF25, hI26, hR27, lt28, sh29, dy30, eI31, eL32, eR33, zI34, zL35, zR36⟩ := nw21
  refine xw_dup (aX4_readUnary 1 rfl) rfl ?_
  refine hw_aloadn (aX4_readUnary 2 rfl) rfl ?_
  refine hw_get (v := .int (x9)) (aX4_readUnary 3 rfl) wf_RX4_51 (c110 hS24) (s110 hS24) (by decide) (congrArg Value.int (show FI17 110 8 = x9 from ((eI31 110 (8) (Nat.ne_of_lt (c110 hS))).trans (h10)))) ?_
  refine hw_aloadn (aX4_readUnary 4 rfl) rfl ?_
  obtain ⟨x37, h38⟩ : ∃ y, FL18 110 9 = y := ⟨_, rfl⟩
  have h38l := congrArg Int64.toInt h38
  have := l_rng x37
  refine hw_get (v := .long (x37)) (aX4_readUnary 5 rfl) wf_RX4_62 (c110 hS24) (s110 hS24) (by decide) (congrArg Value.long (show FL18 110 9 = x37 from h38)) ?_
  refine hw_callN (Bs := [.int (x9), .long (x37)]) (rest := [.ref (base + n)]) (aX4_readUnary 6 rfl) wc_RX4_183 (by decide) rfl wi_yX3_init rfl rfl rfl (Nat.le_of_ble_eq_true rfl) (Nat.le_of_ble_eq_true rfl) (k_X3_init (d := d) hS24 hF25 hI26 hR27 (n) lt28 sh29 (Or.inr dy30) dy30 (x9) (x37) ) (fun v39 sv40 p41 => ?_)
  obtain ⟨rfl, FI43, FL44, rfl, hI45, f46, f47, t50⟩ := p41
  obtain ⟨gp53, hg54⟩ : ∃ f, f = va_up gp n (0) := ⟨_, rfl⟩
  have : gp53 n = 0 := by rw [hg54]; exact va_s
  obtain ⟨gw55, hg56⟩ : ∃ f, f = va_up gw n (20) := ⟨_, rfl⟩
  have : gw55 n = 20 := by rw [hg56]; exact va_s
  obtain ⟨gs57, hg58⟩ : ∃ f, f = va_up gs n (0) := ⟨_, rfl⟩
  have : gs57 n = 0 := by rw [hg58]; exact va_s
  have hk59 : ∀ c, c < n → gp53 c = gp c ∧ gw55 c = gw c ∧ gs57 c = gs c := fun c hc => by
    obtain ⟨k1, k2, k3⟩ := hk0 c hc
    exact ⟨by rw [hg54]; exact (va_o (show c ≠ n from Nat.ne_of_lt (Nat.lt_of_lt_of_le hc (Nat.le_refl _)))).trans k1, by rw [hg56]; exact (va_o (show c ≠ n from Nat.ne_of_lt (Nat.lt_of_lt_of_le hc (Nat.le_refl _)))).trans k2, by rw [hg58]; exact (va_o (show c ≠ n from Nat.ne_of_lt (Nat.lt_of_lt_of_le hc (Nat.le_refl _)))).trans k3⟩
  have hT60 : g_T n14 SH16 FI43 FR19 gp53 gw55 gs57 := by rw [hg54, hg56, hg58]; exact gT_mk hS hR gg0 hn22 ex23 sh29 (by decide) (fun c hc => (f46 c 0 hc (by simp) (by simp) (by simp)).trans (eI31 c 0 (Nat.ne_of_lt hc))) (fun c k hc => eR33 c k (Nat.ne_of_lt hc)) zR36
  obtain ⟨x61, h62⟩ : ∃ y, FI43 n 0 = y := ⟨_, rfl⟩
  have h62l := congrArg Int32.toInt h62
  have := i_rng x61
  show hw sk base _ _ _ _ _ [.ref (base + n)] _ _
  refine hw_astoren (L2 := [(1, .ref (base + n)), (0, .ref (base + 110))]) (aX4_readUnary 7 rfl) (by decide) rfl ?_
  refine hw_aloadn (aX4_readUnary 8 rfl) rfl ?_
  refine hw_get (v := .int (x61)) (aX4_readUnary 9 rfl) wf_RX4_207 lt28 sh29 (by decide) (congrArg Value.int (show FI43 n 0 = x61 from h62)) ?_
  have e63 : 1 ≤ (x61).toInt ∧ (x61).toInt ≤ 1 := by omega
  have hsw : ((x61).toInt ≠ 5 ∧ (x61).toInt ≠ 6 ∧ (x61).toInt ≠ 11 ∧ (x61).toInt ≠ 12 ∧ (x61).toInt ≠ 13 ∧ (x61).toInt ≠ 14 ∧ (x61).toInt ≠ 37 ∧ (x61).toInt ≠ 40 ∧ (x61).toInt ≠ 45 ∧ (x61).toInt ≠ 126) ∨ ((x61).toInt = 5 ∨ (x61).toInt = 11 ∨ (x61).toInt = 12 ∨ (x61).toInt = 13) ∨ ((x61).toInt = 6 ∨ (x61).toInt = 14 ∨ (x61).toInt = 45 ∨ (x61).toInt = 126) ∨ ((x61).toInt = 37) ∨ ((x61).toInt = 40) := by omega
  rcases hsw with hsw | hsw | hsw | hsw | hsw
  · refine xw_lsw (tgt := 209) aX4_readUnary_20 (by decide) (by show (20 : Int) + Jvm.Op.lookupswitch.offset [(5, 92), (6, 119), (11, 92), (12, 92), (13, 92), (14, 119), (37, 99), (40, 151), (45, 119), (126, 119)] (189) (x61).toInt = 209; simp only [Jvm.Op.lookupswitch.offset]; rw [if_neg (by omega), if_neg (by omega), if_neg (by omega), if_neg (by omega), if_neg (by omega), if_neg (by omega), if_neg (by omega), if_neg (by omega), if_neg (by omega), if_neg (by omega)]; rfl) ?_
    clear hsw
    refine hw_aloadn (aX4_readUnary 58 rfl) rfl ?_
    refine hw_ic (v := (1 : Int32)) (aX4_readUnary 59 rfl) (by decide) ?_
    refine hw_callV (Bs := [.int ((1 : Int32))]) (rest := []) (aX4_readUnary 60 rfl) wc_RX4_69 (by decide) rfl wi_yX4_refuse wv_yX4_refuse (c110 hS24) (s110 hS24) rfl rfl rfl (Nat.le_of_ble_eq_true rfl) (Nat.le_of_ble_eq_true rfl) (k_refuse2 (d := d + 1) hS24 hF25 hI45 hR27 ((1 : Int32)) (by have := congrArg Int32.toInt (show FI43 110 7 = x1 from ((f46 110 (7) (Nat.lt_of_lt_of_le (by decide : 110 < 176) dy30) (by simp) (by simp) (by simp)).trans (((eI31 110 (7) (Nat.ne_of_lt (c110 hS))).trans (h2))))); have := congrArg Int32.toInt (show FI43 110 7 = x1 from ((f46 110 (7) (Nat.lt_of_lt_of_le (by decide : 110 < 176) dy30) (by simp) (by simp) (by simp)).trans (((eI31 110 (7) (Nat.ne_of_lt (c110 hS))).trans (h2))))); have := congrArg Int32.toInt (show FI43 111 4 = x4 from ((f46 111 (4) (Nat.lt_of_lt_of_le (by decide : 111 < 176) dy30) (by simp) (by simp) (by simp)).trans (((eI31 111 (4) (Nat.ne_of_lt (c111 hS))).trans (h5))))); omega) (by have := congrArg Int32.toInt (show FI43 110 5 = x7 from ((f46 110 (5) (Nat.lt_of_lt_of_le (by decide : 110 < 176) dy30) (by simp) (by simp) (by simp)).trans (((eI31 110 (5) (Nat.ne_of_lt (c110 hS))).trans (h8))))); have := congrArg Int32.toInt (show FI43 110 8 = x9 from ((f46 110 (8) (Nat.lt_of_lt_of_le (by decide : 110 < 176) dy30) (by simp) (by simp) (by simp)).trans (((eI31 110 (8) (Nat.ne_of_lt (c110 hS))).trans (h10))))); omega) (by have := congrArg Int32.toInt (show FI43 110 7 = x1 from ((f46 110 (7) (Nat.lt_of_lt_of_le (by decide : 110 < 176) dy30) (by simp) (by simp) (by simp)).trans (((eI31 110 (7) (Nat.ne_of_lt (c110 hS))).trans (h2))))); have := congrArg Int32.toInt (show FI43 111 4 = x4 from ((f46 111 (4) (Nat.lt_of_lt_of_le (by decide : 111 < 176) dy30) (by simp) (by simp) (by simp)).trans (((eI31 111 (4) (Nat.ne_of_lt (c111 hS))).trans (h5))))); have := congrArg Int32.toInt (show FI43 110 8 = x9 from ((f46 110 (8) (Nat.lt_of_lt_of_le (by decide : 110 < 176) dy30) (by simp) (by simp) (by simp)).trans (((eI31 110 (8) (Nat.ne_of_lt (c110 hS))).trans (h10))))); omega) (by have := ((by decide : (1 : Int32).toInt = 1) : ((1 : Int32)).toInt = 1); have := ((by decide : (1 : Int32).toInt = 1) : ((1 : Int32)).toInt = 1); omega)) (fun v64 sv65 p66 => ?_)
    have := congrArg Int32.toInt (show FI43 110 5 = x7 from ((f46 110 (5) (Nat.lt_of_lt_of_le (by decide : 110 < 176) dy30) (by simp) (by simp) (by simp)).trans (((eI31 110 (5) (Nat.ne_of_lt (c110 hS))).trans (h8)))))
    have := congrArg Int32.toInt (show FI43 110 5 = x7 from ((f46 110 (5) (Nat.lt_of_lt_of_le (by decide : 110 < 176) dy30) (by simp) (by simp) (by simp)).trans (((eI31 110 (5) (Nat.ne_of_lt (c110 hS))).trans (h8)))))
    obtain ⟨rfl, FI68, rfl, hI69, f70, t73, t74⟩ := p66
    have hT77 : g_T n14 SH16 FI68 FR19 gp53 gw55 gs57 := gT_mw (L := [(110, 5), (110, 6), (110, 8)]) (A := []) (T := []) (L2 := []) (A2 := []) (T2 := []) hS24 hT60 f70 gf_rf (by decide) (by decide)
    obtain ⟨x78, h79⟩ : ∃ y, FI68 110 5 = y := ⟨_, rfl⟩
    have h79l := congrArg Int32.toInt h79
    have := i_rng x78
    obtain ⟨x80, h81⟩ : ∃ y, FI68 110 8 = y := ⟨_, rfl⟩
    have h81l := congrArg Int32.toInt h81
    have := i_rng x80
    show hw sk base _ _ _ _ _ [] _ _
    refine hw_aloadn (aX4_readUnary 61 rfl) rfl ?_
    refine xw_aret (v := h_rf base (some (n))) (aX4_readUnary 62 rfl) rfl (by first | exact Or.inl ⟨_, rfl⟩ | exact Or.inr ⟨_, rfl⟩) ?_
    exact ⟨some (n), rfl, n14, sl15, SH16, FI68, FL44, FR19, rfl, ex23, hS24, hI69, (gf_tr (ex_shd ex23) (gf_tr ⟨(Nat.le_refl _), ((ex_shd ex23)).2⟩ (gf_al gf_rf (Nat.le_refl _) eI31) f46 rfl rfl rfl) f70 rfl rfl rfl), (gf_tr ⟨(Nat.le_refl _), ((ex_shd ex23)).2⟩ (gf_al gf_rf (Nat.le_refl _) eL32) f47 rfl rfl rfl), (gf_al gf_rf (Nat.le_refl _) eR33), hF25, hR27, (by have := congrArg Int32.toInt (show FI68 110 7 = x1 from (gf_at f70 (c110 hS24) (shd_f (by decide) (s110 hS24)) rfl (((f46 110 (7) (Nat.lt_of_lt_of_le (by decide : 110 < 176) dy30) (by simp) (by simp) (by simp)).trans (((eI31 110 (7) (Nat.ne_of_lt (c110 hS))).trans (h2))))))); omega), (by have := congrArg Int32.toInt (show FI68 110 5 = x78 from h79); have := congrArg Int32.toInt (show FI68 110 8 = x80 from h81); omega), (by have := congrArg Int32.toInt (show FI68 110 7 = x1 from (gf_at f70 (c110 hS24) (shd_f (by decide) (s110 hS24)) rfl (((f46 110 (7) (Nat.lt_of_lt_of_le (by decide : 110 < 176) dy30) (by simp) (by simp) (by simp)).trans (((eI31 110 (7) (Nat.ne_of_lt (c110 hS))).trans (h2))))))); have := congrArg Int32.toInt (show FI68 110 8 = x80 from h81); omega), (by have := congrArg Int32.toInt (show FI68 110 7 = x1 from (gf_at f70 (c110 hS24) (shd_f (by decide) (s110 hS24)) rfl (((f46 110 (7) (Nat.lt_of_lt_of_le (by decide : 110 < 176) dy30) (by simp) (by simp) (by simp)).trans (((eI31 110 (7) (Nat.ne_of_lt (c110 hS))).trans (h2))))))); omega), (by have := congrArg Int32.toInt (show FI68 110 5 = x78 from h79); omega), (by have := congrArg Int32.toInt (show FI68 110 4 = x11 from (gf_at f70 (c110 hS24) (shd_f (by decide) (s110 hS24)) rfl (((f46 110 (4) (Nat.lt_of_lt_of_le (by decide : 110 < 176) dy30) (by simp) (by simp) (by simp)).trans (((eI31 110 (4) (Nat.ne_of_lt (c110 hS))).trans (h12))))))); have := congrArg Int32.toInt (show FI68 110 5 = x78 from h79); omega), (by have := congrArg Int32.toInt (show FI68 110 7 = x1 from (gf_at f70 (c110 hS24) (shd_f (by decide) (s110 hS24)) rfl (((f46 110 (7) (Nat.lt_of_lt_of_le (by decide : 110 < 176) dy30) (by simp) (by simp) (by simp)).trans (((eI31 110 (7) (Nat.ne_of_lt (c110 hS))).trans (h2))))))); omega), (by omega), (by omega), (by exact ⟨gp53, gw55, gs57, hT77, hk59, fun q e => by cases e; exact ⟨by omega, by omega, (show FR19 n 6 = none from (zR36 6))⟩⟩), ((fun r e => by cases e; exact ⟨lt28, (Or.inr dy30), by rw [sh29]⟩)), (by simp), (fun q e => by cases e; exact (Nat.le_refl _))⟩
  · exfalso; omega
  · exfalso; omega
  · exfalso; omega
  · exfalso; omega
def nX4_readLevel : Nat := 0xb02dc7ffa7010684cc00b507150419043aca00b40419ca00b5b100b660041b2a04193000b62a07363300b42a2d00a01bc600b83300b42a3800a2051506150636030536e803110600a7040700a0061b043a2cba00b52c2d4eb700b709191059b500bbb02c05009f1bc600b83300b42a4db100b660041b2ab0c300b62a0800a107101b
theorem bX4_readLevel : cX4_readLevel.data.toList.map UInt8.toNat = x_un nX4_readLevel 130 := by decide +kernel
def iX4_readLevel : List (Nat × Jvm.ClassFile.Instr × Nat) := [(0, .iload_n 1, 1), (1, .bipush 7, 2), (3, .if_icmp .lt 8, 3), (6, .aload_n 0, 1), (7, .invokevirtual 195, 3), (10, .areturn, 1), (11, .aload_n 0, 1), (12, .iload_n 1, 1), (13, .iconst 1, 1), (14, .iadd, 1), (15, .invokevirtual 177, 3), (18, .astore_n 2, 1), (19, .aload_n 0, 1), (20, .getfield 51, 3), (23, .invokestatic 198, 3), (26, .iload_n 1, 1), (27, .if_icmp .eq 5, 3), (30, .aload_n 2, 1), (31, .areturn, 1), (32, .new 181, 3), (35, .dup, 1), (36, .bipush 25, 2), (38, .lconst 0, 1), (39, .invokespecial 183, 3), (42, .astore_n 3, 1), (43, .aload_n 3, 1), (44, .aload_n 2, 1), (45, .putfield 186, 3), (48, .aload_n 2, 1), (49, .astore 4, 2), (51, .iload_n 1, 1), (52, .iconst 3, 1), (53, .if_icmp .ne 7, 3), (56, .iconst 1, 1), (57, .goto 6, 3), (60, .sipush 1000, 3), (63, .istore 5, 2), (65, .iconst 0, 1), (66, .istore 6, 2), (68, .iload 6, 2), (70, .iload 5, 2), (72, .if_icmp .ge 56, 3), (75, .aload_n 0, 1), (76, .getfield 51, 3), (79, .invokestatic 198, 3), (82, .iload_n 1, 1), (83, .if_icmp .ne 45, 3), (86, .aload_n 0, 1), (87, .getfield 51, 3), (90, .istore 7, 2), (92, .aload_n 0, 1), (93, .invokevirtual 48, 3), (96, .aload 4, 2), (98, .aload_n 0, 1), (99, .iload_n 1, 1), (100, .iconst 1, 1), (101, .iadd, 1), (102, .invokevirtual 177, 3), (105, .putfield 202, 3), (108, .aload 4, 2), (110, .getfield 202, 3), (113, .astore 4, 2), (115, .aload 4, 2), (117, .iload 7, 2), (119, .putfield 204, 3), (122, .iinc 6 1, 3), (125, .goto (-57), 3), (128, .aload_n 3, 1), (129, .areturn, 1)]
theorem dX4_readLevel : x_il nX4_readLevel 130 iX4_readLevel = true := by decide +kernel
theorem aX4_readLevel (k : Nat) {pc : Nat} {i : Jvm.ClassFile.Instr} {len : Nat} (hk : iX4_readLevel[k]? = some (pc, i, len)) : x_at xMM 54 pc i len yX4_readLevel 8 (some (.object "LocationDesk$Node")) := ⟨cX4_readLevel, rfl, x_il_ok bX4_readLevel dX4_readLevel k hk⟩
set_option maxHeartbeats 4000000 in
set_option maxRecDepth 100000 in
theorem k_level7F {sk : xK} {base d n sl : Nat} {SH : Nat → Nat × Nat} {FI : Nat → Nat → Int32} {FL : Nat → Nat → Int64} {FR : Nat → Nat → Option Nat} (hS : h_S n SH) (hF : h_FR FR) (hI : g_I FI) (hR : g_R n SH FR) (gp : Nat → Nat) (gw : Nat → Nat) (gs : Nat → Nat) (g0 : 0 ≤ (FI 110 7).toInt ∧ (FI 110 7).toInt < (FI 111 4).toInt) (g1 : (FI 110 5).toInt = 0 ∨ (FI 110 8).toInt = 1) (g2 : (FI 110 7).toInt + 1 < (FI 111 4).toInt ∨ (FI 110 8).toInt ≤ 3) (g3 : (FI 110 5).toInt ≠ 0) (gg0 : g_T n SH FI FR gp gw gs) (gg1 : g_K FI) : hw sk base (d + 3) none 54 0 [(0, .ref (base + 110)), (1, .int ((7 : Int32)))] [] (n, sl, SH, FI, FL, FR) (h_A base (fun r s => ∃ n' sl' SH' FI' FL' FR', s = (n', sl', SH', FI', FL', FR') ∧ g_ex n SH n' SH' ∧ h_S n' SH' ∧ g_I FI' ∧ g_fr n (shd SH) [(110, 4), (110, 5), (110, 6), (110, 7), (110, 8)] [] [] FI FI' ∧ g_fr n (shd SH) [(110, 9)] [] [] FL FL' ∧ g_fr n (shd SH) [] [] [] FR FR' ∧ h_FR FR' ∧ g_R n' SH' FR' ∧ (0 ≤ (FI' 110 7).toInt ∧ (FI' 110 7).toInt < (FI 111 4).toInt) ∧ ((FI' 110 5).toInt = 0 ∨ (FI' 110 8).toInt = 1) ∧ ((FI' 110 7).toInt + 1 < (FI 111 4).toInt ∨ (FI' 110 8).toInt ≤ 3) ∧ ((FI 110 7).toInt ≤ (FI' 110 7).toInt) ∧ ((FI 110 5).toInt = 0 ∨ (FI' 110 5).toInt = (FI 110 5).toInt) ∧ ((FI' 110 5).toInt ≠ 0 ∨ (FI' 110 4).toInt = (FI 110 4).toInt) ∧ ((n' : Int) ≤ n + 17 * ((FI' 110 7).toInt - (FI 110 7).toInt) + 1) ∧ ((sl' : Int) ≤ sl + 7 * ((n' : Int) - n)) ∧ ((n : Int) ≤ n') ∧ (∃ gp2 gw2 gs2, g_T n' SH' FI' FR' gp2 gw2 gs2 ∧ (∀ c, c < n → gp2 c = gp c ∧ gw2 c = gw c ∧ gs2 c = gs c) ∧ (∀ q, r = some q → gp2 q = 0 ∧ gw2 q + 20 + 40 * n ≤ 40 * n' ∧ FR' q 6 = none)) ∧ (∀ q, r = some q → q < n' ∧ own q ∧ SH' q = (3, (SH' q).2)) ∧ r ≠ none ∧ (∀ q, r = some q → n ≤ q))) := by
  have hk0 : ∀ c, c < n → gp c = gp c ∧ gw c = gw c ∧ gs c = gs c := fun _ _ => ⟨rfl, rfl, rfl⟩
  obtain ⟨x1, h2⟩ : ∃ y, FI 110 7 = y := ⟨_, rfl⟩
  have h2l := congrArg Int32.toInt h2
  have b3 := gI_110_7 hI; rw [h2] at b3
  obtain ⟨x4, h5⟩ : ∃ y, FI 111 4 = y := ⟨_, rfl⟩
  have h5l := congrArg Int32.toInt h5
  have b6 := gI_111_4 hI; rw [h5] at b6
  obtain ⟨x7, h8⟩ : ∃ y, FI 110 5 = y := ⟨_, rfl⟩
  have h8l := congrArg Int32.toInt h8
  have := i_rng x7
  obtain ⟨x9, h10⟩ : ∃ y, FI 110 8 = y := ⟨_, rfl⟩
  have h10l := congrArg Int32.toInt h10
  have := i_rng x9
  obtain ⟨x11, h12⟩ : ∃ y, FI 110 4 = y := ⟨_, rfl⟩
  have h12l := congrArg Int32.toInt h12
  have := i_rng x11
  refine xw_iloadn (aX4_readLevel 0 rfl) rfl ?_
  refine hw_bp (v := (7 : Int32)) (aX4_readLevel 1 rfl) (by decide) ?_
  refine hw_iclt (tgt := 11) (aX4_readLevel 2 rfl) (by decide) (by decide : (7 : Int32).toInt = 7) (by decide : (7 : Int32).toInt = 7) (fun cd13 => ?_) (fun cd13 => ?_)
  · omega
  · refine hw_aloadn (aX4_readLevel 3 rfl) rfl ?_
    refine hw_callV (Bs := []) (rest := []) (aX4_readLevel 4 rfl) wc_RX4_195 (by decide) rfl wi_yX4_readUnary wv_yX4_readUnary (c110 hS) (s110 hS) rfl rfl rfl (Nat.le_of_ble_eq_true rfl) (Nat.le_of_ble_eq_true rfl) (k_unaryF (d := d) hS hF hI hR (gp) (gw) (gs) (by have := congrArg Int32.toInt (show FI 110 7 = x1 from h2); have := congrArg Int32.toInt (show FI 110 7 = x1 from h2); have := congrArg Int32.toInt (show FI 111 4 = x4 from h5); omega) (by have := congrArg Int32.toInt (show FI 110 5 = x7 from h8); have := congrArg Int32.toInt (show FI 110 8 = x9 from h10); omega) (by have := congrArg Int32.toInt (show FI 110 7 = x1 from h2); have := congrArg Int32.toInt (show FI 111 4 = x4 from h5); have := congrArg Int32.toInt (show FI 110 8 = x9 from h10); omega) (by have := congrArg Int32.toInt (show FI 110 5 = x7 from h8); omega) (gg0) (gK_mv (L := [(110, 4), (110, 5), (110, 6), (110, 7), (110, 8)]) (A := []) (T := []) hS gg1 gf_rf (by decide))) (fun v14 sv15 p16 => ?_)
    have := congrArg Int32.toInt (show FI 111 4 = x4 from h5)
    have := congrArg Int32.toInt (show FI 111 4 = x4 from h5)
    have := congrArg Int32.toInt (show FI 110 7 = x1 from h2)
    have := congrArg Int32.toInt (show FI 110 5 = x7 from h8)
    have := congrArg Int32.toInt (show FI 110 5 = x7 from h8)
    have := congrArg Int32.toInt (show FI 110 4 = x11 from h12)
    have := congrArg Int32.toInt (show FI 110 7 = x1 from h2)
    obtain ⟨r17, rfl, n39, sl40, SH41, FI18, FL19, FR20, rfl, ex42, hS43, hI21, f22, f23, f24, hF25, hR26, t27, t28, t29, t30, t31, t32, t33, t34, t35, u36, ht37, nn38, hfr44⟩ := p16
    obtain ⟨gp45, gw46, gs47, hT48, hkp49, hq50⟩ := u36
    have hk51 : ∀ c, c < n → gp45 c = gp c ∧ gw46 c = gw c ∧ gs47 c = gs c := fun c hc => by obtain ⟨k1, k2, k3⟩ := hk0 c hc; obtain ⟨m1, m2, m3⟩ := hkp49 c (Nat.lt_of_lt_of_le hc (Nat.le_refl _)); exact ⟨m1.trans k1, m2.trans k2, m3.trans k3⟩
    obtain ⟨r52, rfl⟩ : ∃ q, r17 = some q := Option.ne_none_iff_exists'.mp nn38
    have fq53 := hfr44 r52 rfl
    have dq54 : 176 ≤ r52 := Nat.le_trans hS.1 fq53
    obtain ⟨lt56, ow57, sh58⟩ := ht37 r52 rfl
    obtain ⟨e59, e60, e61⟩ := hq50 r52 rfl
    obtain ⟨x62, h63⟩ : ∃ y, FI18 110 7 = y := ⟨_, rfl⟩
    have h63l := congrArg Int32.toInt h63
    have b64 := gI_110_7 hI21; rw [h63] at b64
    obtain ⟨x65, h66⟩ : ∃ y, FI18 110 5 = y := ⟨_, rfl⟩
    have h66l := congrArg Int32.toInt h66
    have := i_rng x65
    obtain ⟨x67, h68⟩ : ∃ y, FI18 110 8 = y := ⟨_, rfl⟩
    have h68l := congrArg Int32.toInt h68
    have := i_rng x67
    obtain ⟨x69, h70⟩ : ∃ y, FI18 110 4 = y := ⟨_, rfl⟩
    have h70l := congrArg Int32.toInt h70
    have := i_rng x69
    show hw sk base _ _ _ _ _ [.ref (base + r52)] _ _
    refine xw_aret (v := h_rf base (some (r52))) (aX4_readLevel 5 rfl) rfl (by first | exact Or.inl ⟨_, rfl⟩ | exact Or.inr ⟨_, rfl⟩) ?_
    exact ⟨some (r52), rfl, n39, sl40, SH41, FI18, FL19, FR20, rfl, ex42, hS43, hI21, (gf_tr ex_rf gf_rf f22 rfl rfl rfl), (gf_tr ex_rf gf_rf f23 rfl rfl rfl), (gf_tr ex_rf gf_rf f24 rfl rfl rfl), hF25, hR26, (by have := congrArg Int32.toInt (show FI18 110 7 = x62 from h63); omega), (by have := congrArg Int32.toInt (show FI18 110 5 = x65 from h66); have := congrArg Int32.toInt (show FI18 110 8 = x67 from h68); omega), (by have := congrArg Int32.toInt (show FI18 110 7 = x62 from h63); have := congrArg Int32.toInt (show FI18 110 8 = x67 from h68); omega), (by have := congrArg Int32.toInt (show FI18 110 7 = x62 from h63); omega), (by have := congrArg Int32.toInt (show FI18 110 5 = x65 from h66); omega), (by have := congrArg Int32.toInt (show FI18 110 4 = x69 from h70); have := congrArg Int32.toInt (show FI18 110 5 = x65 from h66); omega), (by have := congrArg Int32.toInt (show FI18 110 7 = x62 from h63); omega), (by omega), (by omega), (by exact ⟨gp45, gw46, gs47, hT48, hk51, fun q e => by cases e; exact ⟨by omega, by omega, (show FR20 r52 6 = none from e61)⟩⟩), ((fun r e => by cases e; exact ⟨lt56, ow57, by rw [sh58]⟩)), (by simp), (fun q e => by cases e; exact (Nat.le_trans (Nat.le_refl _) fq53))⟩
set_option maxHeartbeats 4000000 in
set_option maxRecDepth 100000 in
theorem k_level6F {sk : xK} {base d n sl : Nat} {SH : Nat → Nat × Nat} {FI : Nat → Nat → Int32} {FL : Nat → Nat → Int64} {FR : Nat → Nat → Option Nat} (hS : h_S n SH) (hF : h_FR FR) (hI : g_I FI) (hR : g_R n SH FR) (gp : Nat → Nat) (gw : Nat → Nat) (gs : Nat → Nat) (g0 : 0 ≤ (FI 110 7).toInt ∧ (FI 110 7).toInt < (FI 111 4).toInt) (g1 : (FI 110 5).toInt = 0 ∨ (FI 110 8).toInt = 1) (g2 : (FI 110 7).toInt + 1 < (FI 111 4).toInt ∨ (FI 110 8).toInt ≤ 3) (g3 : (FI 110 5).toInt ≠ 0) (gg0 : g_T n SH FI FR gp gw gs) (gg1 : g_K FI) : hw sk base (d + 4) none 54 0 [(0, .ref (base + 110)), (1, .int ((6 : Int32)))] [] (n, sl, SH, FI, FL, FR) (h_A base (fun r s => ∃ n' sl' SH' FI' FL' FR', s = (n', sl', SH', FI', FL', FR') ∧ g_ex n SH n' SH' ∧ h_S n' SH' ∧ g_I FI' ∧ g_fr n (shd SH) [(110, 4), (110, 5), (110, 6), (110, 7), (110, 8)] [] [] FI FI' ∧ g_fr n (shd SH) [(110, 9)] [] [] FL FL' ∧ g_fr n (shd SH) [] [] [] FR FR' ∧ h_FR FR' ∧ g_R n' SH' FR' ∧ (0 ≤ (FI' 110 7).toInt ∧ (FI' 110 7).toInt < (FI 111 4).toInt) ∧ ((FI' 110 5).toInt = 0 ∨ (FI' 110 8).toInt = 1) ∧ ((FI' 110 7).toInt + 1 < (FI 111 4).toInt ∨ (FI' 110 8).toInt ≤ 3) ∧ ((FI 110 7).toInt ≤ (FI' 110 7).toInt) ∧ ((FI 110 5).toInt = 0 ∨ (FI' 110 5).toInt = (FI 110 5).toInt) ∧ ((FI' 110 5).toInt ≠ 0 ∨ (FI' 110 4).toInt = (FI 110 4).toInt) ∧ ((n' : Int) ≤ n + 17 * ((FI' 110 7).toInt - (FI 110 7).toInt) + 2) ∧ ((sl' : Int) ≤ sl + 7 * ((n' : Int) - n)) ∧ ((n : Int) ≤ n') ∧ (∃ gp2 gw2 gs2, g_T n' SH' FI' FR' gp2 gw2 gs2 ∧ (∀ c, c < n → gp2 c = gp c ∧ gw2 c = gw c ∧ gs2 c = gs c) ∧ (∀ q, r = some q → gp2 q = 0 ∧ gw2 q + 20 + 40 * n ≤ 40 * n' ∧ FR' q 6 = none)) ∧ (∀ q, r = some q → q < n' ∧ own q ∧ SH' q = (3, (SH' q).2)) ∧ r ≠ none ∧ (∀ q, r = some q → n ≤ q))) := by
  have hk0 : ∀ c, c < n → gp c = gp c ∧ gw c = gw c ∧ gs c = gs c := fun _ _ => ⟨rfl, rfl, rfl⟩
  obtain ⟨x1, h2⟩ : ∃ y, FI 110 7 = y := ⟨_, rfl⟩
  have h2l := congrArg Int32.toInt h2
  have b3 := gI_110_7 hI; rw [h2] at b3
  obtain ⟨x4, h5⟩ : ∃ y, FI 111 4 = y := ⟨_, rfl⟩
  have h5l := congrArg Int32.toInt h5
  have b6 := gI_111_4 hI; rw [h5] at b6
  obtain ⟨x7, h8⟩ : ∃ y, FI 110 5 = y := ⟨_, rfl⟩
  have h8l := congrArg Int32.toInt h8
  have := i_rng x7
  obtain ⟨x9, h10⟩ : ∃ y, FI 110 8 = y := ⟨_, rfl⟩
  have h10l := congrArg Int32.toInt h10
  have := i_rng x9
  obtain ⟨x11, h12⟩ : ∃ y, FI 110 4 = y := ⟨_, rfl⟩
  have h12l := congrArg Int32.toInt h12
  have := i_rng x11
  refine xw_iloadn (aX4_readLevel 0 rfl) rfl ?_
  refine hw_bp (v := (7 : Int32)) (aX4_readLevel 1 rfl) (by decide) ?_
  refine hw_iclt (tgt := 11) (aX4_readLevel 2 rfl) (by decide) (by decide : (6 : Int32).toInt = 6) (by decide : (7 : Int32).toInt = 7) (fun cd13 => ?_) (fun cd13 => ?_)
  · refine hw_aloadn (aX4_readLevel 6 rfl) rfl ?_
    refine xw_iloadn (aX4_readLevel 7 rfl) rfl ?_
    refine hw_ic (v := (1 : Int32)) (aX4_readLevel 8 rfl) (by decide) ?_
    refine xw_iadd (aX4_readLevel 9 rfl) ?_
    rw [show (((6 : Int32)) + ((1 : Int32)) : Int32) = (7 : Int32) from by decide]
    refine hw_callV (Bs := [.int ((7 : Int32))]) (rest := []) (aX4_readLevel 10 rfl) wc_RX4_177 (by decide) rfl wi_yX4_readLevel wv_yX4_readLevel (c110 hS) (s110 hS) rfl rfl rfl (Nat.le_of_ble_eq_true rfl) (Nat.le_of_ble_eq_true rfl) (k_level7F (d := d) hS hF hI hR (gp) (gw) (gs) (by have := congrArg Int32.toInt (show FI 110 7 = x1 from h2); have := congrArg Int32.toInt (show FI 110 7 = x1 from h2); have := congrArg Int32.toInt (show FI 111 4 = x4 from h5); omega) (by have := congrArg Int32.toInt (show FI 110 5 = x7 from h8); have := congrArg Int32.toInt (show FI 110 8 = x9 from h10); omega) (by have := congrArg Int32.toInt (show FI 110 7 = x1 from h2); have := congrArg Int32.toInt (show FI 111 4 = x4 from h5); have := congrArg Int32.toInt (show FI 110 8 = x9 from h10); omega) (by have := congrArg Int32.toInt (show FI 110 5 = x7 from h8); omega) (gg0) (gK_mv (L := [(110, 4), (110, 5), (110, 6), (110, 7), (110, 8)]) (A := []) (T := []) hS gg1 gf_rf (by decide))) (fun v14 sv15 p16 => ?_)
    have := congrArg Int32.toInt (show FI 111 4 = x4 from h5)
    have := congrArg Int32.toInt (show FI 111 4 = x4 from h5)
    have := congrArg Int32.toInt (show FI 110 7 = x1 from h2)
    have := congrArg Int32.toInt (show FI 110 5 = x7 from h8)
    have := congrArg Int32.toInt (show FI 110 5 = x7 from h8)
    have := congrArg Int32.toInt (show FI 110 4 = x11 from h12)
    have := congrArg Int32.toInt (show FI 110 7 = x1 from h2)
    obtain ⟨r17, rfl, n39, sl40, SH41, FI18, FL19, FR20, rfl, ex42, hS43, hI21, f22, f23, f24, hF25, hR26, t27, t28, t29, t30, t31, t32, t33, t34, t35, u36, ht37, nn38, hfr44⟩ := p16
    obtain ⟨gp45, gw46, gs47, hT48, hkp49, hq50⟩ := u36
    have hk51 : ∀ c, c < n → gp45 c = gp c ∧ gw46 c = gw c ∧ gs47 c = gs c := fun c hc => by obtain ⟨k1, k2, k3⟩ := hk0 c hc; obtain ⟨m1, m2, m3⟩ := hkp49 c (Nat.lt_of_lt_of_le hc (Nat.le_refl _)); exact ⟨m1.trans k1, m2.trans k2, m3.trans k3⟩
    obtain ⟨r52, rfl⟩ : ∃ q, r17 = some q := Option.ne_none_iff_exists'.mp nn38
    have fq53 := hfr44 r52 rfl
    have dq54 : 176 ≤ r52 := Nat.le_trans hS.1 fq53
    obtain ⟨lt56, ow57, sh58⟩ := ht37 r52 rfl
    obtain ⟨e59, e60, e61⟩ := hq50 r52 rfl
    obtain ⟨x62, h63⟩ : ∃ y, FI18 110 7 = y := ⟨_, rfl⟩
    have h63l := congrArg Int32.toInt h63
    have b64 := gI_110_7 hI21; rw [h63] at b64
    obtain ⟨x65, h66⟩ : ∃ y, FI18 110 5 = y := ⟨_, rfl⟩
    have h66l := congrArg Int32.toInt h66
    have := i_rng x65
    obtain ⟨x67, h68⟩ : ∃ y, FI18 110 8 = y := ⟨_, rfl⟩
    have h68l := congrArg Int32.toInt h68
    have := i_rng x67
    obtain ⟨x69, h70⟩ : ∃ y, FI18 110 4 = y := ⟨_, rfl⟩
    have h70l := congrArg Int32.toInt h70
    have := i_rng x69
    show hw sk base _ _ _ _ _ [.ref (base + r52)] _ _
    refine hw_astoren (L2 := [(2, .ref (base + r52)), (0, .ref (base + 110)), (1, .int ((6 : Int32)))]) (aX4_readLevel 11 rfl) (by decide) rfl ?_
    refine hw_aloadn (aX4_readLevel 12 rfl) rfl ?_
    refine hw_get (v := .int (x67)) (aX4_readLevel 13 rfl) wf_RX4_51 (c110 hS43) (s110 hS43) (by decide) (congrArg Value.int (show FI18 110 8 = x67 from h68)) ?_
    refine hw_callS (As := [.int (x67)]) (rest := []) (aX4_readLevel 14 rfl) wc_RX4_198 (by decide) rfl wt_yX4_levelOf rfl rfl (Nat.le_of_ble_eq_true rfl) (Nat.le_of_ble_eq_true rfl) (k_levelOf2 (d := d + 3) hS43 hF25 hI21 hR26 (x67) ) (fun v71 sv72 p73 => ?_)
    obtain ⟨r74, rfl, rfl, t78⟩ := p73
    have rg_r74 := i_rng r74
    show hw sk base _ _ _ _ _ [.int (r74)] _ _
    refine xw_iloadn (aX4_readLevel 15 rfl) rfl ?_
    refine hw_iceq (tgt := 32) (aX4_readLevel 16 rfl) (by decide) rfl (by decide : (6 : Int32).toInt = 6) (fun cd81 => ?_) (fun cd81 => ?_)
    · exfalso; omega
    · refine hw_aloadn (aX4_readLevel 17 rfl) rfl ?_
      refine xw_aret (v := h_rf base (some (r52))) (aX4_readLevel 18 rfl) rfl (by first | exact Or.inl ⟨_, rfl⟩ | exact Or.inr ⟨_, rfl⟩) ?_
      exact ⟨some (r52), rfl, n39, sl40, SH41, FI18, FL19, FR20, rfl, ex42, hS43, hI21, (gf_tr ex_rf gf_rf f22 rfl rfl rfl), (gf_tr ex_rf gf_rf f23 rfl rfl rfl), (gf_tr ex_rf gf_rf f24 rfl rfl rfl), hF25, hR26, (by have := congrArg Int32.toInt (show FI18 110 7 = x62 from h63); omega), (by have := congrArg Int32.toInt (show FI18 110 5 = x65 from h66); have := congrArg Int32.toInt (show FI18 110 8 = x67 from h68); omega), (by have := congrArg Int32.toInt (show FI18 110 7 = x62 from h63); have := congrArg Int32.toInt (show FI18 110 8 = x67 from h68); omega), (by have := congrArg Int32.toInt (show FI18 110 7 = x62 from h63); omega), (by have := congrArg Int32.toInt (show FI18 110 5 = x65 from h66); omega), (by have := congrArg Int32.toInt (show FI18 110 4 = x69 from h70); have := congrArg Int32.toInt (show FI18 110 5 = x65 from h66); omega), (by have := congrArg Int32.toInt (show FI18 110 7 = x62 from h63); omega), (by omega), (by omega), (by exact ⟨gp45, gw46, gs47, hT48, hk51, fun q e => by cases e; exact ⟨by omega, by omega, (show FR20 r52 6 = none from e61)⟩⟩), ((fun r e => by cases e; exact ⟨lt56, ow57, by rw [sh58]⟩)), (by simp), (fun q e => by cases e; exact (Nat.le_trans (Nat.le_refl _) fq53))⟩
  · omega
set_option maxHeartbeats 4000000 in
set_option maxRecDepth 100000 in
theorem k_level5F {sk : xK} {base d n sl : Nat} {SH : Nat → Nat × Nat} {FI : Nat → Nat → Int32} {FL : Nat → Nat → Int64} {FR : Nat → Nat → Option Nat} (hS : h_S n SH) (hF : h_FR FR) (hI : g_I FI) (hR : g_R n SH FR) (gp : Nat → Nat) (gw : Nat → Nat) (gs : Nat → Nat) (g0 : 0 ≤ (FI 110 7).toInt ∧ (FI 110 7).toInt < (FI 111 4).toInt) (g1 : (FI 110 5).toInt = 0 ∨ (FI 110 8).toInt = 1) (g2 : (FI 110 7).toInt + 1 < (FI 111 4).toInt ∨ (FI 110 8).toInt ≤ 3) (g3 : (FI 110 5).toInt ≠ 0) (gg0 : g_T n SH FI FR gp gw gs) (gg1 : g_K FI) : hw sk base (d + 5) none 54 0 [(0, .ref (base + 110)), (1, .int ((5 : Int32)))] [] (n, sl, SH, FI, FL, FR) (h_A base (fun r s => ∃ n' sl' SH' FI' FL' FR', s = (n', sl', SH', FI', FL', FR') ∧ g_ex n SH n' SH' ∧ h_S n' SH' ∧ g_I FI' ∧ g_fr n (shd SH) [(110, 4), (110, 5), (110, 6), (110, 7), (110, 8)] [] [] FI FI' ∧ g_fr n (shd SH) [(110, 9)] [] [] FL FL' ∧ g_fr n (shd SH) [] [] [] FR FR' ∧ h_FR FR' ∧ g_R n' SH' FR' ∧ (0 ≤ (FI' 110 7).toInt ∧ (FI' 110 7).toInt < (FI 111 4).toInt) ∧ ((FI' 110 5).toInt = 0 ∨ (FI' 110 8).toInt = 1) ∧ ((FI' 110 7).toInt + 1 < (FI 111 4).toInt ∨ (FI' 110 8).toInt ≤ 3) ∧ ((FI 110 7).toInt ≤ (FI' 110 7).toInt) ∧ ((FI 110 5).toInt = 0 ∨ (FI' 110 5).toInt = (FI 110 5).toInt) ∧ ((FI' 110 5).toInt ≠ 0 ∨ (FI' 110 4).toInt = (FI 110 4).toInt) ∧ ((n' : Int) ≤ n + 17 * ((FI' 110 7).toInt - (FI 110 7).toInt) + 3) ∧ ((sl' : Int) ≤ sl + 7 * ((n' : Int) - n)) ∧ ((n : Int) ≤ n') ∧ (∃ gp2 gw2 gs2, g_T n' SH' FI' FR' gp2 gw2 gs2 ∧ (∀ c, c < n → gp2 c = gp c ∧ gw2 c = gw c ∧ gs2 c = gs c) ∧ (∀ q, r = some q → gp2 q = 0 ∧ gw2 q + 20 + 40 * n ≤ 40 * n' ∧ FR' q 6 = none)) ∧ (∀ q, r = some q → q < n' ∧ own q ∧ SH' q = (3, (SH' q).2)) ∧ r ≠ none ∧ (∀ q, r = some q → n ≤ q))) := by
  have hk0 : ∀ c, c < n → gp c = gp c ∧ gw c = gw c ∧ gs c = gs c := fun _ _ => ⟨rfl, rfl, rfl⟩
  obtain ⟨x1, h2⟩ : ∃ y, FI 110 7 = y := ⟨_, rfl⟩
  have h2l := congrArg Int32.toInt h2
  have b3 := gI_110_7 hI; rw [h2] at b3
  obtain ⟨x4, h5⟩ : ∃ y, FI 111 4 = y := ⟨_, rfl⟩
  have h5l := congrArg Int32.toInt h5
  have b6 := gI_111_4 hI; rw [h5] at b6
  obtain ⟨x7, h8⟩ : ∃ y, FI 110 5 = y := ⟨_, rfl⟩
  have h8l := congrArg Int32.toInt h8
  have := i_rng x7
  obtain ⟨x9, h10⟩ : ∃ y, FI 110 8 = y := ⟨_, rfl⟩
  have h10l := congrArg Int32.toInt h10
  have := i_rng x9
  obtain ⟨x11, h12⟩ : ∃ y, FI 110 4 = y := ⟨_, rfl⟩
  have h12l := congrArg Int32.toInt h12
  have := i_rng x11
  refine xw_iloadn (aX4_readLevel 0 rfl) rfl ?_
  refine hw_bp (v := (7 : Int32)) (aX4_readLevel 1 rfl) (by decide) ?_
  refine hw_iclt (tgt := 11) (aX4_readLevel 2 rfl) (by decide) (by decide : (5 : Int32).toInt = 5) (by decide : (7 : Int32).toInt = 7) (fun cd13 => ?_) (fun cd13 => ?_)
  · refine hw_aloadn (aX4_readLevel 6 rfl) rfl ?_
    refine xw_iloadn (aX4_readLevel 7 rfl) rfl ?_
    refine hw_ic (v := (1 : Int32)) (aX4_readLevel 8 rfl) (by decide) ?_
    refine xw_iadd (aX4_readLevel 9 rfl) ?_
    rw [show (((5 : Int32)) + ((1 : Int32)) : Int32) = (6 : Int32) from by decide]
    refine hw_callV (Bs := [.int ((6 : Int32))]) (rest := []) (aX4_readLevel 10 rfl) wc_RX4_177 (by decide) rfl wi_yX4_readLevel wv_yX4_readLevel (c110 hS) (s110 hS) rfl rfl rfl (Nat.le_of_ble_eq_true rfl) (Nat.le_of_ble_eq_true rfl) (k_level6F (d := d) hS hF hI hR (gp) (gw) (gs) (by have := congrArg Int32.toInt (show FI 110 7 = x1 from h2); have := congrArg Int32.toInt (show FI 110 7 = x1 from h2); have := congrArg Int32.toInt (show FI 111 4 = x4 from h5); omega) (by have := congrArg Int32.toInt (show FI 110 5 = x7 from h8); have := congrArg Int32.toInt (show FI 110 8 = x9 from h10); omega) (by have := congrArg Int32.toInt (show FI 110 7 = x1 from h2); have := congrArg Int32.toInt (show FI 111 4 = x4 from h5); have := congrArg Int32.toInt (show FI 110 8 = x9 from h10); omega) (by have := congrArg Int32.toInt (show FI 110 5 = x7 from h8); omega) (gg0) (gK_mv (L := [(110, 4), (110, 5), (110, 6), (110, 7), (110, 8)]) (A := []) (T := []) hS gg1 gf_rf (by decide))) (fun v14 sv15 p16 => ?_)
    have := congrArg Int32.toInt (show FI 111 4 = x4 from h5)
    have := congrArg Int32.toInt (show FI 111 4 = x4 from h5)
    have := congrArg Int32.toInt (show FI 110 7 = x1 from h2)
    have := congrArg Int32.toInt (show FI 110 5 = x7 from h8)
    have := congrArg Int32.toInt (show FI 110 5 = x7 from h8)
    have := congrArg Int32.toInt (show FI 110 4 = x11 from h12)
    have := congrArg Int32.toInt (show FI 110 7 = x1 from h2)
    obtain ⟨r17, rfl, n39, sl40, SH41, FI18, FL19, FR20, rfl, ex42, hS43, hI21, f22, f23, f24, hF25, hR26, t27, t28, t29, t30, t31, t32, t33, t34, t35, u36, ht37, nn38, hfr44⟩ := p16
    obtain ⟨gp45, gw46, gs47, hT48, hkp49, hq50⟩ := u36
    have hk51 : ∀ c, c < n → gp45 c = gp c ∧ gw46 c = gw c ∧ gs47 c = gs c := fun c hc => by obtain ⟨k1, k2, k3⟩ := hk0 c hc; obtain ⟨m1, m2, m3⟩ := hkp49 c (Nat.lt_of_lt_of_le hc (Nat.le_refl _)); exact ⟨m1.trans k1, m2.trans k2, m3.trans k3⟩
    obtain ⟨r52, rfl⟩ : ∃ q, r17 = some q := Option.ne_none_iff_exists'.mp nn38
    have fq53 := hfr44 r52 rfl
    have dq54 : 176 ≤ r52 := Nat.le_trans hS.1 fq53
    obtain ⟨lt56, ow57, sh58⟩ := ht37 r52 rfl
    obtain ⟨e59, e60, e61⟩ := hq50 r52 rfl
    obtain ⟨x62, h63⟩ : ∃ y, FI18 110 7 = y := ⟨_, rfl⟩
    have h63l := congrArg Int32.toInt h63
    have b64 := gI_110_7 hI21; rw [h63] at b64
    obtain ⟨x65, h66⟩ : ∃ y, FI18 110 5 = y := ⟨_, rfl⟩
    have h66l := congrArg Int32.toInt h66
    have := i_rng x65
    obtain ⟨x67, h68⟩ : ∃ y, FI18 110 8 = y := ⟨_, rfl⟩
    have h68l := congrArg Int32.toInt h68
    have := i_rng x67
    obtain ⟨x69, h70⟩ : ∃ y, FI18 110 4 = y := ⟨_, rfl⟩
    have h70l := congrArg Int32.toInt h70
    have := i_rng x69
    show hw sk base _ _ _ _ _ [.ref (base + r52)] _ _
    refine hw_astoren (L2 := [(2, .ref (base + r52)), (0, .ref (base + 110)), (1, .int ((5 : Int32)))]) (aX4_readLevel 11 rfl) (by decide) rfl ?_
    refine hw_aloadn (aX4_readLevel 12 rfl) rfl ?_
    refine hw_get (v := .int (x67)) (aX4_readLevel 13 rfl) wf_RX4_51 (c110 hS43) (s110 hS43) (by decide) (congrArg Value.int (show FI18 110 8 = x67 from h68)) ?_
    refine hw_callS (As := [.int (x67)]) (rest := []) (aX4_readLevel 14 rfl) wc_RX4_198 (by decide) rfl wt_yX4_levelOf rfl rfl (Nat.le_of_ble_eq_true rfl) (Nat.le_of_ble_eq_true rfl) (k_levelOf2 (d := d + 4) hS43 hF25 hI21 hR26 (x67) ) (fun v71 sv72 p73 => ?_)
    obtain ⟨r74, rfl, rfl, t78⟩ := p73
    have rg_r74 := i_rng r74
    show hw sk base _ _ _ _ _ [.int (r74)] _ _
    refine xw_iloadn (aX4_readLevel 15 rfl) rfl ?_
    refine hw_iceq (tgt := 32) (aX4_readLevel 16 rfl) (by decide) rfl (by decide : (5 : Int32).toInt = 5) (fun cd81 => ?_) (fun cd81 => ?_)
    · exfalso; omega
    · refine hw_aloadn (aX4_readLevel 17 rfl) rfl ?_
      refine xw_aret (v := h_rf base (some (r52))) (aX4_readLevel 18 rfl) rfl (by first | exact Or.inl ⟨_, rfl⟩ | exact Or.inr ⟨_, rfl⟩) ?_
      exact ⟨some (r52), rfl, n39, sl40, SH41, FI18, FL19, FR20, rfl, ex42, hS43, hI21, (gf_tr ex_rf gf_rf f22 rfl rfl rfl), (gf_tr ex_rf gf_rf f23 rfl rfl rfl), (gf_tr ex_rf gf_rf f24 rfl rfl rfl), hF25, hR26, (by have := congrArg Int32.toInt (show FI18 110 7 = x62 from h63); omega), (by have := congrArg Int32.toInt (show FI18 110 5 = x65 from h66); have := congrArg Int32.toInt (show FI18 110 8 = x67 from h68); omega), (by have := congrArg Int32.toInt (show FI18 110 7 = x62 from h63); have := congrArg Int32.toInt (show FI18 110 8 = x67 from h68); omega), (by have := congrArg Int32.toInt (show FI18 110 7 = x62 from h63); omega), (by have := congrArg Int32.toInt (show FI18 110 5 = x65 from h66); omega), (by have := congrArg Int32.toInt (show FI18 110 4 = x69 from h70); have := congrArg Int32.toInt (show FI18 110 5 = x65 from h66); omega), (by have := congrArg Int32.toInt (show FI18 110 7 = x62 from h63); omega), (by omega), (by omega), (by exact ⟨gp45, gw46, gs47, hT48, hk51, fun q e => by cases e; exact ⟨by omega, by omega, (show FR20 r52 6 = none from e61)⟩⟩), ((fun r e => by cases e; exact ⟨lt56, ow57, by rw [sh58]⟩)), (by simp), (fun q e => by cases e; exact (Nat.le_trans (Nat.le_refl _) fq53))⟩
  · omega
set_option maxHeartbeats 4000000 in
set_option maxRecDepth 100000 in
theorem k_level4F {sk : xK} {base d n sl : Nat} {SH : Nat → Nat × Nat} {FI : Nat → Nat → Int32} {FL : Nat → Nat → Int64} {FR : Nat → Nat → Option Nat} (hS : h_S n SH) (hF : h_FR FR) (hI : g_I FI) (hR : g_R n SH FR) (gp : Nat → Nat) (gw : Nat → Nat) (gs : Nat → Nat) (g0 : 0 ≤ (FI 110 7).toInt ∧ (FI 110 7).toInt < (FI 111 4).toInt) (g1 : (FI 110 5).toInt = 0 ∨ (FI 110 8).toInt = 1) (g2 : (FI 110 7).toInt + 1 < (FI 111 4).toInt ∨ (FI 110 8).toInt ≤ 3) (g3 : (FI 110 5).toInt ≠ 0) (gg0 : g_T n SH FI FR gp gw gs) (gg1 : g_K FI) : hw sk base (d + 6) none 54 0 [(0, .ref (base + 110)), (1, .int ((4 : Int32)))] [] (n, sl, SH, FI, FL, FR) (h_A base (fun r s => ∃ n' sl' SH' FI' FL' FR', s = (n', sl', SH', FI', FL', FR') ∧ g_ex n SH n' SH' ∧ h_S n' SH' ∧ g_I FI' ∧ g_fr n (shd SH) [(110, 4), (110, 5), (110, 6), (110, 7), (110, 8)] [] [] FI FI' ∧ g_fr n (shd SH) [(110, 9)] [] [] FL FL' ∧ g_fr n (shd SH) [] [] [] FR FR' ∧ h_FR FR' ∧ g_R n' SH' FR' ∧ (0 ≤ (FI' 110 7).toInt ∧ (FI' 110 7).toInt < (FI 111 4).toInt) ∧ ((FI' 110 5).toInt = 0 ∨ (FI' 110 8).toInt = 1) ∧ ((FI' 110 7).toInt + 1 < (FI 111 4).toInt ∨ (FI' 110 8).toInt ≤ 3) ∧ ((FI 110 7).toInt ≤ (FI' 110 7).toInt) ∧ ((FI 110 5).toInt = 0 ∨ (FI' 110 5).toInt = (FI 110 5).toInt) ∧ ((FI' 110 5).toInt ≠ 0 ∨ (FI' 110 4).toInt = (FI 110 4).toInt) ∧ ((n' : Int) ≤ n + 17 * ((FI' 110 7).toInt - (FI 110 7).toInt) + 4) ∧ ((sl' : Int) ≤ sl + 7 * ((n' : Int) - n)) ∧ ((n : Int) ≤ n') ∧ (∃ gp2 gw2 gs2, g_T n' SH' FI' FR' gp2 gw2 gs2 ∧ (∀ c, c < n → gp2 c = gp c ∧ gw2 c = gw c ∧ gs2 c = gs c) ∧ (∀ q, r = some q → gp2 q = 0 ∧ gw2 q + 20 + 40 * n ≤ 40 * n' ∧ FR' q 6 = none)) ∧ (∀ q, r = some q → q < n' ∧ own q ∧ SH' q = (3, (SH' q).2)) ∧ r ≠ none ∧ (∀ q, r = some q → n ≤ q))) := by
  have hk0 : ∀ c, c < n → gp c = gp c ∧ gw c = gw c ∧ gs c = gs c := fun _ _ => ⟨rfl, rfl, rfl⟩
  obtain ⟨x1, h2⟩ : ∃ y, FI 110 7 = y := ⟨_, rfl⟩
  have h2l := congrArg Int32.toInt h2
  have b3 := gI_110_7 hI; rw [h2] at b3
  obtain ⟨x4, h5⟩ : ∃ y, FI 111 4 = y := ⟨_, rfl⟩
  have h5l := congrArg Int32.toInt h5
  have b6 := gI_111_4 hI; rw [h5] at b6
  obtain ⟨x7, h8⟩ : ∃ y, FI 110 5 = y := ⟨_, rfl⟩
  have h8l := congrArg Int32.toInt h8
  have := i_rng x7
  obtain ⟨x9, h10⟩ : ∃ y, FI 110 8 = y := ⟨_, rfl⟩
  have h10l := congrArg Int32.toInt h10
  have := i_rng x9
  obtain ⟨x11, h12⟩ : ∃ y, FI 110 4 = y := ⟨_, rfl⟩
  have h12l := congrArg Int32.toInt h12
  have := i_rng x11
  refine xw_iloadn (aX4_readLevel 0 rfl) rfl ?_
  refine hw_bp (v := (7 : Int32)) (aX4_readLevel 1 rfl) (by decide) ?_
  refine hw_iclt (tgt := 11) (aX4_readLevel 2 rfl) (by decide) (by decide : (4 : Int32).toInt = 4) (by decide : (7 : Int32).toInt = 7) (fun cd13 => ?_) (fun cd13 => ?_)
  · refine hw_aloadn (aX4_readLevel 6 rfl) rfl ?_
    refine xw_iloadn (aX4_readLevel 7 rfl) rfl ?_
    refine hw_ic (v := (1 : Int32)) (aX4_readLevel 8 rfl) (by decide) ?_
    refine xw_iadd (aX4_readLevel 9 rfl) ?_
    rw [show (((4 : Int32)) + ((1 : Int32)) : Int32) = (5 : Int32) from by decide]
    refine hw_callV (Bs := [.int ((5 : Int32))]) (rest := []) (aX4_readLevel 10 rfl) wc_RX4_177 (by decide) rfl wi_yX4_readLevel wv_yX4_readLevel (c110 hS) (s110 hS) rfl rfl rfl (Nat.le_of_ble_eq_true rfl) (Nat.le_of_ble_eq_true rfl) (k_level5F (d := d) hS hF hI hR (gp) (gw) (gs) (by have := congrArg Int32.toInt (show FI 110 7 = x1 from h2); have := congrArg Int32.toInt (show FI 110 7 = x1 from h2); have := congrArg Int32.toInt (show FI 111 4 = x4 from h5); omega) (by have := congrArg Int32.toInt (show FI 110 5 = x7 from h8); have := congrArg Int32.toInt (show FI 110 8 = x9 from h10); omega) (by have := congrArg Int32.toInt (show FI 110 7 = x1 from h2); have := congrArg Int32.toInt (show FI 111 4 = x4 from h5); have := congrArg Int32.toInt (show FI 110 8 = x9 from h10); omega) (by have := congrArg Int32.toInt (show FI 110 5 = x7 from h8); omega) (gg0) (gK_mv (L := [(110, 4), (110, 5), (110, 6), (110, 7), (110, 8)]) (A := []) (T := []) hS gg1 gf_rf (by decide))) (fun v14 sv15 p16 => ?_)
    have := congrArg Int32.toInt (show FI 111 4 = x4 from h5)
    have := congrArg Int32.toInt (show FI 111 4 = x4 from h5)
    have := congrArg Int32.toInt (show FI 110 7 = x1 from h2)
    have := congrArg Int32.toInt (show FI 110 5 = x7 from h8)
    have := congrArg Int32.toInt (show FI 110 5 = x7 from h8)
    have := congrArg Int32.toInt (show FI 110 4 = x11 from h12)
    have := congrArg Int32.toInt (show FI 110 7 = x1 from h2)
    obtain ⟨r17, rfl, n39, sl40, SH41, FI18, FL19, FR20, rfl, ex42, hS43, hI21, f22, f23, f24, hF25, hR26, t27, t28, t29, t30, t31, t32, t33, t34, t35, u36, ht37, nn38, hfr44⟩ := p16
    obtain ⟨gp45, gw46, gs47, hT48, hkp49, hq50⟩ := u36
    have hk51 : ∀ c, c < n → gp45 c = gp c ∧ gw46 c = gw c ∧ gs47 c = gs c := fun c hc => by obtain ⟨k1, k2, k3⟩ := hk0 c hc; obtain ⟨m1, m2, m3⟩ := hkp49 c (Nat.lt_of_lt_of_le hc (Nat.le_refl _)); exact ⟨m1.trans k1, m2.trans k2, m3.trans k3⟩
    obtain ⟨r52, rfl⟩ : ∃ q, r17 = some q := Option.ne_none_iff_exists'.mp nn38
    have fq53 := hfr44 r52 rfl
    have dq54 : 176 ≤ r52 := Nat.le_trans hS.1 fq53
    obtain ⟨lt56, ow57, sh58⟩ := ht37 r52 rfl
    obtain ⟨e59, e60, e61⟩ := hq50 r52 rfl
    obtain ⟨x62, h63⟩ : ∃ y, FI18 110 7 = y := ⟨_, rfl⟩
    have h63l := congrArg Int32.toInt h63
    have b64 := gI_110_7 hI21; rw [h63] at b64
    obtain ⟨x65, h66⟩ : ∃ y, FI18 110 5 = y := ⟨_, rfl⟩
    have h66l := congrArg Int32.toInt h66
    have := i_rng x65
    obtain ⟨x67, h68⟩ : ∃ y, FI18 110 8 = y := ⟨_, rfl⟩
    have h68l := congrArg Int32.toInt h68
    have := i_rng x67
    obtain ⟨x69, h70⟩ : ∃ y, FI18 110 4 = y := ⟨_, rfl⟩
    have h70l := congrArg Int32.toInt h70
    have := i_rng x69
    show hw sk base _ _ _ _ _ [.ref (base + r52)] _ _
    refine hw_astoren (L2 := [(2, .ref (base + r52)), (0, .ref (base + 110)), (1, .int ((4 : Int32)))]) (aX4_readLevel 11 rfl) (by decide) rfl ?_
    refine hw_aloadn (aX4_readLevel 12 rfl) rfl ?_
    refine hw_get (v := .int (x67)) (aX4_readLevel 13 rfl) wf_RX4_51 (c110 hS43) (s110 hS43) (by decide) (congrArg Value.int (show FI18 110 8 = x67 from h68)) ?_
    refine hw_callS (As := [.int (x67)]) (rest := []) (aX4_readLevel 14 rfl) wc_RX4_198 (by decide) rfl wt_yX4_levelOf rfl rfl (Nat.le_of_ble_eq_true rfl) (Nat.le_of_ble_eq_true rfl) (k_levelOf2 (d := d + 5) hS43 hF25 hI21 hR26 (x67) ) (fun v71 sv72 p73 => ?_)
    obtain ⟨r74, rfl, rfl, t78⟩ := p73
    have rg_r74 := i_rng r74
    show hw sk base _ _ _ _ _ [.int (r74)] _ _
    refine xw_iloadn (aX4_readLevel 15 rfl) rfl ?_
    refine hw_iceq (tgt := 32) (aX4_readLevel 16 rfl) (by decide) rfl (by decide : (4 : Int32).toInt = 4) (fun cd81 => ?_) (fun cd81 => ?_)
    · exfalso; omega
    · refine hw_aloadn (aX4_readLevel 17 rfl) rfl ?_
      refine xw_aret (v := h_rf base (some (r52))) (aX4_readLevel 18 rfl) rfl (by first | exact Or.inl ⟨_, rfl⟩ | exact Or.inr ⟨_, rfl⟩) ?_
      exact ⟨some (r52), rfl, n39, sl40, SH41, FI18, FL19, FR20, rfl, ex42, hS43, hI21, (gf_tr ex_rf gf_rf f22 rfl rfl rfl), (gf_tr ex_rf gf_rf f23 rfl rfl rfl), (gf_tr ex_rf gf_rf f24 rfl rfl rfl), hF25, hR26, (by have := congrArg Int32.toInt (show FI18 110 7 = x62 from h63); omega), (by have := congrArg Int32.toInt (show FI18 110 5 = x65 from h66); have := congrArg Int32.toInt (show FI18 110 8 = x67 from h68); omega), (by have := congrArg Int32.toInt (show FI18 110 7 = x62 from h63); have := congrArg Int32.toInt (show FI18 110 8 = x67 from h68); omega), (by have := congrArg Int32.toInt (show FI18 110 7 = x62 from h63); omega), (by have := congrArg Int32.toInt (show FI18 110 5 = x65 from h66); omega), (by have := congrArg Int32.toInt (show FI18 110 4 = x69 from h70); have := congrArg Int32.toInt (show FI18 110 5 = x65 from h66); omega), (by have := congrArg Int32.toInt (show FI18 110 7 = x62 from h63); omega), (by omega), (by omega), (by exact ⟨gp45, gw46, gs47, hT48, hk51, fun q e => by cases e; exact ⟨by omega, by omega, (show FR20 r52 6 = none from e61)⟩⟩), ((fun r e => by cases e; exact ⟨lt56, ow57, by rw [sh58]⟩)), (by simp), (fun q e => by cases e; exact (Nat.le_trans (Nat.le_refl _) fq53))⟩
  · omega
set_option maxHeartbeats 4000000 in
set_option maxRecDepth 100000 in
theorem k_level3F {sk : xK} {base d n sl : Nat} {SH : Nat → Nat × Nat} {FI : Nat → Nat → Int32} {FL : Nat → Nat → Int64} {FR : Nat → Nat → Option Nat} (hS : h_S n SH) (hF : h_FR FR) (hI : g_I FI) (hR : g_R n SH FR) (gp : Nat → Nat) (gw : Nat → Nat) (gs : Nat → Nat) (g0 : 0 ≤ (FI 110 7).toInt ∧ (FI 110 7).toInt < (FI 111 4).toInt) (g1 : (FI 110 5).toInt = 0 ∨ (FI 110 8).toInt = 1) (g2 : (FI 110 7).toInt + 1 < (FI 111 4).toInt ∨ (FI 110 8).toInt ≤ 3) (g3 : (FI 110 5).toInt ≠ 0) (gg0 : g_T n SH FI FR gp gw gs) (gg1 : g_K FI) : hw sk base (d + 7) none 54 0 [(0, .ref (base + 110)), (1, .int ((3 : Int32)))] [] (n, sl, SH, FI, FL, FR) (h_A base (fun r s => ∃ n' sl' SH' FI' FL' FR', s = (n', sl', SH', FI', FL', FR') ∧ g_ex n SH n' SH' ∧ h_S n' SH' ∧ g_I FI' ∧ g_fr n (shd SH) [(110, 4), (110, 5), (110, 6), (110, 7), (110, 8)] [] [] FI FI' ∧ g_fr n (shd SH) [(110, 9)] [] [] FL FL' ∧ g_fr n (shd SH) [] [] [] FR FR' ∧ h_FR FR' ∧ g_R n' SH' FR' ∧ (0 ≤ (FI' 110 7).toInt ∧ (FI' 110 7).toInt < (FI 111 4).toInt) ∧ ((FI' 110 5).toInt = 0 ∨ (FI' 110 8).toInt = 1) ∧ ((FI' 110 7).toInt + 1 < (FI 111 4).toInt ∨ (FI' 110 8).toInt ≤ 3) ∧ ((FI 110 7).toInt ≤ (FI' 110 7).toInt) ∧ ((FI 110 5).toInt = 0 ∨ (FI' 110 5).toInt = (FI 110 5).toInt) ∧ ((FI' 110 5).toInt ≠ 0 ∨ (FI' 110 4).toInt = (FI 110 4).toInt) ∧ ((n' : Int) ≤ n + 17 * ((FI' 110 7).toInt - (FI 110 7).toInt) + 5) ∧ ((sl' : Int) ≤ sl + 7 * ((n' : Int) - n)) ∧ ((n : Int) ≤ n') ∧ (∃ gp2 gw2 gs2, g_T n' SH' FI' FR' gp2 gw2 gs2 ∧ (∀ c, c < n → gp2 c = gp c ∧ gw2 c = gw c ∧ gs2 c = gs c) ∧ (∀ q, r = some q → gp2 q = 0 ∧ gw2 q + 20 + 40 * n ≤ 40 * n' ∧ FR' q 6 = none)) ∧ (∀ q, r = some q → q < n' ∧ own q ∧ SH' q = (3, (SH' q).2)) ∧ r ≠ none ∧ (∀ q, r = some q → n ≤ q))) := by
  have hk0 : ∀ c, c < n → gp c = gp c ∧ gw c = gw c ∧ gs c = gs c := fun _ _ => ⟨rfl, rfl, rfl⟩
  obtain ⟨x1, h2⟩ : ∃ y, FI 110 7 = y := ⟨_, rfl⟩
  have h2l := congrArg Int32.toInt h2
  have b3 := gI_110_7 hI; rw [h2] at b3
  obtain ⟨x4, h5⟩ : ∃ y, FI 111 4 = y := ⟨_, rfl⟩
  have h5l := congrArg Int32.toInt h5
  have b6 := gI_111_4 hI; rw [h5] at b6
  obtain ⟨x7, h8⟩ : ∃ y, FI 110 5 = y := ⟨_, rfl⟩
  have h8l := congrArg Int32.toInt h8
  have := i_rng x7
  obtain ⟨x9, h10⟩ : ∃ y, FI 110 8 = y := ⟨_, rfl⟩
  have h10l := congrArg Int32.toInt h10
  have := i_rng x9
  obtain ⟨x11, h12⟩ : ∃ y, FI 110 4 = y := ⟨_, rfl⟩
  have h12l := congrArg Int32.toInt h12
  have := i_rng x11
  refine xw_iloadn (aX4_readLevel 0 rfl) rfl ?_
  refine hw_bp (v := (7 : Int32)) (aX4_readLevel 1 rfl) (by decide) ?_
  refine hw_iclt (tgt := 11) (aX4_readLevel 2 rfl) (by decide) (by decide : (3 : Int32).toInt = 3) (by decide : (7 : Int32).toInt = 7) (fun cd13 => ?_) (fun cd13 => ?_)
  · refine hw_aloadn (aX4_readLevel 6 rfl) rfl ?_
    refine xw_iloadn (aX4_readLevel 7 rfl) rfl ?_
    refine hw_ic (v := (1 : Int32)) (aX4_readLevel 8 rfl) (by decide) ?_
    refine xw_iadd (aX4_readLevel 9 rfl) ?_
    rw [show (((3 : Int32)) + ((1 : Int32)) : Int32) = (4 : Int32) from by decide]
    refine hw_callV (Bs := [.int ((4 : Int32))]) (rest := []) (aX4_readLevel 10 rfl) wc_RX4_177 (by decide) rfl wi_yX4_readLevel wv_yX4_readLevel (c110 hS) (s110 hS) rfl rfl rfl (Nat.le_of_ble_eq_true rfl) (Nat.le_of_ble_eq_true rfl) (k_level4F (d := d) hS hF hI hR (gp) (gw) (gs) (by have := congrArg Int32.toInt (show FI 110 7 = x1 from h2); have := congrArg Int32.toInt (show FI 110 7 = x1 from h2); have := congrArg Int32.toInt (show FI 111 4 = x4 from h5); omega) (by have := congrArg Int32.toInt (show FI 110 5 = x7 from h8); have := congrArg Int32.toInt (show FI 110 8 = x9 from h10); omega) (by have := congrArg Int32.toInt (show FI 110 7 = x1 from h2); have := congrArg Int32.toInt (show FI 111 4 = x4 from h5); have := congrArg Int32.toInt (show FI 110 8 = x9 from h10); omega) (by have := congrArg Int32.toInt (show FI 110 5 = x7 from h8); omega) (gg0) (gK_mv (L := [(110, 4), (110, 5), (110, 6), (110, 7), (110, 8)]) (A := []) (T := []) hS gg1 gf_rf (by decide))) (fun v14 sv15 p16 => ?_)
    have := congrArg Int32.toInt (show FI 111 4 = x4 from h5)
    have := congrArg Int32.toInt (show FI 111 4 = x4 from h5)
    have := congrArg Int32.toInt (show FI 110 7 = x1 from h2)
    have := congrArg Int32.toInt (show FI 110 5 = x7 from h8)
    have := congrArg Int32.toInt (show FI 110 5 = x7 from h8)
    have := congrArg Int32.toInt (show FI 110 4 = x11 from h12)
    have := congrArg Int32.toInt (show FI 110 7 = x1 from h2)
    obtain ⟨r17, rfl, n39, sl40, SH41, FI18, FL19, FR20, rfl, ex42, hS43, hI21, f22, f23, f24, hF25, hR26, t27, t28, t29, t30, t31, t32, t33, t34, t35, u36, ht37, nn38, hfr44⟩ := p16
    obtain ⟨gp45, gw46, gs47, hT48, hkp49, hq50⟩ := u36
    have hk51 : ∀ c, c < n → gp45 c = gp c ∧ gw46 c = gw c ∧ gs47 c = gs c := fun c hc => by obtain ⟨k1, k2, k3⟩ := hk0 c hc; obtain ⟨m1, m2, m3⟩ := hkp49 c (Nat.lt_of_lt_of_le hc (Nat.le_refl _)); exact ⟨m1.trans k1, m2.trans k2, m3.trans k3⟩
    obtain ⟨r52, rfl⟩ : ∃ q, r17 = some q := Option.ne_none_iff_exists'.mp nn38
    have fq53 := hfr44 r52 rfl
    have dq54 : 176 ≤ r52 := Nat.le_trans hS.1 fq53
    obtain ⟨lt56, ow57, sh58⟩ := ht37 r52 rfl
    obtain ⟨e59, e60, e61⟩ := hq50 r52 rfl
    obtain ⟨x62, h63⟩ : ∃ y, FI18 110 7 = y := ⟨_, rfl⟩
    have h63l := congrArg Int32.toInt h63
    have b64 := gI_110_7 hI21; rw [h63] at b64
    obtain ⟨x65, h66⟩ : ∃ y, FI18 110 5 = y := ⟨_, rfl⟩
    have h66l := congrArg Int32.toInt h66
    have := i_rng x65
    obtain ⟨x67, h68⟩ : ∃ y, FI18 110 8 = y := ⟨_, rfl⟩
    have h68l := congrArg Int32.toInt h68
    have := i_rng x67
    obtain ⟨x69, h70⟩ : ∃ y, FI18 110 4 = y := ⟨_, rfl⟩
    have h70l := congrArg Int32.toInt h70
    have := i_rng x69
    show hw sk base _ _ _ _ _ [.ref (base + r52)] _ _
    refine hw_astoren (L2 := [(2, .ref (base + r52)), (0, .ref (base + 110)), (1, .int ((3 : Int32)))]) (aX4_readLevel 11 rfl) (by decide) rfl ?_
    refine hw_aloadn (aX4_readLevel 12 rfl) rfl ?_
    refine hw_get (v := .int (x67)) (aX4_readLevel 13 rfl) wf_RX4_51 (c110 hS43) (s110 hS43) (by decide) (congrArg Value.int (show FI18 110 8 = x67 from h68)) ?_
    refine hw_callS (As := [.int (x67)]) (rest := []) (aX4_readLevel 14 rfl) wc_RX4_198 (by decide) rfl wt_yX4_levelOf rfl rfl (Nat.le_of_ble_eq_true rfl) (Nat.le_of_ble_eq_true rfl) (k_levelOf2 (d := d + 6) hS43 hF25 hI21 hR26 (x67) ) (fun v71 sv72 p73 => ?_)
    obtain ⟨r74, rfl, rfl, t78⟩ := p73
    have rg_r74 := i_rng r74
    show hw sk base _ _ _ _ _ [.int (r74)] _ _
    refine xw_iloadn (aX4_readLevel 15 rfl) rfl ?_
    refine hw_iceq (tgt := 32) (aX4_readLevel 16 rfl) (by decide) rfl (by decide : (3 : Int32).toInt = 3) (fun cd81 => ?_) (fun cd81 => ?_)
    · exfalso; omega
    · refine hw_aloadn (aX4_readLevel 17 rfl) rfl ?_
      refine xw_aret (v := h_rf base (some (r52))) (aX4_readLevel 18 rfl) rfl (by first | exact Or.inl ⟨_, rfl⟩ | exact Or.inr ⟨_, rfl⟩) ?_
      exact ⟨some (r52), rfl, n39, sl40, SH41, FI18, FL19, FR20, rfl, ex42, hS43, hI21, (gf_tr ex_rf gf_rf f22 rfl rfl rfl), (gf_tr ex_rf gf_rf f23 rfl rfl rfl), (gf_tr ex_rf gf_rf f24 rfl rfl rfl), hF25, hR26, (by have := congrArg Int32.toInt (show FI18 110 7 = x62 from h63); omega), (by have := congrArg Int32.toInt (show FI18 110 5 = x65 from h66); have := congrArg Int32.toInt (show FI18 110 8 = x67 from h68); omega), (by have := congrArg Int32.toInt (show FI18 110 7 = x62 from h63); have := congrArg Int32.toInt (show FI18 110 8 = x67 from h68); omega), (by have := congrArg Int32.toInt (show FI18 110 7 = x62 from h63); omega), (by have := congrArg Int32.toInt (show FI18 110 5 = x65 from h66); omega), (by have := congrArg Int32.toInt (show FI18 110 4 = x69 from h70); have := congrArg Int32.toInt (show FI18 110 5 = x65 from h66); omega), (by have := congrArg Int32.toInt (show FI18 110 7 = x62 from h63); omega), (by omega), (by omega), (by exact ⟨gp45, gw46, gs47, hT48, hk51, fun q e => by cases e; exact ⟨by omega, by omega, (show FR20 r52 6 = none from e61)⟩⟩), ((fun r e => by cases e; exact ⟨lt56, ow57, by rw [sh58]⟩)), (by simp), (fun q e => by cases e; exact (Nat.le_trans (Nat.le_refl _) fq53))⟩
  · omega
set_option maxHeartbeats 4000000 in
set_option maxRecDepth 100000 in
theorem k_level2F {sk : xK} {base d n sl : Nat} {SH : Nat → Nat × Nat} {FI : Nat → Nat → Int32} {FL : Nat → Nat → Int64} {FR : Nat → Nat → Option Nat} (hS : h_S n SH) (hF : h_FR FR) (hI : g_I FI) (hR : g_R n SH FR) (gp : Nat → Nat) (gw : Nat → Nat) (gs : Nat → Nat) (g0 : 0 ≤ (FI 110 7).toInt ∧ (FI 110 7).toInt < (FI 111 4).toInt) (g1 : (FI 110 5).toInt = 0 ∨ (FI 110 8).toInt = 1) (g2 : (FI 110 7).toInt + 1 < (FI 111 4).toInt ∨ (FI 110 8).toInt ≤ 3) (g3 : (FI 110 5).toInt ≠ 0) (gg0 : g_T n SH FI FR gp gw gs) (gg1 : g_K FI) : hw sk base (d + 8) none 54 0 [(0, .ref (base + 110)), (1, .int ((2 : Int32)))] [] (n, sl, SH, FI, FL, FR) (h_A base (fun r s => ∃ n' sl' SH' FI' FL' FR', s = (n', sl', SH', FI', FL', FR') ∧ g_ex n SH n' SH' ∧ h_S n' SH' ∧ g_I FI' ∧ g_fr n (shd SH) [(110, 4), (110, 5), (110, 6), (110, 7), (110, 8)] [] [] FI FI' ∧ g_fr n (shd SH) [(110, 9)] [] [] FL FL' ∧ g_fr n (shd SH) [] [] [] FR FR' ∧ h_FR FR' ∧ g_R n' SH' FR' ∧ (0 ≤ (FI' 110 7).toInt ∧ (FI' 110 7).toInt < (FI 111 4).toInt) ∧ ((FI' 110 5).toInt = 0 ∨ (FI' 110 8).toInt = 1) ∧ ((FI' 110 7).toInt + 1 < (FI 111 4).toInt ∨ (FI' 110 8).toInt ≤ 3) ∧ ((FI 110 7).toInt ≤ (FI' 110 7).toInt) ∧ ((FI 110 5).toInt = 0 ∨ (FI' 110 5).toInt = (FI 110 5).toInt) ∧ ((FI' 110 5).toInt ≠ 0 ∨ (FI' 110 4).toInt = (FI 110 4).toInt) ∧ ((n' : Int) ≤ n + 17 * ((FI' 110 7).toInt - (FI 110 7).toInt) + 6) ∧ ((sl' : Int) ≤ sl + 7 * ((n' : Int) - n)) ∧ ((n : Int) ≤ n') ∧ (∃ gp2 gw2 gs2, g_T n' SH' FI' FR' gp2 gw2 gs2 ∧ (∀ c, c < n → gp2 c = gp c ∧ gw2 c = gw c ∧ gs2 c = gs c) ∧ (∀ q, r = some q → gp2 q = 0 ∧ gw2 q + 20 + 40 * n ≤ 40 * n' ∧ FR' q 6 = none)) ∧ (∀ q, r = some q → q < n' ∧ own q ∧ SH' q = (3, (SH' q).2)) ∧ r ≠ none ∧ (∀ q, r = some q → n ≤ q))) := by
  have hk0 : ∀ c, c < n → gp c = gp c ∧ gw c = gw c ∧ gs c = gs c := fun _ _ => ⟨rfl, rfl, rfl⟩
  obtain ⟨x1, h2⟩ : ∃ y, FI 110 7 = y := ⟨_, rfl⟩
  have h2l := congrArg Int32.toInt h2
  have b3 := gI_110_7 hI; rw [h2] at b3
  obtain ⟨x4, h5⟩ : ∃ y, FI 111 4 = y := ⟨_, rfl⟩
  have h5l := congrArg Int32.toInt h5
  have b6 := gI_111_4 hI; rw [h5] at b6
  obtain ⟨x7, h8⟩ : ∃ y, FI 110 5 = y := ⟨_, rfl⟩
  have h8l := congrArg Int32.toInt h8
  have := i_rng x7
  obtain ⟨x9, h10⟩ : ∃ y, FI 110 8 = y := ⟨_, rfl⟩
  have h10l := congrArg Int32.toInt h10
  have := i_rng x9
  obtain ⟨x11, h12⟩ : ∃ y, FI 110 4 = y := ⟨_, rfl⟩
  have h12l := congrArg Int32.toInt h12
  have := i_rng x11
  refine xw_iloadn (aX4_readLevel 0 rfl) rfl ?_
  refine hw_bp (v := (7 : Int32)) (aX4_readLevel 1 rfl) (by decide) ?_
  refine hw_iclt (tgt := 11) (aX4_readLevel 2 rfl) (by decide) (by decide : (2 : Int32).toInt = 2) (by decide : (7 : Int32).toInt = 7) (fun cd13 => ?_) (fun cd13 => ?_)
  · refine hw_aloadn (aX4_readLevel 6 rfl) rfl ?_
    refine xw_iloadn (aX4_readLevel 7 rfl) rfl ?_
    refine hw_ic (v := (1 : Int32)) (aX4_readLevel 8 rfl) (by decide) ?_
    refine xw_iadd (aX4_readLevel 9 rfl) ?_
    rw [show (((2 : Int32)) + ((1 : Int32)) : Int32) = (3 : Int32) from by decide]
    refine hw_callV (Bs := [.int ((3 : Int32))]) (rest := []) (aX4_readLevel 10 rfl) wc_RX4_177 (by decide) rfl wi_yX4_readLevel wv_yX4_readLevel (c110 hS) (s110 hS) rfl rfl rfl (Nat.le_of_ble_eq_true rfl) (Nat.le_of_ble_eq_true rfl) (k_level3F (d := d) hS hF hI hR (gp) (gw) (gs) (by have := congrArg Int32.toInt (show FI 110 7 = x1 from h2); have := congrArg Int32.toInt (show FI 110 7 = x1 from h2); have := congrArg Int32.toInt (show FI 111 4 = x4 from h5); omega) (by have := congrArg Int32.toInt (show FI 110 5 = x7 from h8); have := congrArg Int32.toInt (show FI 110 8 = x9 from h10); omega) (by have := congrArg Int32.toInt (show FI 110 7 = x1 from h2); have := congrArg Int32.toInt (show FI 111 4 = x4 from h5); have := congrArg Int32.toInt (show FI 110 8 = x9 from h10); omega) (by have := congrArg Int32.toInt (show FI 110 5 = x7 from h8); omega) (gg0) (gK_mv (L := [(110, 4), (110, 5), (110, 6), (110, 7), (110, 8)]) (A := []) (T := []) hS gg1 gf_rf (by decide))) (fun v14 sv15 p16 => ?_)
    have := congrArg Int32.toInt (show FI 111 4 = x4 from h5)
    have := congrArg Int32.toInt (show FI 111 4 = x4 from h5)
    have := congrArg Int32.toInt (show FI 110 7 = x1 from h2)
    have := congrArg Int32.toInt (show FI 110 5 = x7 from h8)
    have := congrArg Int32.toInt (show FI 110 5 = x7 from h8)
    have := congrArg Int32.toInt (show FI 110 4 = x11 from h12)
    have := congrArg Int32.toInt (show FI 110 7 = x1 from h2)
    obtain ⟨r17, rfl, n39, sl40, SH41, FI18, FL19, FR20, rfl, ex42, hS43, hI21, f22, f23, f24, hF25, hR26, t27, t28, t29, t30, t31, t32, t33, t34, t35, u36, ht37, nn38, hfr44⟩ := p16
    obtain ⟨gp45, gw46, gs47, hT48, hkp49, hq50⟩ := u36
    have hk51 : ∀ c, c < n → gp45 c = gp c ∧ gw46 c = gw c ∧ gs47 c = gs c := fun c hc => by obtain ⟨k1, k2, k3⟩ := hk0 c hc; obtain ⟨m1, m2, m3⟩ := hkp49 c (Nat.lt_of_lt_of_le hc (Nat.le_refl _)); exact ⟨m1.trans k1, m2.trans k2, m3.trans k3⟩
    obtain ⟨r52, rfl⟩ : ∃ q, r17 = some q := Option.ne_none_iff_exists'.mp nn38
    have fq53 := hfr44 r52 rfl
    have dq54 : 176 ≤ r52 := Nat.le_trans hS.1 fq53
    obtain ⟨lt56, ow57, sh58⟩ := ht37 r52 rfl
    obtain ⟨e59, e60, e61⟩ := hq50 r52 rfl
    obtain ⟨x62, h63⟩ : ∃ y, FI18 110 7 = y := ⟨_, rfl⟩
    have h63l := congrArg Int32.toInt h63
    have b64 := gI_110_7 hI21; rw [h63] at b64
    obtain ⟨x65, h66⟩ : ∃ y, FI18 110 5 = y := ⟨_, rfl⟩
    have h66l := congrArg Int32.toInt h66
    have := i_rng x65
    obtain ⟨x67, h68⟩ : ∃ y, FI18 110 8 = y := ⟨_, rfl⟩
    have h68l := congrArg Int32.toInt h68
    have := i_rng x67
    obtain ⟨x69, h70⟩ : ∃ y, FI18 110 4 = y := ⟨_, rfl⟩
    have h70l := congrArg Int32.toInt h70
    have := i_rng x69
    show hw sk base _ _ _ _ _ [.ref (base + r52)] _ _
    refine hw_astoren (L2 := [(2, .ref (base + r52)), (0, .ref (base + 110)), (1, .int ((2 : Int32)))]) (aX4_readLevel 11 rfl) (by decide) rfl ?_
    refine hw_aloadn (aX4_readLevel 12 rfl) rfl ?_
    refine hw_get (v := .int (x67)) (aX4_readLevel 13 rfl) wf_RX4_51 (c110 hS43) (s110 hS43) (by decide) (congrArg Value.int (show FI18 110 8 = x67 from h68)) ?_
    refine hw_callS (As := [.int (x67)]) (rest := []) (aX4_readLevel 14 rfl) wc_RX4_198 (by decide) rfl wt_yX4_levelOf rfl rfl (Nat.le_of_ble_eq_true rfl) (Nat.le_of_ble_eq_true rfl) (k_levelOf2 (d := d + 7) hS43 hF25 hI21 hR26 (x67) ) (fun v71 sv72 p73 => ?_)
    obtain ⟨r74, rfl, rfl, t78⟩ := p73
    have rg_r74 := i_rng r74
    show hw sk base _ _ _ _ _ [.int (r74)] _ _
    refine xw_iloadn (aX4_readLevel 15 rfl) rfl ?_
    refine hw_iceq (tgt := 32) (aX4_readLevel 16 rfl) (by decide) rfl (by decide : (2 : Int32).toInt = 2) (fun cd81 => ?_) (fun cd81 => ?_)
    · exfalso; omega
    · refine hw_aloadn (aX4_readLevel 17 rfl) rfl ?_
      refine xw_aret (v := h_rf base (some (r52))) (aX4_readLevel 18 rfl) rfl (by first | exact Or.inl ⟨_, rfl⟩ | exact Or.inr ⟨_, rfl⟩) ?_
      exact ⟨some (r52), rfl, n39, sl40, SH41, FI18, FL19, FR20, rfl, ex42, hS43, hI21, (gf_tr ex_rf gf_rf f22 rfl rfl rfl), (gf_tr ex_rf gf_rf f23 rfl rfl rfl), (gf_tr ex_rf gf_rf f24 rfl rfl rfl), hF25, hR26, (by have := congrArg Int32.toInt (show FI18 110 7 = x62 from h63); omega), (by have := congrArg Int32.toInt (show FI18 110 5 = x65 from h66); have := congrArg Int32.toInt (show FI18 110 8 = x67 from h68); omega), (by have := congrArg Int32.toInt (show FI18 110 7 = x62 from h63); have := congrArg Int32.toInt (show FI18 110 8 = x67 from h68); omega), (by have := congrArg Int32.toInt (show FI18 110 7 = x62 from h63); omega), (by have := congrArg Int32.toInt (show FI18 110 5 = x65 from h66); omega), (by have := congrArg Int32.toInt (show FI18 110 4 = x69 from h70); have := congrArg Int32.toInt (show FI18 110 5 = x65 from h66); omega), (by have := congrArg Int32.toInt (show FI18 110 7 = x62 from h63); omega), (by omega), (by omega), (by exact ⟨gp45, gw46, gs47, hT48, hk51, fun q e => by cases e; exact ⟨by omega, by omega, (show FR20 r52 6 = none from e61)⟩⟩), ((fun r e => by cases e; exact ⟨lt56, ow57, by rw [sh58]⟩)), (by simp), (fun q e => by cases e; exact (Nat.le_trans (Nat.le_refl _) fq53))⟩
  · omega
set_option maxHeartbeats 4000000 in
set_option maxRecDepth 100000 in
theorem k_level1F {sk : xK} {base d n sl : Nat} {SH : Nat → Nat × Nat} {FI : Nat → Nat → Int32} {FL : Nat → Nat → Int64} {FR : Nat → Nat → Option Nat} (hS : h_S n SH) (hF : h_FR FR) (hI : g_I FI) (hR : g_R n SH FR) (gp : Nat → Nat) (gw : Nat → Nat) (gs : Nat → Nat) (g0 : 0 ≤ (FI 110 7).toInt ∧ (FI 110 7).toInt < (FI 111 4).toInt) (g1 : (FI 110 5).toInt = 0 ∨ (FI 110 8).toInt = 1) (g2 : (FI 110 7).toInt + 1 < (FI 111 4).toInt ∨ (FI 110 8).toInt ≤ 3) (g3 : (FI 110 5).toInt ≠ 0) (gg0 : g_T n SH FI FR gp gw gs) (gg1 : g_K FI) : hw sk base (d + 9) none 54 0 [(0, .ref (base + 110)), (1, .int ((1 : Int32)))] [] (n, sl, SH, FI, FL, FR) (h_A base (fun r s => ∃ n' sl' SH' FI' FL' FR', s = (n', sl', SH', FI', FL', FR') ∧ g_ex n SH n' SH' ∧ h_S n' SH' ∧ g_I FI' ∧ g_fr n (shd SH) [(110, 4), (110, 5), (110, 6), (110, 7), (110, 8)] [] [] FI FI' ∧ g_fr n (shd SH) [(110, 9)] [] [] FL FL' ∧ g_fr n (shd SH) [] [] [] FR FR' ∧ h_FR FR' ∧ g_R n' SH' FR' ∧ (0 ≤ (FI' 110 7).toInt ∧ (FI' 110 7).toInt < (FI 111 4).toInt) ∧ ((FI' 110 5).toInt = 0 ∨ (FI' 110 8).toInt = 1) ∧ ((FI' 110 7).toInt + 1 < (FI 111 4).toInt ∨ (FI' 110 8).toInt ≤ 3) ∧ ((FI 110 7).toInt ≤ (FI' 110 7).toInt) ∧ ((FI 110 5).toInt = 0 ∨ (FI' 110 5).toInt = (FI 110 5).toInt) ∧ ((FI' 110 5).toInt ≠ 0 ∨ (FI' 110 4).toInt = (FI 110 4).toInt) ∧ ((n' : Int) ≤ n + 17 * ((FI' 110 7).toInt - (FI 110 7).toInt) + 7) ∧ ((sl' : Int) ≤ sl + 7 * ((n' : Int) - n)) ∧ ((n : Int) ≤ n') ∧ (∃ gp2 gw2 gs2, g_T n' SH' FI' FR' gp2 gw2 gs2 ∧ (∀ c, c < n → gp2 c = gp c ∧ gw2 c = gw c ∧ gs2 c = gs c) ∧ (∀ q, r = some q → gp2 q = 0 ∧ gw2 q + 20 + 40 * n ≤ 40 * n' ∧ FR' q 6 = none)) ∧ (∀ q, r = some q → q < n' ∧ own q ∧ SH' q = (3, (SH' q).2)) ∧ r ≠ none ∧ (∀ q, r = some q → n ≤ q))) := by
  have hk0 : ∀ c, c < n → gp c = gp c ∧ gw c = gw c ∧ gs c = gs c := fun _ _ => ⟨rfl, rfl, rfl⟩
  obtain ⟨x1, h2⟩ : ∃ y, FI 110 7 = y := ⟨_, rfl⟩
  have h2l := congrArg Int32.toInt h2
  have b3 := gI_110_7 hI; rw [h2] at b3
  obtain ⟨x4, h5⟩ : ∃ y, FI 111 4 = y := ⟨_, rfl⟩
  have h5l := congrArg Int32.toInt h5
  have b6 := gI_111_4 hI; rw [h5] at b6
  obtain ⟨x7, h8⟩ : ∃ y, FI 110 5 = y := ⟨_, rfl⟩
  have h8l := congrArg Int32.toInt h8
  have := i_rng x7
  obtain ⟨x9, h10⟩ : ∃ y, FI 110 8 = y := ⟨_, rfl⟩
  have h10l := congrArg Int32.toInt h10
  have := i_rng x9
  obtain ⟨x11, h12⟩ : ∃ y, FI 110 4 = y := ⟨_, rfl⟩
  have h12l := congrArg Int32.toInt h12
  have := i_rng x11
  refine xw_iloadn (aX4_readLevel 0 rfl) rfl ?_
  refine hw_bp (v := (7 : Int32)) (aX4_readLevel 1 rfl) (by decide) ?_
  refine hw_iclt (tgt := 11) (aX4_readLevel 2 rfl) (by decide) (by decide : (1 : Int32).toInt = 1) (by decide : (7 : Int32).toInt = 7) (fun cd13 => ?_) (fun cd13 => ?_)
  · refine hw_aloadn (aX4_readLevel 6 rfl) rfl ?_
    refine xw_iloadn (aX4_readLevel 7 rfl) rfl ?_
    refine hw_ic (v := (1 : Int32)) (aX4_readLevel 8 rfl) (by decide) ?_
    refine xw_iadd (aX4_readLevel 9 rfl) ?_
    rw [show (((1 : Int32)) + ((1 : Int32)) : Int32) = (2 : Int32) from by decide]
    refine hw_callV (Bs := [.int ((2 : Int32))]) (rest := []) (aX4_readLevel 10 rfl) wc_RX4_177 (by decide) rfl wi_yX4_readLevel wv_yX4_readLevel (c110 hS) (s110 hS) rfl rfl rfl (Nat.le_of_ble_eq_true rfl) (Nat.le_of_ble_eq_true rfl) (k_level2F (d := d) hS hF hI hR (gp) (gw) (gs) (by have := congrArg Int32.toInt (show FI 110 7 = x1 from h2); have := congrArg Int32.toInt (show FI 110 7 = x1 from h2); have := congrArg Int32.toInt (show FI 111 4 = x4 from h5); omega) (by have := congrArg Int32.toInt (show FI 110 5 = x7 from h8); have := congrArg Int32.toInt (show FI 110 8 = x9 from h10); omega) (by have := congrArg Int32.toInt (show FI 110 7 = x1 from h2); have := congrArg Int32.toInt (show FI 111 4 = x4 from h5); have := congrArg Int32.toInt (show FI 110 8 = x9 from h10); omega) (by have := congrArg Int32.toInt (show FI 110 5 = x7 from h8); omega) (gg0) (gK_mv (L := [(110, 4), (110, 5), (110, 6), (110, 7), (110, 8)]) (A := []) (T := []) hS gg1 gf_rf (by decide))) (fun v14 sv15 p16 => ?_)
    have := congrArg Int32.toInt (show FI 111 4 = x4 from h5)
    have := congrArg Int32.toInt (show FI 111 4 = x4 from h5)
    have := congrArg Int32.toInt (show FI 110 7 = x1 from h2)
    have := congrArg Int32.toInt (show FI 110 5 = x7 from h8)
    have := congrArg Int32.toInt (show FI 110 5 = x7 from h8)
    have := congrArg Int32.toInt (show FI 110 4 = x11 from h12)
    have := congrArg Int32.toInt (show FI 110 7 = x1 from h2)
    obtain ⟨r17, rfl, n39, sl40, SH41, FI18, FL19, FR20, rfl, ex42, hS43, hI21, f22, f23, f24, hF25, hR26, t27, t28, t29, t30, t31, t32, t33, t34, t35, u36, ht37, nn38, hfr44⟩ := p16
    obtain ⟨gp45, gw46, gs47, hT48, hkp49, hq50⟩ := u36
    have hk51 : ∀ c, c < n → gp45 c = gp c ∧ gw46 c = gw c ∧ gs47 c = gs c := fun c hc => by obtain ⟨k1, k2, k3⟩ := hk0 c hc; obtain ⟨m1, m2, m3⟩ := hkp49 c (Nat.lt_of_lt_of_le hc (Nat.le_refl _)); exact ⟨m1.trans k1, m2.trans k2, m3.trans k3⟩
    obtain ⟨r52, rfl⟩ : ∃ q, r17 = some q := Option.ne_none_iff_exists'.mp nn38
    have fq53 := hfr44 r52 rfl
    have dq54 : 176 ≤ r52 := Nat.le_trans hS.1 fq53
    obtain ⟨lt56, ow57, sh58⟩ := ht37 r52 rfl
    obtain ⟨e59, e60, e61⟩ := hq50 r52 rfl
    obtain ⟨x62, h63⟩ : ∃ y, FI18 110 7 = y := ⟨_, rfl⟩
    have h63l := congrArg Int32.toInt h63
    have b64 := gI_110_7 hI21; rw [h63] at b64
    obtain ⟨x65, h66⟩ : ∃ y, FI18 110 5 = y := ⟨_, rfl⟩
    have h66l := congrArg Int32.toInt h66
    have := i_rng x65
    obtain ⟨x67, h68⟩ : ∃ y, FI18 110 8 = y := ⟨_, rfl⟩
    have h68l := congrArg Int32.toInt h68
    have := i_rng x67
    obtain ⟨x69, h70⟩ : ∃ y, FI18 110 4 = y := ⟨_, rfl⟩
    have h70l := congrArg Int32.toInt h70
    have := i_rng x69
    show hw sk base _ _ _ _ _ [.ref (base + r52)] _ _
    refine hw_astoren (L2 := [(2, .ref (base + r52)), (0, .ref (base + 110)), (1, .int ((1 : Int32)))]) (aX4_readLevel 11 rfl) (by decide) rfl ?_
    refine hw_aloadn (aX4_readLevel 12 rfl) rfl ?_
    refine hw_get (v := .int (x67)) (aX4_readLevel 13 rfl) wf_RX4_51 (c110 hS43) (s110 hS43) (by decide) (congrArg Value.int (show FI18 110 8 = x67 from h68)) ?_
    refine hw_callS (As := [.int (x67)]) (rest := []) (aX4_readLevel 14 rfl) wc_RX4_198 (by decide) rfl wt_yX4_levelOf rfl rfl (Nat.le_of_ble_eq_true rfl) (Nat.le_of_ble_eq_true rfl) (k_levelOf2 (d := d + 8) hS43 hF25 hI21 hR26 (x67) ) (fun v71 sv72 p73 => ?_)
    obtain ⟨r74, rfl, rfl, t78⟩ := p73
    have rg_r74 := i_rng r74
    show hw sk base _ _ _ _ _ [.int (r74)] _ _
    refine xw_iloadn (aX4_readLevel 15 rfl) rfl ?_
    refine hw_iceq (tgt := 32) (aX4_readLevel 16 rfl) (by decide) rfl (by decide : (1 : Int32).toInt = 1) (fun cd81 => ?_) (fun cd81 => ?_)
    · exfalso; omega
    · refine hw_aloadn (aX4_readLevel 17 rfl) rfl ?_
      refine xw_aret (v := h_rf base (some (r52))) (aX4_readLevel 18 rfl) rfl (by first | exact Or.inl ⟨_, rfl⟩ | exact Or.inr ⟨_, rfl⟩) ?_
      exact ⟨some (r52), rfl, n39, sl40, SH41, FI18, FL19, FR20, rfl, ex42, hS43, hI21, (gf_tr ex_rf gf_rf f22 rfl rfl rfl), (gf_tr ex_rf gf_rf f23 rfl rfl rfl), (gf_tr ex_rf gf_rf f24 rfl rfl rfl), hF25, hR26, (by have := congrArg Int32.toInt (show FI18 110 7 = x62 from h63); omega), (by have := congrArg Int32.toInt (show FI18 110 5 = x65 from h66); have := congrArg Int32.toInt (show FI18 110 8 = x67 from h68); omega), (by have := congrArg Int32.toInt (show FI18 110 7 = x62 from h63); have := congrArg Int32.toInt (show FI18 110 8 = x67 from h68); omega), (by have := congrArg Int32.toInt (show FI18 110 7 = x62 from h63); omega), (by have := congrArg Int32.toInt (show FI18 110 5 = x65 from h66); omega), (by have := congrArg Int32.toInt (show FI18 110 4 = x69 from h70); have := congrArg Int32.toInt (show FI18 110 5 = x65 from h66); omega), (by have := congrArg Int32.toInt (show FI18 110 7 = x62 from h63); omega), (by omega), (by omega), (by exact ⟨gp45, gw46, gs47, hT48, hk51, fun q e => by cases e; exact ⟨by omega, by omega, (show FR20 r52 6 = none from e61)⟩⟩), ((fun r e => by cases e; exact ⟨lt56, ow57, by rw [sh58]⟩)), (by simp), (fun q e => by cases e; exact (Nat.le_trans (Nat.le_refl _) fq53))⟩
  · omega
set_option maxHeartbeats 4000000 in
set_option maxRecDepth 100000 in
theorem k_level0F {sk : xK} {base d n sl : Nat} {SH : Nat → Nat × Nat} {FI : Nat → Nat → Int32} {FL : Nat → Nat → Int64} {FR : Nat → Nat → Option Nat} (hS : h_S n SH) (hF : h_FR FR) (hI : g_I FI) (hR : g_R n SH FR) (gp : Nat → Nat) (gw : Nat → Nat) (gs : Nat → Nat) (g0 : 0 ≤ (FI 110 7).toInt ∧ (FI 110 7).toInt < (FI 111 4).toInt) (g1 : (FI 110 5).toInt = 0 ∨ (FI 110 8).toInt = 1) (g2 : (FI 110 7).toInt + 1 < (FI 111 4).toInt ∨ (FI 110 8).toInt ≤ 3) (g3 : (FI 110 5).toInt ≠ 0) (gg0 : g_T n SH FI FR gp gw gs) (gg1 : g_K FI) : hw sk base (d + 10) none 54 0 [(0, .ref (base + 110)), (1, .int ((0 : Int32)))] [] (n, sl, SH, FI, FL, FR) (h_A base (fun r s => ∃ n' sl' SH' FI' FL' FR', s = (n', sl', SH', FI', FL', FR') ∧ g_ex n SH n' SH' ∧ h_S n' SH' ∧ g_I FI' ∧ g_fr n (shd SH) [(110, 4), (110, 5), (110, 6), (110, 7), (110, 8)] [] [] FI FI' ∧ g_fr n (shd SH) [(110, 9)] [] [] FL FL' ∧ g_fr n (shd SH) [] [] [] FR FR' ∧ h_FR FR' ∧ g_R n' SH' FR' ∧ (0 ≤ (FI' 110 7).toInt ∧ (FI' 110 7).toInt < (FI 111 4).toInt) ∧ ((FI' 110 5).toInt = 0 ∨ (FI' 110 8).toInt = 1) ∧ ((FI' 110 7).toInt + 1 < (FI 111 4).toInt ∨ (FI' 110 8).toInt ≤ 3) ∧ ((FI 110 7).toInt ≤ (FI' 110 7).toInt) ∧ ((FI 110 5).toInt = 0 ∨ (FI' 110 5).toInt = (FI 110 5).toInt) ∧ ((FI' 110 5).toInt ≠ 0 ∨ (FI' 110 4).toInt = (FI 110 4).toInt) ∧ ((n' : Int) ≤ n + 17 * ((FI' 110 7).toInt - (FI 110 7).toInt) + 8) ∧ ((sl' : Int) ≤ sl + 7 * ((n' : Int) - n)) ∧ ((n : Int) ≤ n') ∧ (∃ gp2 gw2 gs2, g_T n' SH' FI' FR' gp2 gw2 gs2 ∧ (∀ c, c < n → gp2 c = gp c ∧ gw2 c = gw c ∧ gs2 c = gs c) ∧ (∀ q, r = some q → gp2 q = 0 ∧ gw2 q + 20 + 40 * n ≤ 40 * n' ∧ FR' q 6 = none)) ∧ (∀ q, r = some q → q < n' ∧ own q ∧ SH' q = (3, (SH' q).2)) ∧ r ≠ none ∧ (∀ q, r = some q → n ≤ q))) := by
  have hk0 : ∀ c, c < n → gp c = gp c ∧ gw c = gw c ∧ gs c = gs c := fun _ _ => ⟨rfl, rfl, rfl⟩
  obtain ⟨x1, h2⟩ : ∃ y, FI 110 7 = y := ⟨_, rfl⟩
  have h2l := congrArg Int32.toInt h2
  have b3 := gI_110_7 hI; rw [h2] at b3
  obtain ⟨x4, h5⟩ : ∃ y, FI 111 4 = y := ⟨_, rfl⟩
  have h5l := congrArg Int32.toInt h5
  have b6 := gI_111_4 hI; rw [h5] at b6
  obtain ⟨x7, h8⟩ : ∃ y, FI 110 5 = y := ⟨_, rfl⟩
  have h8l := congrArg Int32.toInt h8
  have := i_rng x7
  obtain ⟨x9, h10⟩ : ∃ y, FI 110 8 = y := ⟨_, rfl⟩
  have h10l := congrArg Int32.toInt h10
  have := i_rng x9
  obtain ⟨x11, h12⟩ : ∃ y, FI 110 4 = y := ⟨_, rfl⟩
  have h12l := congrArg Int32.toInt h12
  have := i_rng x11
  refine xw_iloadn (aX4_readLevel 0 rfl) rfl ?_
  refine hw_bp (v := (7 : Int32)) (aX4_readLevel 1 rfl) (by decide) ?_
  refine hw_iclt (tgt := 11) (aX4_readLevel 2 rfl) (by decide) (by decide : (0 : Int32).toInt = 0) (by decide : (7 : Int32).toInt = 7) (fun cd13 => ?_) (fun cd13 => ?_)
  · refine hw_aloadn (aX4_readLevel 6 rfl) rfl ?_
    refine xw_iloadn (aX4_readLevel 7 rfl) rfl ?_
    refine hw_ic (v := (1 : Int32)) (aX4_readLevel 8 rfl) (by decide) ?_
    refine xw_iadd (aX4_readLevel 9 rfl) ?_
    rw [show (((0 : Int32)) + ((1 : Int32)) : Int32) = (1 : Int32) from by decide]
    refine hw_callV (Bs := [.int ((1 : Int32))]) (rest := []) (aX4_readLevel 10 rfl) wc_RX4_177 (by decide) rfl wi_yX4_readLevel wv_yX4_readLevel (c110 hS) (s110 hS) rfl rfl rfl (Nat.le_of_ble_eq_true rfl) (Nat.le_of_ble_eq_true rfl) (k_level1F (d := d) hS hF hI hR (gp) (gw) (gs) (by have := congrArg Int32.toInt (show FI 110 7 = x1 from h2); have := congrArg Int32.toInt (show FI 110 7 = x1 from h2); have := congrArg Int32.toInt (show FI 111 4 = x4 from h5); omega) (by have := congrArg Int32.toInt (show FI 110 5 = x7 from h8); have := congrArg Int32.toInt (show FI 110 8 = x9 from h10); omega) (by have := congrArg Int32.toInt (show FI 110 7 = x1 from h2); have := congrArg Int32.toInt (show FI 111 4 = x4 from h5); have := congrArg Int32.toInt (show FI 110 8 = x9 from h10); omega) (by have := congrArg Int32.toInt (show FI 110 5 = x7 from h8); omega) (gg0) (gK_mv (L := [(110, 4), (110, 5), (110, 6), (110, 7), (110, 8)]) (A := []) (T := []) hS gg1 gf_rf (by decide))) (fun v14 sv15 p16 => ?_)
    have := congrArg Int32.toInt (show FI 111 4 = x4 from h5)
    have := congrArg Int32.toInt (show FI 111 4 = x4 from h5)
    have := congrArg Int32.toInt (show FI 110 7 = x1 from h2)
    have := congrArg Int32.toInt (show FI 110 5 = x7 from h8)
    have := congrArg Int32.toInt (show FI 110 5 = x7 from h8)
    have := congrArg Int32.toInt (show FI 110 4 = x11 from h12)
    have := congrArg Int32.toInt (show FI 110 7 = x1 from h2)
    obtain ⟨r17, rfl, n39, sl40, SH41, FI18, FL19, FR20, rfl, ex42, hS43, hI21, f22, f23, f24, hF25, hR26, t27, t28, t29, t30, t31, t32, t33, t34, t35, u36, ht37, nn38, hfr44⟩ := p16
    obtain ⟨gp45, gw46, gs47, hT48, hkp49, hq50⟩ := u36
    have hk51 : ∀ c, c < n → gp45 c = gp c ∧ gw46 c = gw c ∧ gs47 c = gs c := fun c hc => by obtain ⟨k1, k2, k3⟩ := hk0 c hc; obtain ⟨m1, m2, m3⟩ := hkp49 c (Nat.lt_of_lt_of_le hc (Nat.le_refl _)); exact ⟨m1.trans k1, m2.trans k2, m3.trans k3⟩
    obtain ⟨r52, rfl⟩ : ∃ q, r17 = some q := Option.ne_none_iff_exists'.mp nn38
    have fq53 := hfr44 r52 rfl
    have dq54 : 176 ≤ r52 := Nat.le_trans hS.1 fq53
    obtain ⟨lt56, ow57, sh58⟩ := ht37 r52 rfl
    obtain ⟨e59, e60, e61⟩ := hq50 r52 rfl
    obtain ⟨x62, h63⟩ : ∃ y, FI18 110 7 = y := ⟨_, rfl⟩
    have h63l := congrArg Int32.toInt h63
    have b64 := gI_110_7 hI21; rw [h63] at b64
    obtain ⟨x65, h66⟩ : ∃ y, FI18 110 5 = y := ⟨_, rfl⟩
    have h66l := congrArg Int32.toInt h66
    have := i_rng x65
    obtain ⟨x67, h68⟩ : ∃ y, FI18 110 8 = y := ⟨_, rfl⟩
    have h68l := congrArg Int32.toInt h68
    have := i_rng x67
    obtain ⟨x69, h70⟩ : ∃ y, FI18 110 4 = y := ⟨_, rfl⟩
    have h70l := congrArg Int32.toInt h70
    have := i_rng x69
    show hw sk base _ _ _ _ _ [.ref (base + r52)] _ _
    refine hw_astoren (L2 := [(2, .ref (base + r52)), (0, .ref (base + 110)), (1, .int ((0 : Int32)))]) (aX4_readLevel 11 rfl) (by decide) rfl ?_
    refine hw_aloadn (aX4_readLevel 12 rfl) rfl ?_
    refine hw_get (v := .int (x67)) (aX4_readLevel 13 rfl) wf_RX4_51 (c110 hS43) (s110 hS43) (by decide) (congrArg Value.int (show FI18 110 8 = x67 from h68)) ?_
    refine hw_callS (As := [.int (x67)]) (rest := []) (aX4_readLevel 14 rfl) wc_RX4_198 (by decide) rfl wt_yX4_levelOf rfl rfl (Nat.le_of_ble_eq_true rfl) (Nat.le_of_ble_eq_true rfl) (k_levelOf2 (d := d + 9) hS43 hF25 hI21 hR26 (x67) ) (fun v71 sv72 p73 => ?_)
    obtain ⟨r74, rfl, rfl, t78⟩ := p73
    have rg_r74 := i_rng r74
    show hw sk base _ _ _ _ _ [.int (r74)] _ _
    refine xw_iloadn (aX4_readLevel 15 rfl) rfl ?_
    refine hw_iceq (tgt := 32) (aX4_readLevel 16 rfl) (by decide) rfl (by decide : (0 : Int32).toInt = 0) (fun cd81 => ?_) (fun cd81 => ?_)
    · exfalso; omega
    · refine hw_aloadn (aX4_readLevel 17 rfl) rfl ?_
      refine xw_aret (v := h_rf base (some (r52))) (aX4_readLevel 18 rfl) rfl (by first | exact Or.inl ⟨_, rfl⟩ | exact Or.inr ⟨_, rfl⟩) ?_
      exact ⟨some (r52), rfl, n39, sl40, SH41, FI18, FL19, FR20, rfl, ex42, hS43, hI21, (gf_tr ex_rf gf_rf f22 rfl rfl rfl), (gf_tr ex_rf gf_rf f23 rfl rfl rfl), (gf_tr ex_rf gf_rf f24 rfl rfl rfl), hF25, hR26, (by have := congrArg Int32.toInt (show FI18 110 7 = x62 from h63); omega), (by have := congrArg Int32.toInt (show FI18 110 5 = x65 from h66); have := congrArg Int32.toInt (show FI18 110 8 = x67 from h68); omega), (by have := congrArg Int32.toInt (show FI18 110 7 = x62 from h63); have := congrArg Int32.toInt (show FI18 110 8 = x67 from h68); omega), (by have := congrArg Int32.toInt (show FI18 110 7 = x62 from h63); omega), (by have := congrArg Int32.toInt (show FI18 110 5 = x65 from h66); omega), (by have := congrArg Int32.toInt (show FI18 110 4 = x69 from h70); have := congrArg Int32.toInt (show FI18 110 5 = x65 from h66); omega), (by have := congrArg Int32.toInt (show FI18 110 7 = x62 from h63); omega), (by omega), (by omega), (by exact ⟨gp45, gw46, gs47, hT48, hk51, fun q e => by cases e; exact ⟨by omega, by omega, (show FR20 r52 6 = none from e61)⟩⟩), ((fun r e => by cases e; exact ⟨lt56, ow57, by rw [sh58]⟩)), (by simp), (fun q e => by cases e; exact (Nat.le_trans (Nat.le_refl _) fq53))⟩
  · omega
def nX4_readChoice : Nat := 0xb02c2400b564042400b4592ac000b59600b62a2c5300b63a102abd00b59600b62a2c3000b62aba00b52b2c4db700b7093f1059b500bbb02b05009a7500b62a0a00a03f103300b42a4cb100b6032a
theorem bX4_readChoice : cX4_readChoice.data.toList.map UInt8.toNat = x_un nX4_readChoice 78 := by decide +kernel
def iX4_readChoice : List (Nat × Jvm.ClassFile.Instr × Nat) := [(0, .aload_n 0, 1), (1, .iconst 0, 1), (2, .invokevirtual 177, 3), (5, .astore_n 1, 1), (6, .aload_n 0, 1), (7, .getfield 51, 3), (10, .bipush 63, 2), (12, .if_icmp .ne 10, 3), (15, .aload_n 0, 1), (16, .invokevirtual 117, 3), (19, .ifCond .ne 5, 3), (22, .aload_n 1, 1), (23, .areturn, 1), (24, .new 181, 3), (27, .dup, 1), (28, .bipush 63, 2), (30, .lconst 0, 1), (31, .invokespecial 183, 3), (34, .astore_n 2, 1), (35, .aload_n 2, 1), (36, .aload_n 1, 1), (37, .putfield 186, 3), (40, .aload_n 0, 1), (41, .invokevirtual 48, 3), (44, .aload_n 2, 1), (45, .aload_n 0, 1), (46, .invokevirtual 150, 3), (49, .putfield 189, 3), (52, .aload_n 0, 1), (53, .bipush 58, 2), (55, .invokevirtual 83, 3), (58, .aload_n 2, 1), (59, .aload_n 0, 1), (60, .invokevirtual 150, 3), (63, .putfield 192, 3), (66, .aload_n 0, 1), (67, .dup, 1), (68, .getfield 36, 3), (71, .iconst 1, 1), (72, .isub, 1), (73, .putfield 36, 3), (76, .aload_n 2, 1), (77, .areturn, 1)]
theorem dX4_readChoice : x_il nX4_readChoice 78 iX4_readChoice = true := by decide +kernel
theorem aX4_readChoice (k : Nat) {pc : Nat} {i : Jvm.ClassFile.Instr} {len : Nat} (hk : iX4_readChoice[k]? = some (pc, i, len)) : x_at xMM 53 pc i len yX4_readChoice 3 (some (.object "LocationDesk$Node")) := ⟨cX4_readChoice, rfl, x_il_ok bX4_readChoice dX4_readChoice k hk⟩
set_option maxHeartbeats 4000000 in
set_option maxRecDepth 100000 in
theorem k_choiceF {sk : xK} {base d n sl : Nat} {SH : Nat → Nat × Nat} {FI : Nat → Nat → Int32} {FL : Nat → Nat → Int64} {FR : Nat → Nat → Option Nat} (hS : h_S n SH) (hF : h_FR FR) (hI : g_I FI) (hR : g_R n SH FR) (gp : Nat → Nat) (gw : Nat → Nat) (gs : Nat → Nat) (g0 : 0 ≤ (FI 110 7).toInt ∧ (FI 110 7).toInt < (FI 111 4).toInt) (g1 : (FI 110 5).toInt = 0 ∨ (FI 110 8).toInt = 1) (g2 : (FI 110 7).toInt + 1 < (FI 111 4).toInt ∨ (FI 110 8).toInt ≤ 3) (g3 : (FI 110 5).toInt ≠ 0) (gg0 : g_T n SH FI FR gp gw gs) (gg1 : g_K FI) : hw sk base (d + 11) none 53 0 [(0, .ref (base + 110))] [] (n, sl, SH, FI, FL, FR) (h_A base (fun r s => ∃ n' sl' SH' FI' FL' FR', s = (n', sl', SH', FI', FL', FR') ∧ g_ex n SH n' SH' ∧ h_S n' SH' ∧ g_I FI' ∧ g_fr n (shd SH) [(110, 4), (110, 5), (110, 6), (110, 7), (110, 8)] [] [] FI FI' ∧ g_fr n (shd SH) [(110, 9)] [] [] FL FL' ∧ g_fr n (shd SH) [] [] [] FR FR' ∧ h_FR FR' ∧ g_R n' SH' FR' ∧ (0 ≤ (FI' 110 7).toInt ∧ (FI' 110 7).toInt < (FI 111 4).toInt) ∧ ((FI' 110 5).toInt = 0 ∨ (FI' 110 8).toInt = 1) ∧ ((FI' 110 7).toInt + 1 < (FI 111 4).toInt ∨ (FI' 110 8).toInt ≤ 3) ∧ ((FI 110 7).toInt ≤ (FI' 110 7).toInt) ∧ ((FI 110 5).toInt = 0 ∨ (FI' 110 5).toInt = (FI 110 5).toInt) ∧ ((FI' 110 5).toInt ≠ 0 ∨ (FI' 110 4).toInt = (FI 110 4).toInt) ∧ ((n' : Int) ≤ n + 17 * ((FI' 110 7).toInt - (FI 110 7).toInt) + 8) ∧ ((sl' : Int) ≤ sl + 7 * ((n' : Int) - n)) ∧ ((n : Int) ≤ n') ∧ (∃ gp2 gw2 gs2, g_T n' SH' FI' FR' gp2 gw2 gs2 ∧ (∀ c, c < n → gp2 c = gp c ∧ gw2 c = gw c ∧ gs2 c = gs c) ∧ (∀ q, r = some q → gp2 q = 0 ∧ gw2 q + 20 + 40 * n ≤ 40 * n' ∧ FR' q 6 = none)) ∧ (∀ q, r = some q → q < n' ∧ own q ∧ SH' q = (3, (SH' q).2)) ∧ r ≠ none ∧ (∀ q, r = some q → n ≤ q))) := by
  have hk0 : ∀ c, c < n → gp c = gp c ∧ gw c = gw c ∧ gs c = gs c := fun _ _ => ⟨rfl, rfl, rfl⟩
  obtain ⟨x1, h2⟩ : ∃ y, FI 110 7 = y := ⟨_, rfl⟩
  have h2l := congrArg Int32.toInt h2
  have b3 := gI_110_7 hI; rw [h2] at b3
  obtain ⟨x4, h5⟩ : ∃ y, FI 111 4 = y := ⟨_, rfl⟩
  have h5l := congrArg Int32.toInt h5
  have b6 := gI_111_4 hI; rw [h5] at b6
  obtain ⟨x7, h8⟩ : ∃ y, FI 110 5 = y := ⟨_, rfl⟩
  have h8l := congrArg Int32.toInt h8
  have := i_rng x7
  obtain ⟨x9, h10⟩ : ∃ y, FI 110 8 = y := ⟨_, rfl⟩
  have h10l := congrArg Int32.toInt h10
  have := i_rng x9
  obtain ⟨x11, h12⟩ : ∃ y, FI 110 4 = y := ⟨_, rfl⟩
  have h12l := congrArg Int32.toInt h12
  have := i_rng x11
  refine hw_aloadn (aX4_readChoice 0 rfl) rfl ?_
  refine hw_ic (v := (0 : Int32)) (aX4_readChoice 1 rfl) (by decide) ?_
  refine hw_callV (Bs := [.int ((0 : Int32))]) (rest := []) (aX4_readChoice 2 rfl) wc_RX4_177 (by decide) rfl wi_yX4_readLevel wv_yX4_readLevel (c110 hS) (s110 hS) rfl rfl rfl (Nat.le_of_ble_eq_true rfl) (Nat.le_of_ble_eq_true rfl) (k_level0F (d := d) hS hF hI hR (gp) (gw) (gs) (by have := congrArg Int32.toInt (show FI 110 7 = x1 from h2); have := congrArg Int32.toInt (show FI 110 7 = x1 from h2); have := congrArg Int32.toInt (show FI 111 4 = x4 from h5); omega) (by have := congrArg Int32.toInt (show FI 110 5 = x7 from h8); have := congrArg Int32.toInt (show FI 110 8 = x9 from h10); omega) (by have := congrArg Int32.toInt (show FI 110 7 = x1 from h2); have := congrArg Int32.toInt (show FI 111 4 = x4 from h5); have := congrArg Int32.toInt (show FI 110 8 = x9 from h10); omega) (by have := congrArg Int32.toInt (show FI 110 5 = x7 from h8); omega) (gg0) (gK_mv (L := [(110, 4), (110, 5), (110, 6), (110, 7), (110, 8)]) (A := []) (T := []) hS gg1 gf_rf (by decide))) (fun v13 sv14 p15 => ?_)
  have := congrArg Int32.toInt (show FI 111 4 = x4 from h5)
  have := congrArg Int32.toInt (show FI 111 4 = x4 from h5)
  have := congrArg Int32.toInt (show FI 110 7 = x1 from h2)
  have := congrArg Int32.toInt (show FI 110 5 = x7 from h8)
  have := congrArg Int32.toInt (show FI 110 5 = x7 from h8)
  have := congrArg Int32.toInt (show FI 110 4 = x11 from h12)
  have := congrArg Int32.toInt (show FI 110 7 = x1 from h2)
  obtain ⟨r16, rfl, n38, sl39, SH40, FI17, FL18, FR19, rfl, ex41, hS42, hI20, f21, f22, f23, hF24, hR25, t26, t27, t28, t29, t30, t31, t32, t33, t34, u35, ht36, nn37, hfr43⟩ := p15
  obtain ⟨gp44, gw45, gs46, hT47, hkp48, hq49⟩ := u35
  have hk50 : ∀ c, c < n → gp44 c = gp c ∧ gw45 c = gw c ∧ gs46 c = gs c := fun c hc => by obtain ⟨k1, k2, k3⟩ := hk0 c hc; obtain ⟨m1, m2, m3⟩ := hkp48 c (Nat.lt_of_lt_of_le hc (Nat.le_refl _)); exact ⟨m1.trans k1, m2.trans k2, m3.trans k3⟩
  obtain ⟨r51, rfl⟩ : ∃ q, r16 = some q := Option.ne_none_iff_exists'.mp nn37
  have fq52 := hfr43 r51 rfl
  have dq53 : 176 ≤ r51 := Nat.le_trans hS.1 fq52
  obtain ⟨lt55, ow56, sh57⟩ := ht36 r51 rfl
  obtain ⟨e58, e59, e60⟩ := hq49 r51 rfl
  obtain ⟨x61, h62⟩ : ∃ y, FI17 110 7 = y := ⟨_, rfl⟩
  have h62l := congrArg Int32.toInt h62
  have b63 := gI_110_7 hI20; rw [h62] at b63
  obtain ⟨x64, h65⟩ : ∃ y, FI17 110 5 = y := ⟨_, rfl⟩
  have h65l := congrArg Int32.toInt h65
  have := i_rng x64
  obtain ⟨x66, h67⟩ : ∃ y, FI17 110 8 = y := ⟨_, rfl⟩
  have h67l := congrArg Int32.toInt h67
  have := i_rng x66
  obtain ⟨x68, h69⟩ : ∃ y, FI17 110 4 = y := ⟨_, rfl⟩
  have h69l := congrArg Int32.toInt h69
  have := i_rng x68
  show hw sk base _ _ _ _ _ [.ref (base + r51)] _ _
  refine hw_astoren (L2 := [(1, .ref (base + r51)), (0, .ref (base + 110))]) (aX4_readChoice 3 rfl) (by decide) rfl ?_
  refine hw_aloadn (aX4_readChoice 4 rfl) rfl ?_
  refine hw_get (v := .int (x66)) (aX4_readChoice 5 rfl) wf_RX4_51 (c110 hS42) (s110 hS42) (by decide) (congrArg Value.int (show FI17 110 8 = x66 from h67)) ?_
  have e70 : 1 ≤ (x66).toInt ∧ (x66).toInt ≤ 1 := by omega
  refine hw_bp (v := (63 : Int32)) (aX4_readChoice 6 rfl) (by decide) ?_
  refine hw_icne (tgt := 22) (aX4_readChoice 7 rfl) (by decide) rfl (by decide : (63 : Int32).toInt = 63) (fun cd71 => ?_) (fun cd71 => ?_)
  · refine hw_aloadn (aX4_readChoice 11 rfl) rfl ?_
    refine xw_aret (v := h_rf base (some (r51))) (aX4_readChoice 12 rfl) rfl (by first | exact Or.inl ⟨_, rfl⟩ | exact Or.inr ⟨_, rfl⟩) ?_
    exact ⟨some (r51), rfl, n38, sl39, SH40, FI17, FL18, FR19, rfl, ex41, hS42, hI20, (gf_tr ex_rf gf_rf f21 rfl rfl rfl), (gf_tr ex_rf gf_rf f22 rfl rfl rfl), (gf_tr ex_rf gf_rf f23 rfl rfl rfl), hF24, hR25, (by have := congrArg Int32.toInt (show FI17 110 7 = x61 from h62); omega), (by have := congrArg Int32.toInt (show FI17 110 5 = x64 from h65); have := congrArg Int32.toInt (show FI17 110 8 = x66 from h67); omega), (by have := congrArg Int32.toInt (show FI17 110 7 = x61 from h62); have := congrArg Int32.toInt (show FI17 110 8 = x66 from h67); omega), (by have := congrArg Int32.toInt (show FI17 110 7 = x61 from h62); omega), (by have := congrArg Int32.toInt (show FI17 110 5 = x64 from h65); omega), (by have := congrArg Int32.toInt (show FI17 110 4 = x68 from h69); have := congrArg Int32.toInt (show FI17 110 5 = x64 from h65); omega), (by have := congrArg Int32.toInt (show FI17 110 7 = x61 from h62); omega), (by omega), (by omega), (by exact ⟨gp44, gw45, gs46, hT47, hk50, fun q e => by cases e; exact ⟨by omega, by omega, (show FR19 r51 6 = none from e60)⟩⟩), ((fun r e => by cases e; exact ⟨lt55, ow56, by rw [sh57]⟩)), (by simp), (fun q e => by cases e; exact (Nat.le_trans (Nat.le_refl _) fq52))⟩
  · omega
