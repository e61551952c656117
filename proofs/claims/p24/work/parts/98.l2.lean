section
def nX0_code : Nat := 0xb0010400a72f00b80f00b42a0900b42a1100a3be0900b42a0f00b42a1d00991c2400b60810092a2400b60810092a11009e1300b42bafffa70103842b00b664056404150f00b42a04152a3d7e1c00b6321d1800b42b2a1c2400b605092a04360f00b42a2400b608102f1d2800b42b2a2400b608102f1d2000b42b2a4900a208101d4f00a21300b42b1d3e033d1c00b632031800b42b2a0e009a1300b42b3d040f00b5032a
theorem bX0_code : cX0_code.data.toList.map UInt8.toNat = x_un nX0_code 164 := by decide +kernel
def iX0_code : List (Nat × Jvm.ClassFile.Instr × Nat) := [(0, .aload_n 0, 1), (1, .iconst 0, 1), (2, .putfield 15, 3), (5, .iconst 1, 1), (6, .istore_n 2, 1), (7, .aload_n 1, 1), (8, .getfield 19, 3), (11, .ifCond .ne 14, 3), (14, .aload_n 0, 1), (15, .aload_n 1, 1), (16, .getfield 24, 3), (19, .iconst 0, 1), (20, .aaload, 1), (21, .invokevirtual 28, 3), (24, .istore_n 2, 1), (25, .iconst 0, 1), (26, .istore_n 3, 1), (27, .iload_n 3, 1), (28, .aload_n 1, 1), (29, .getfield 19, 3), (32, .if_icmp .ge 79, 3), (35, .iload_n 3, 1), (36, .bipush 8, 2), (38, .if_icmp .ge 73, 3), (41, .aload_n 0, 1), (42, .aload_n 1, 1), (43, .getfield 32, 3), (46, .iload_n 3, 1), (47, .laload, 1), (48, .bipush 8, 2), (50, .invokevirtual 36, 3), (53, .aload_n 0, 1), (54, .aload_n 1, 1), (55, .getfield 40, 3), (58, .iload_n 3, 1), (59, .laload, 1), (60, .bipush 8, 2), (62, .invokevirtual 36, 3), (65, .aload_n 0, 1), (66, .getfield 15, 3), (69, .istore 4, 2), (71, .aload_n 0, 1), (72, .lconst 0, 1), (73, .iconst 2, 1), (74, .invokevirtual 36, 3), (77, .iload_n 2, 1), (78, .aload_n 0, 1), (79, .aload_n 1, 1), (80, .getfield 24, 3), (83, .iload_n 3, 1), (84, .aaload, 1), (85, .invokevirtual 28, 3), (88, .iand, 1), (89, .istore_n 2, 1), (90, .aload_n 0, 1), (91, .iload 4, 2), (93, .aload_n 0, 1), (94, .getfield 15, 3), (97, .iload 4, 2), (99, .isub, 1), (100, .iconst 2, 1), (101, .isub, 1), (102, .invokevirtual 43, 3), (105, .iinc 3 1, 3), (108, .goto (-81), 3), (111, .aload_n 1, 1), (112, .getfield 19, 3), (115, .ifCond .le 17, 3), (118, .aload_n 0, 1), (119, .lconst 0, 1), (120, .bipush 8, 2), (122, .invokevirtual 36, 3), (125, .aload_n 0, 1), (126, .lconst 0, 1), (127, .bipush 8, 2), (129, .invokevirtual 36, 3), (132, .iload_n 2, 1), (133, .ifCond .eq 29, 3), (136, .aload_n 0, 1), (137, .getfield 15, 3), (140, .aload_n 0, 1), (141, .getfield 9, 3), (144, .arraylength, 1), (145, .if_icmp .gt 17, 3), (148, .aload_n 0, 1), (149, .getfield 9, 3), (152, .aload_n 0, 1), (153, .getfield 15, 3), (156, .invokestatic 47, 3), (159, .goto 4, 3), (162, .aconst_null, 1), (163, .areturn, 1)]
theorem dX0_code : x_il nX0_code 164 iX0_code = true := by decide +kernel
theorem aX0_code (k : Nat) {pc : Nat} {i : Jvm.ClassFile.Instr} {len : Nat} (hk : iX0_code[k]? = some (pc, i, len)) : x_at xMM 2 pc i len yX0_code 5 (some (.array .int)) := ⟨cX0_code, rfl, x_il_ok bX0_code dX0_code k hk⟩
set_option maxHeartbeats 4000000 in
set_option maxRecDepth 100000 in
theorem k_X0_code {sk : xK} {base d n sl : Nat} {SH : Nat → Nat × Nat} {FI : Nat → Nat → Int32} {FL : Nat → Nat → Int64} {FR : Nat → Nat → Option Nat} (hS : h_S n SH) (hF : h_FR FR) (hI : g_I FI) (hR : g_R n SH FR) (a1 : Nat) {z1 : Nat} (ha1l : a1 < n) (ha1s : SH a1 = (10, z1)) (ha1o : own a1) (gp : Nat → Nat) (gw : Nat → Nat) (gs : Nat → Nat) (gg0 : g_T n SH FI FR gp gw gs) (gg1 : g_Vv SH FR a1) : hw sk base (d + 251) none 2 0 [(0, .ref (base + 119)), (1, .ref (base + a1))] [] (n, sl, SH, FI, FL, FR) (h_A base (fun r s => ∃ n' sl' SH' FI' FL' FR', s = (n', sl', SH', FI', FL', FR') ∧ g_ex n SH n' SH' ∧ h_S n' SH' ∧ g_I FI' ∧ g_fr n (shd SH) [(119, 1)] [120] [] FI FI' ∧ g_fr n (shd SH) [] [] [] FL FL' ∧ g_fr n (shd SH) [] [] [] FR FR' ∧ h_FR FR' ∧ g_R n' SH' FR' ∧ ((n' : Int) ≤ n + 1) ∧ ((sl' : Int) ≤ sl + 600) ∧ ((n : Int) ≤ n') ∧ (∃ gp2 gw2 gs2, g_T n' SH' FI' FR' gp2 gw2 gs2 ∧ (∀ c, c < n → gp2 c = gp c ∧ gw2 c = gw c ∧ gs2 c = gs c) ∧ True) ∧ (∀ q, r = some q → q < n' ∧ own q ∧ SH' q = (100, (SH' q).2)) ∧ (∀ q, r = some q → n ≤ q))) := by
  have hk0 : ∀ c, c < n → gp c = gp c ∧ gw c = gw c ∧ gs c = gs c := fun _ _ => ⟨rfl, rfl, rfl⟩
  obtain ⟨⟨r1, h5, hz9⟩, ⟨r2, h6, hz10⟩, ⟨r3, h7, hz11⟩, ⟨r4, h8⟩⟩ := gg1
  obtain ⟨lt13, ow14, sh15⟩ := gR_get hR ha1l ha1o ha1s h5
  obtain ⟨lt16, ow17, sh18⟩ := gR_get hR ha1l ha1o ha1s h6
  obtain ⟨lt19, ow20, sh21⟩ := gR_get hR ha1l ha1o ha1s h7
  obtain ⟨lt22, ow23, sh24⟩ := gR_get hR ha1l ha1o ha1s h8
  refine hw_aloadn (aX0_code 0 rfl) rfl ?_
  refine hw_ic (v := (0 : Int32)) (aX0_code 1 rfl) (by decide) ?_
  refine hv_puti (aX0_code 2 rfl) wf_RX0_15 (c119 hS) (s119 hS) (by decide) rfl rfl (fun FI25 u26 => ?_)
  have hT27 : g_T n SH FI25 FR gp gw gs := gT_wi gg0 (fun h => absurd h (by rw [(s119 hS)]; decide)) u26
  have hI28 : g_I FI25 := gU_119_1 hI u26 (by have := ((by decide : (0 : Int32).toInt = 0) : ((0 : Int32)).toInt = 0); omega) (by have := ((by decide : (0 : Int32).toInt = 0) : ((0 : Int32)).toInt = 0); omega)
  refine hw_ic (v := (1 : Int32)) (aX0_code 3 rfl) (by decide) ?_
  refine xw_istoren (L2 := [(2, .int ((1 : Int32))), (0, .ref (base + 119)), (1, .ref (base + a1))]) (aX0_code 4 rfl) (by decide) rfl ?_
  refine hw_aloadn (aX0_code 5 rfl) rfl ?_
  obtain ⟨x29, h30⟩ : ∃ y, FI25 a1 5 = y := ⟨_, rfl⟩
  have h30l := congrArg Int32.toInt h30
  have := i_rng x29
  refine hw_get (v := .int (x29)) (aX0_code 6 rfl) wf_RX0_19 ha1l ha1s (by decide) (congrArg Value.int (show FI25 a1 5 = x29 from h30)) ?_
  refine hw_ifne (tgt := 25) (aX0_code 7 rfl) (by decide) rfl (fun cd31 => ?_) (fun cd31 => ?_)
  · refine hw_ic (v := (0 : Int32)) (aX0_code 15 rfl) (by decide) ?_
    refine xw_istoren (L2 := [(3, .int ((0 : Int32))), (2, .int ((1 : Int32))), (0, .ref (base + 119)), (1, .ref (base + a1))]) (aX0_code 16 rfl) (by decide) rfl ?_
    have lp60 : ∀ (m : Nat) (y3 : Int32) (y2 : Int32) (FIv37 : Nat → Nat → Int32) (FLv38 : Nat → Nat → Int64) (FRv39 : Nat → Nat → Option Nat) (n32 sl33 : Nat) (SH34 : Nat → Nat × Nat) (gp40 gw41 gs42 : Nat → Nat), (g_ex n SH n32 SH34) → (h_S n32 SH34) → (g_T n32 SH34 FIv37 FRv39 gp40 gw41 gs42) → (∀ c, c < n → gp40 c = gp c ∧ gw41 c = gw c ∧ gs42 c = gs c) → (g_fr n (shd SH) [(119, 1)] [120] [] FI FIv37) → (g_fr n (shd SH) [] [] [] FL FLv38) → (g_fr n (shd SH) [] [] [] FR FRv39) → (g_I FIv37) → (h_FR FRv39) → (g_R n32 SH34 FRv39) → (FRv39 a1 2 = r1) → (FRv39 a1 3 = r2) → (FRv39 a1 4 = r3) → (FRv39 a1 0 = r4) → (FIv37 a1 5 = x29) → (0 ≤ (y3).toInt ∧ (y3).toInt ≤ 8) → (0 ≤ (FIv37 119 1).toInt ∧ (FIv37 119 1).toInt ≤ 200000100 * ((y3).toInt + 1)) → (n32 = n) → (sl33 = sl) → 8 - (y3).toInt < m → hw sk base (d + 251) none 2 27 [(3, .int (y3)), (2, .int (y2)), (0, .ref (base + 119)), (1, .ref (base + a1))] [] (n32, sl33, SH34, FIv37, FLv38, FRv39) (h_A base (fun r s => ∃ n' sl' SH' FI' FL' FR', s = (n', sl', SH', FI', FL', FR') ∧ g_ex n SH n' SH' ∧ h_S n' SH' ∧ g_I FI' ∧ g_fr n (shd SH) [(119, 1)] [120] [] FI FI' ∧ g_fr n (shd SH) [] [] [] FL FL' ∧ g_fr n (shd SH) [] [] [] FR FR' ∧ h_FR FR' ∧ g_R n' SH' FR' ∧ ((n' : Int) ≤ n + 1) ∧ ((sl' : Int) ≤ sl + 600) ∧ ((n : Int) ≤ n') ∧ (∃ gp2 gw2 gs2, g_T n' SH' FI' FR' gp2 gw2 gs2 ∧ (∀ c, c < n → gp2 c = gp c ∧ gw2 c = gw c ∧ gs2 c = gs c) ∧ True) ∧ (∀ q, r = some q → q < n' ∧ own q ∧ SH' q = (100, (SH' q).2)) ∧ (∀ q, r = some q → n ≤ q))) := by
      intro m
      induction m with
      | zero => intro y3 y2 FIv37 FLv38 FRv39 n32 sl33 SH34 gp40 gw41 gs42 ex35 hS36 hT43 hk44 fr45 fr46 fr47 hI48 hF49 hR50 kp51 kp52 kp53 kp54 kp55 iv56 iv57 iv58 iv59 hm; omega
      | succ m ih =>
        intro y3 y2 FIv37 FLv38 FRv39 n32 sl33 SH34 gp40 gw41 gs42 ex35 hS36 hT43 hk44 fr45 fr46 fr47 hI48 hF49 hR50 kp51 kp52 kp53 kp54 kp55 iv56 iv57 iv58 iv59 hm
        have rg_y3 := i_rng y3
        have rg_y2 := i_rng y2
        have := congrArg Int32.toInt kp55
        have lt61 := ex_lt ex35 ha1l
        have sh62 := ex_sh ex35 ha1l ha1s
        have lt63 := ex_lt ex35 lt13
        have sh64 := ex_sh ex35 lt13 hz9
        have lt65 := ex_lt ex35 lt16
        have sh66 := ex_sh ex35 lt16 hz10
        have lt67 := ex_lt ex35 lt19
        have sh68 := ex_sh ex35 lt19 hz11
        have lt69 := ex_lt ex35 lt22
        have sh70 := ex_sh ex35 lt22 sh24
        obtain ⟨x71, h72⟩ : ∃ y, FIv37 119 1 = y := ⟨_, rfl⟩
        have h72l := congrArg Int32.toInt h72
        have b73 := gI_119_1 hI48; rw [h72] at b73
        refine xw_iloadn (aX0_code 17 rfl) rfl ?_
        refine hw_aloadn (aX0_code 18 rfl) rfl ?_
        refine hw_get (v := .int (x29)) (aX0_code 19 rfl) wf_RX0_19 lt61 sh62 (by decide) (congrArg Value.int (show FIv37 a1 5 = x29 from kp55)) ?_
        refine hw_icge (tgt := 111) (aX0_code 20 rfl) (by decide) rfl rfl (fun cd74 => ?_) (fun cd74 => ?_)
        · refine hw_aloadn (aX0_code 65 rfl) rfl ?_
          refine hw_get (v := .int (x29)) (aX0_code 66 rfl) wf_RX0_19 lt61 sh62 (by decide) (congrArg Value.int (show FIv37 a1 5 = x29 from kp55)) ?_
          refine hw_ifle (tgt := 132) (aX0_code 67 rfl) (by decide) rfl (fun cd75 => ?_) (fun cd75 => ?_)
          · refine xw_iloadn (aX0_code 76 rfl) rfl ?_
            refine hw_ifeq (tgt := 162) (aX0_code 77 rfl) (by decide) rfl (fun cd76 => ?_) (fun cd76 => ?_)
            · refine xw_null (aX0_code 90 rfl) ?_
              refine xw_aret (v := h_rf base (none)) (aX0_code 91 rfl) rfl (by first | exact Or.inl ⟨_, rfl⟩ | exact Or.inr ⟨_, rfl⟩) ?_
              exact ⟨none, rfl, n32, sl33, SH34, FIv37, FLv38, FRv39, rfl, ex35, hS36, hI48, fr45, fr46, fr47, hF49, hR50, (by omega), (by omega), (by omega), (by exact ⟨gp40, gw41, gs42, hT43, hk44, trivial⟩), ((fun r e => by cases e)), (fun q e => by cases e)⟩
            · refine hw_aloadn (aX0_code 78 rfl) rfl ?_
              refine hw_get (v := .int (x71)) (aX0_code 79 rfl) wf_RX0_15 (c119 hS36) (s119 hS36) (by decide) (congrArg Value.int (show FIv37 119 1 = x71 from h72)) ?_
              refine hw_aloadn (aX0_code 80 rfl) rfl ?_
              refine hw_get (v := .ref (base + 120)) (aX0_code 81 rfl) wf_RX0_9 (c119 hS36) (s119 hS36) (by decide) (congrArg (fun r => va_rf (h_rf base r)) (r119_0 hF49)) ?_
              refine hw_alen (k := 0) (z := 600) (v := (600 : Int32)) (aX0_code 82 rfl) (c120 hS36) (s120 hS36) (by decide) (by decide) ?_
              refine hw_icgt (tgt := 162) (aX0_code 83 rfl) (by decide) rfl (by decide : (600 : Int32).toInt = 600) (fun cd77 => ?_) (fun cd77 => ?_)
              · refine xw_null (aX0_code 90 rfl) ?_
                refine xw_aret (v := h_rf base (none)) (aX0_code 91 rfl) rfl (by first | exact Or.inl ⟨_, rfl⟩ | exact Or.inr ⟨_, rfl⟩) ?_
                exact ⟨none, rfl, n32, sl33, SH34, FIv37, FLv38, FRv39, rfl, ex35, hS36, hI48, fr45, fr46, fr47, hF49, hR50, (by omega), (by omega), (by omega), (by exact ⟨gp40, gw41, gs42, hT43, hk44, trivial⟩), ((fun r e => by cases e)), (fun q e => by cases e)⟩
              · refine hw_aloadn (aX0_code 84 rfl) rfl ?_
                refine hw_get (v := .ref (base + 120)) (aX0_code 85 rfl) wf_RX0_9 (c119 hS36) (s119 hS36) (by decide) (congrArg (fun r => va_rf (h_rf base r)) (r119_0 hF49)) ?_
                refine hw_aloadn (aX0_code 86 rfl) rfl ?_
                refine hw_get (v := .int (x71)) (aX0_code 87 rfl) wf_RX0_15 (c119 hS36) (s119 hS36) (by decide) (congrArg Value.int (show FIv37 119 1 = x71 from h72)) ?_
                refine hw_callS (As := [.ref (base + 120), .int (x71)]) (rest := []) (aX0_code 88 rfl) wc_RX0_47 (by decide) rfl wt_yJ7_copyOf_59c91 rfl rfl (Nat.le_of_ble_eq_true rfl) (Nat.le_of_ble_eq_true rfl) (k_copyOf120 (d := d + 249) hS36 hF49 hI48 hR50 (x71) (by omega)) (fun v78 sv79 p80 => ?_)
                obtain ⟨r81, rfl, n96, sl97, SH98, FI82, FL83, FR84, rfl, ex99, hS100, hI85, f86, f87, f88, hF89, hR90, t91, t92, u93, ht94, nn95, hfr101⟩ := p80
                have lt102 := ex_lt ex99 lt61
                have sh103 := ex_sh ex99 lt61 sh62
                have lt104 := ex_lt ex99 lt63
                have sh105 := ex_sh ex99 lt63 sh64
                have lt106 := ex_lt ex99 lt65
                have sh107 := ex_sh ex99 lt65 sh66
                have lt108 := ex_lt ex99 lt67
                have sh109 := ex_sh ex99 lt67 sh68
                have lt110 := ex_lt ex99 lt69
                have sh111 := ex_sh ex99 lt69 sh70
                have ex112 := ex_tr ex35 ex99
                have ex113 := ex_tr ex35 ex99
                obtain ⟨r114, rfl⟩ : ∃ q, r81 = some q := Option.ne_none_iff_exists'.mp nn95
                have fq115 := hfr101 r114 rfl
                have dq116 : 176 ≤ r114 := Nat.le_trans hS36.1 fq115
                obtain ⟨lt118, ow119, sh120⟩ := ht94 r114 rfl
                have hT121 : g_T n96 SH98 FI82 FR84 gp40 gw41 gs42 := gT_ar (L := []) (A := []) (T := []) (L2 := []) (A2 := []) (T2 := []) hS36 hR50 hT43 (by omega) ex99 (by rw [show n32 = r114 by omega]; exact sh120) f86 f88 (by decide) (by decide)
                show hw sk base _ _ _ _ _ [.ref (base + r114)] _ _
                refine xw_goto (tgt := 163) (aX0_code 89 rfl) (by decide) ?_
                refine xw_aret (v := h_rf base (some (r114))) (aX0_code 91 rfl) rfl (by first | exact Or.inl ⟨_, rfl⟩ | exact Or.inr ⟨_, rfl⟩) ?_
                exact ⟨some (r114), rfl, n96, sl97, SH98, FI82, FL83, FR84, rfl, ex113, hS100, hI85, (gf_tr (ex_shd ex35) fr45 f86 rfl rfl rfl), (gf_tr (ex_shd ex35) fr46 f87 rfl rfl rfl), (gf_tr (ex_shd ex35) fr47 f88 rfl rfl rfl), hF89, hR90, (by omega), (by omega), (by omega), (by exact ⟨gp40, gw41, gs42, hT121, hk44, trivial⟩), ((fun r e => by cases e; exact ⟨lt118, ow119, by rw [sh120]⟩)), (fun q e => by cases e; exact (Nat.le_trans (ex35).1 fq115))⟩
          · refine hw_aloadn (aX0_code 68 rfl) rfl ?_
            refine hw_lc (v := (0 : Int64)) (aX0_code 69 rfl) (by decide) ?_
            refine hw_bp (v := (8 : Int32)) (aX0_code 70 rfl) (by decide) ?_
            refine hw_callV (Bs := [.long ((0 : Int64)), .int ((8 : Int32))]) (rest := []) (aX0_code 71 rfl) wc_RX0_36 (by decide) rfl wi_yX0_putNumber wv_yX0_putNumber (c119 hS36) (s119 hS36) rfl rfl rfl (Nat.le_of_ble_eq_true rfl) (Nat.le_of_ble_eq_true rfl) (k_X0_putNumber (d := d + 249) hS36 hF49 hI48 hR50 ((0 : Int64)) ((8 : Int32)) (by have := congrArg Int32.toInt (show FIv37 119 1 = x71 from h72); omega)) (fun v122 sv123 p124 => ?_)
            have := congrArg Int32.toInt (show FIv37 119 1 = x71 from h72)
            have := congrArg Int32.toInt (show FIv37 119 1 = x71 from h72)
            obtain ⟨rfl, FI126, rfl, hI127, f128, t131, t132⟩ := p124
            have hT135 : g_T n32 SH34 FI126 FRv39 gp40 gw41 gs42 := gT_mw (L := [(119, 1)]) (A := [120]) (T := []) (L2 := []) (A2 := []) (T2 := []) hS36 hT43 f128 gf_rf (by decide) (by decide)
            obtain ⟨x136, h137⟩ : ∃ y, FI126 119 1 = y := ⟨_, rfl⟩
            have h137l := congrArg Int32.toInt h137
            have b138 := gI_119_1 hI127; rw [h137] at b138
            show hw sk base _ _ _ _ _ [] _ _
            refine hw_aloadn (aX0_code 72 rfl) rfl ?_
            refine hw_lc (v := (0 : Int64)) (aX0_code 73 rfl) (by decide) ?_
            refine hw_bp (v := (8 : Int32)) (aX0_code 74 rfl) (by decide) ?_
            refine hw_callV (Bs := [.long ((0 : Int64)), .int ((8 : Int32))]) (rest := []) (aX0_code 75 rfl) wc_RX0_36 (by decide) rfl wi_yX0_putNumber wv_yX0_putNumber (c119 hS36) (s119 hS36) rfl rfl rfl (Nat.le_of_ble_eq_true rfl) (Nat.le_of_ble_eq_true rfl) (k_X0_putNumber (d := d + 249) hS36 hF49 hI127 hR50 ((0 : Int64)) ((8 : Int32)) (by have := congrArg Int32.toInt (show FI126 119 1 = x136 from h137); omega)) (fun v139 sv140 p141 => ?_)
            have := congrArg Int32.toInt (show FI126 119 1 = x136 from h137)
            have := congrArg Int32.toInt (show FI126 119 1 = x136 from h137)
            obtain ⟨rfl, FI143, rfl, hI144, f145, t148, t149⟩ := p141
            have hT152 : g_T n32 SH34 FI143 FRv39 gp40 gw41 gs42 := gT_mw (L := [(119, 1)]) (A := [120]) (T := []) (L2 := []) (A2 := []) (T2 := []) hS36 hT135 f145 gf_rf (by decide) (by decide)
            obtain ⟨x153, h154⟩ : ∃ y, FI143 119 1 = y := ⟨_, rfl⟩
            have h154l := congrArg Int32.toInt h154
            have b155 := gI_119_1 hI144; rw [h154] at b155
            show hw sk base _ _ _ _ _ [] _ _
            refine xw_iloadn (aX0_code 76 rfl) rfl ?_
            refine hw_ifeq (tgt := 162) (aX0_code 77 rfl) (by decide) rfl (fun cd156 => ?_) (fun cd156 => ?_)
            · refine xw_null (aX0_code 90 rfl) ?_
              refine xw_aret (v := h_rf base (none)) (aX0_code 91 rfl) rfl (by first | exact Or.inl ⟨_, rfl⟩ | exact Or.inr ⟨_, rfl⟩) ?_
              exact ⟨none, rfl, n32, sl33, SH34, FI143, FLv38, FRv39, rfl, ex35, hS36, hI144, (gf_tr (ex_shd ex35) (gf_tr (ex_shd ex35) fr45 f128 rfl rfl rfl) f145 rfl rfl rfl), fr46, fr47, hF49, hR50, (by omega), (by omega), (by omega), (by exact ⟨gp40, gw41, gs42, hT152, hk44, trivial⟩), ((fun r e => by cases e)), (fun q e => by cases e)⟩
            · refine hw_aloadn (aX0_code 78 rfl) rfl ?_
              refine hw_get (v := .int (x153)) (aX0_code 79 rfl) wf_RX0_15 (c119 hS36) (s119 hS36) (by decide) (congrArg Value.int (show FI143 119 1 = x153 from h154)) ?_
              refine hw_aloadn (aX0_code 80 rfl) rfl ?_
              refine hw_get (v := .ref (base + 120)) (aX0_code 81 rfl) wf_RX0_9 (c119 hS36) (s119 hS36) (by decide) (congrArg (fun r => va_rf (h_rf base r)) (r119_0 hF49)) ?_
              refine hw_alen (k := 0) (z := 600) (v := (600 : Int32)) (aX0_code 82 rfl) (c120 hS36) (s120 hS36) (by decide) (by decide) ?_
              refine hw_icgt (tgt := 162) (aX0_code 83 rfl) (by decide) rfl (by decide : (600 : Int32).toInt = 600) (fun cd157 => ?_) (fun cd157 => ?_)
              · refine xw_null (aX0_code 90 rfl) ?_
                refine xw_aret (v := h_rf base (none)) (aX0_code 91 rfl) rfl (by first | exact Or.inl ⟨_, rfl⟩ | exact Or.inr ⟨_, rfl⟩) ?_
                exact ⟨none, rfl, n32, sl33, SH34, FI143, FLv38, FRv39, rfl, ex35, hS36, hI144, (gf_tr (ex_shd ex35) (gf_tr (ex_shd ex35) fr45 f128 rfl rfl rfl) f145 rfl rfl rfl), fr46, fr47, hF49, hR50, (by omega), (by omega), (by omega), (by exact ⟨gp40, gw41, gs42, hT152, hk44, trivial⟩), ((fun r e => by cases e)), (fun q e => by cases e)⟩
              · refine hw_aloadn (aX0_code 84 rfl) rfl ?_
                refine hw_get (v := .ref (base + 120)) (aX0_code 85 rfl) wf_RX0_9 (c119 hS36) (s119 hS36) (by decide) (congrArg (fun r => va_rf (h_rf base r)) (r119_0 hF49)) ?_
                refine hw_aloadn (aX0_code 86 rfl) rfl ?_
                refine hw_get (v := .int (x153)) (aX0_code 87 rfl) wf_RX0_15 (c119 hS36) (s119 hS36) (by decide) (congrArg Value.int (show FI143 119 1 = x153 from h154)) ?_
                refine hw_callS (As := [.ref (base + 120), .int (x153)]) (rest := []) (aX0_code 88 rfl) wc_RX0_47 (by decide) rfl wt_yJ7_copyOf_59c91 rfl rfl (Nat.le_of_ble_eq_true rfl) (Nat.le_of_ble_eq_true rfl) (k_copyOf120 (d := d + 249) hS36 hF49 hI144 hR50 (x153) (by omega)) (fun v158 sv159 p160 => ?_)
                obtain ⟨r161, rfl, n176, sl177, SH178, FI162, FL163, FR164, rfl, ex179, hS180, hI165, f166, f167, f168, hF169, hR170, t171, t172, u173, ht174, nn175, hfr181⟩ := p160
                have lt182 := ex_lt ex179 lt61
                have sh183 := ex_sh ex179 lt61 sh62
                have lt184 := ex_lt ex179 lt63
                have sh185 := ex_sh ex179 lt63 sh64
                have lt186 := ex_lt ex179 lt65
                have sh187 := ex_sh ex179 lt65 sh66
                have lt188 := ex_lt ex179 lt67
                have sh189 := ex_sh ex179 lt67 sh68
                have lt190 := ex_lt ex179 lt69
                have sh191 := ex_sh ex179 lt69 sh70
                have ex192 := ex_tr ex35 ex179
                have ex193 := ex_tr ex35 ex179
                obtain ⟨r194, rfl⟩ : ∃ q, r161 = some q := Option.ne_none_iff_exists'.mp nn175
                have fq195 := hfr181 r194 rfl
                have dq196 : 176 ≤ r194 := Nat.le_trans hS36.1 fq195
                obtain ⟨lt198, ow199, sh200⟩ := ht174 r194 rfl
                have hT201 : g_T n176 SH178 FI162 FR164 gp40 gw41 gs42 := gT_ar (L := []) (A := []) (T := []) (L2 := []) (A2 := []) (T2 := []) hS36 hR50 hT152 (by omega) ex179 (by rw [show n32 = r194 by omega]; exact sh200) f166 f168 (by decide) (by decide)
                show hw sk base _ _ _ _ _ [.ref (base + r194)] _ _
                refine xw_goto (tgt := 163) (aX0_code 89 rfl) (by decide) ?_
                refine xw_aret (v := h_rf base (some (r194))) (aX0_code 91 rfl) rfl (by first | exact Or.inl ⟨_, rfl⟩ | exact Or.inr ⟨_, rfl⟩) ?_
                exact ⟨some (r194), rfl, n176, sl177, SH178, FI162, FL163, FR164, rfl, ex193, hS180, hI165, (gf_tr (ex_shd ex35) (gf_tr (ex_shd ex35) (gf_tr (ex_shd ex35) fr45 f128 rfl rfl rfl) f145 rfl rfl rfl) f166 rfl rfl rfl), (gf_tr (ex_shd ex35) fr46 f167 rfl rfl rfl), (gf_tr (ex_shd ex35) fr47 f168 rfl rfl rfl), hF169, hR170, (by omega), (by omega), (by omega), (by exact ⟨gp40, gw41, gs42, hT201, hk44, trivial⟩), ((fun r e => by cases e; exact ⟨lt198, ow199, by rw [sh200]⟩)), (fun q e => by cases e; exact (Nat.le_trans (ex35).1 fq195))⟩
        · refine xw_iloadn (aX0_code 21 rfl) rfl ?_
          refine hw_bp (v := (8 : Int32)) (aX0_code 22 rfl) (by decide) ?_
          refine hw_icge (tgt := 111) (aX0_code 23 rfl) (by decide) rfl (by decide : (8 : Int32).toInt = 8) (fun cd202 => ?_) (fun cd202 => ?_)
          · refine hw_aloadn (aX0_code 65 rfl) rfl ?_
            refine hw_get (v := .int (x29)) (aX0_code 66 rfl) wf_RX0_19 lt61 sh62 (by decide) (congrArg Value.int (show FIv37 a1 5 = x29 from kp55)) ?_
            refine hw_ifle (tgt := 132) (aX0_code 67 rfl) (by decide) rfl (fun cd203 => ?_) (fun cd203 => ?_)
            · omega
            · refine hw_aloadn (aX0_code 68 rfl) rfl ?_
              refine hw_lc (v := (0 : Int64)) (aX0_code 69 rfl) (by decide) ?_
              refine hw_bp (v := (8 : Int32)) (aX0_code 70 rfl) (by decide) ?_
              refine hw_callV (Bs := [.long ((0 : Int64)), .int ((8 : Int32))]) (rest := []) (aX0_code 71 rfl) wc_RX0_36 (by decide) rfl wi_yX0_putNumber wv_yX0_putNumber (c119 hS36) (s119 hS36) rfl rfl rfl (Nat.le_of_ble_eq_true rfl) (Nat.le_of_ble_eq_true rfl) (k_X0_putNumber (d := d + 249) hS36 hF49 hI48 hR50 ((0 : Int64)) ((8 : Int32)) (by have := congrArg Int32.toInt (show FIv37 119 1 = x71 from h72); omega)) (fun v204 sv205 p206 => ?_)
              have := congrArg Int32.toInt (show FIv37 119 1 = x71 from h72)
              have := congrArg Int32.toInt (show FIv37 119 1 = x71 from h72)
              obtain ⟨rfl, FI208, rfl, hI209, f210, t213, t214⟩ := p206
              have hT217 : g_T n32 SH34 FI208 FRv39 gp40 gw41 gs42 := gT_mw (L := [(119, 1)]) (A := [120]) (T := []) (L2 := []) (A2 := []) (T2 := []) hS36 hT43 f210 gf_rf (by decide) (by decide)
              obtain ⟨x218, h219⟩ : ∃ y, FI208 119 1 = y := ⟨_, rfl⟩
              have h219l := congrArg Int32.toInt h219
              have b220 := gI_119_1 hI209; rw [h219] at b220
              show hw sk base _ _ _ _ _ [] _ _
              refine hw_aloadn (aX0_code 72 rfl) rfl ?_
              refine hw_lc (v := (0 : Int64)) (aX0_code 73 rfl) (by decide) ?_
              refine hw_bp (v := (8 : Int32)) (aX0_code 74 rfl) (by decide) ?_
              refine hw_callV (Bs := [.long ((0 : Int64)), .int ((8 : Int32))]) (rest := []) (aX0_code 75 rfl) wc_RX0_36 (by decide) rfl wi_yX0_putNumber wv_yX0_putNumber (c119 hS36) (s119 hS36) rfl rfl rfl (Nat.le_of_ble_eq_true rfl) (Nat.le_of_ble_eq_true rfl) (k_X0_putNumber (d := d + 249) hS36 hF49 hI209 hR50 ((0 : Int64)) ((8 : Int32)) (by have := congrArg Int32.toInt (show FI208 119 1 = x218 from h219); omega)) (fun v221 sv222 p223 => ?_)
              have := congrArg Int32.toInt (show FI208 119 1 = x218 from h219)
              have := congrArg Int32.toInt (show FI208 119 1 = x218 from h219)
              obtain ⟨rfl, FI225, rfl, hI226, f227, t230, t231⟩ := p223
              have hT234 : g_T n32 SH34 FI225 FRv39 gp40 gw41 gs42 := gT_mw (L := [(119, 1)]) (A := [120]) (T := []) (L2 := []) (A2 := []) (T2 := []) hS36 hT217 f227 gf_rf (by decide) (by decide)
              obtain ⟨x235, h236⟩ : ∃ y, FI225 119 1 = y := ⟨_, rfl⟩
              have h236l := congrArg Int32.toInt h236
              have b237 := gI_119_1 hI226; rw [h236] at b237
              show hw sk base _ _ _ _ _ [] _ _
              refine xw_iloadn (aX0_code 76 rfl) rfl ?_
              refine hw_ifeq (tgt := 162) (aX0_code 77 rfl) (by decide) rfl (fun cd238 => ?_) (fun cd238 => ?_)
              · refine xw_null (aX0_code 90 rfl) ?_
                refine xw_aret (v := h_rf base (none)) (aX0_code 91 rfl) rfl (by first | exact Or.inl ⟨_, rfl⟩ | exact Or.inr ⟨_, rfl⟩) ?_
                exact ⟨none, rfl, n32, sl33, SH34, FI225, FLv38, FRv39, rfl, ex35, hS36, hI226, (gf_tr (ex_shd ex35) (gf_tr (ex_shd ex35) fr45 f210 rfl rfl rfl) f227 rfl rfl rfl), fr46, fr47, hF49, hR50, (by omega), (by omega), (by omega), (by exact ⟨gp40, gw41, gs42, hT234, hk44, trivial⟩), ((fun r e => by cases e)), (fun q e => by cases e)⟩
              · refine hw_aloadn (aX0_code 78 rfl) rfl ?_
                refine hw_get (v := .int (x235)) (aX0_code 79 rfl) wf_RX0_15 (c119 hS36) (s119 hS36) (by decide) (congrArg Value.int (show FI225 119 1 = x235 from h236)) ?_
                refine hw_aloadn (aX0_code 80 rfl) rfl ?_
                refine hw_get (v := .ref (base + 120)) (aX0_code 81 rfl) wf_RX0_9 (c119 hS36) (s119 hS36) (by decide) (congrArg (fun r => va_rf (h_rf base r)) (r119_0 hF49)) ?_
                refine hw_alen (k := 0) (z := 600) (v := (600 : Int32)) (aX0_code 82 rfl) (c120 hS36) (s120 hS36) (by decide) (by decide) ?_
                refine hw_icgt (tgt := 162) (aX0_code 83 rfl) (by decide) rfl (by decide : (600 : Int32).toInt = 600) (fun cd239 => ?_) (fun cd239 => ?_)
                · refine xw_null (aX0_code 90 rfl) ?_
                  refine xw_aret (v := h_rf base (none)) (aX0_code 91 rfl) rfl (by first | exact Or.inl ⟨_, rfl⟩ | exact Or.inr ⟨_, rfl⟩) ?_
                  exact ⟨none, rfl, n32, sl33, SH34, FI225, FLv38, FRv39, rfl, ex35, hS36, hI226, (gf_tr (ex_shd ex35) (gf_tr (ex_shd ex35) fr45 f210 rfl rfl rfl) f227 rfl rfl rfl), fr46, fr47, hF49, hR50, (by omega), (by omega), (by omega), (by exact ⟨gp40, gw41, gs42, hT234, hk44, trivial⟩), ((fun r e => by cases e)), (fun q e => by cases e)⟩
                · refine hw_aloadn (aX0_code 84 rfl) rfl ?_
                  refine hw_get (v := .ref (base + 120)) (aX0_code 85 rfl) wf_RX0_9 (c119 hS36) (s119 hS36) (by decide) (congrArg (fun r => va_rf (h_rf base r)) (r119_0 hF49)) ?_
                  refine hw_aloadn (aX0_code 86 rfl) rfl ?_
                  refine hw_get (v := .int (x235)) (aX0_code 87 rfl) wf_RX0_15 (c119 hS36) (s119 hS36) (by decide) (congrArg Value.int (show FI225 119 1 = x235 from h236)) ?_
                  refine hw_callS (As := [.ref (base + 120), .int (x235)]) (rest := []) (aX0_code 88 rfl) wc_RX0_47 (by decide) rfl wt_yJ7_copyOf_59c91 rfl rfl (Nat.le_of_ble_eq_true rfl) (Nat.le_of_ble_eq_true rfl) (k_copyOf120 (d := d + 249) hS36 hF49 hI226 hR50 (x235) (by omega)) (fun v240 sv241 p242 => ?_)
                  obtain ⟨r243, rfl, n258, sl259, SH260, FI244, FL245, FR246, rfl, ex261, hS262, hI247, f248, f249, f250, hF251, hR252, t253, t254, u255, ht256, nn257, hfr263⟩ := p242
                  have lt264 := ex_lt ex261 lt61
                  have sh265 := ex_sh ex261 lt61 sh62
                  have lt266 := ex_lt ex261 lt63
                  have sh267 := ex_sh ex261 lt63 sh64
                  have lt268 := ex_lt ex261 lt65
                  have sh269 := ex_sh ex261 lt65 sh66
                  have lt270 := ex_lt ex261 lt67
                  have sh271 := ex_sh ex261 lt67 sh68
                  have lt272 := ex_lt ex261 lt69
                  have sh273 := ex_sh ex261 lt69 sh70
                  have ex274 := ex_tr ex35 ex261
                  have ex275 := ex_tr ex35 ex261
                  obtain ⟨r276, rfl⟩ : ∃ q, r243 = some q := Option.ne_none_iff_exists'.mp nn257
                  have fq277 := hfr263 r276 rfl
                  have dq278 : 176 ≤ r276 := Nat.le_trans hS36.1 fq277
                  obtain ⟨lt280, ow281, sh282⟩ := ht256 r276 rfl
                  have hT283 : g_T n258 SH260 FI244 FR246 gp40 gw41 gs42 := gT_ar (L := []) (A := []) (T := []) (L2 := []) (A2 := []) (T2 := []) hS36 hR50 hT234 (by omega) ex261 (by rw [show n32 = r276 by omega]; exact sh282) f248 f250 (by decide) (by decide)
                  show hw sk base _ _ _ _ _ [.ref (base + r276)] _ _
                  refine xw_goto (tgt := 163) (aX0_code 89 rfl) (by decide) ?_
                  refine xw_aret (v := h_rf base (some (r276))) (aX0_code 91 rfl) rfl (by first | exact Or.inl ⟨_, rfl⟩ | exact Or.inr ⟨_, rfl⟩) ?_
                  exact ⟨some (r276), rfl, n258, sl259, SH260, FI244, FL245, FR246, rfl, ex275, hS262, hI247, (gf_tr (ex_shd ex35) (gf_tr (ex_shd ex35) (gf_tr (ex_shd ex35) fr45 f210 rfl rfl rfl) f227 rfl rfl rfl) f248 rfl rfl rfl), (gf_tr (ex_shd ex35) fr46 f249 rfl rfl rfl), (gf_tr (ex_shd ex35) fr47 f250 rfl rfl rfl), hF251, hR252, (by omega), (by omega), (by omega), (by exact ⟨gp40, gw41, gs42, hT283, hk44, trivial⟩), ((fun r e => by cases e; exact ⟨lt280, ow281, by rw [sh282]⟩)), (fun q e => by cases e; exact (Nat.le_trans (ex35).1 fq277))⟩
          · refine hw_aloadn (aX0_code 24 rfl) rfl ?_
            refine hw_aloadn (aX0_code 25 rfl) rfl ?_
            refine hw_get (v := .ref (base + r1)) (aX0_code 26 rfl) wf_RX0_32 lt61 sh62 (by decide) (congrArg (fun r => va_rf (h_rf base r)) (show FRv39 a1 2 = some r1 from kp51)) ?_
            refine xw_iloadn (aX0_code 27 rfl) rfl ?_
            obtain ⟨x284, h285⟩ : ∃ y, FLv38 r1 (y3).toNatClampNeg = y := ⟨_, rfl⟩
            have h285l := congrArg Int64.toInt h285
            have := l_rng x284
            refine hw_lald (v := x284) (aX0_code 28 rfl) lt63 sh64 (h_in rfl (by omega) (by omega)) (show FLv38 r1 (y3).toNatClampNeg = x284 from h285) ?_
            refine hw_bp (v := (8 : Int32)) (aX0_code 29 rfl) (by decide) ?_
            refine hw_callV (Bs := [.long (x284), .int ((8 : Int32))]) (rest := []) (aX0_code 30 rfl) wc_RX0_36 (by decide) rfl wi_yX0_putNumber wv_yX0_putNumber (c119 hS36) (s119 hS36) rfl rfl rfl (Nat.le_of_ble_eq_true rfl) (Nat.le_of_ble_eq_true rfl) (k_X0_putNumber (d := d + 249) hS36 hF49 hI48 hR50 (x284) ((8 : Int32)) (by have := congrArg Int32.toInt (show FIv37 119 1 = x71 from h72); omega)) (fun v286 sv287 p288 => ?_)
            have := congrArg Int32.toInt (show FIv37 119 1 = x71 from h72)
            have := congrArg Int32.toInt (show FIv37 119 1 = x71 from h72)
            obtain ⟨rfl, FI290, rfl, hI291, f292, t295, t296⟩ := p288
            have hT299 : g_T n32 SH34 FI290 FRv39 gp40 gw41 gs42 := gT_mw (L := [(119, 1)]) (A := [120]) (T := []) (L2 := []) (A2 := []) (T2 := []) hS36 hT43 f292 gf_rf (by decide) (by decide)
            obtain ⟨x300, h301⟩ : ∃ y, FI290 119 1 = y := ⟨_, rfl⟩
            have h301l := congrArg Int32.toInt h301
            have b302 := gI_119_1 hI291; rw [h301] at b302
            show hw sk base _ _ _ _ _ [] _ _
            refine hw_aloadn (aX0_code 31 rfl) rfl ?_
            refine hw_aloadn (aX0_code 32 rfl) rfl ?_
            refine hw_get (v := .ref (base + r2)) (aX0_code 33 rfl) wf_RX0_40 lt61 sh62 (by decide) (congrArg (fun r => va_rf (h_rf base r)) (show FRv39 a1 3 = some r2 from kp52)) ?_
            refine xw_iloadn (aX0_code 34 rfl) rfl ?_
            obtain ⟨x303, h304⟩ : ∃ y, FLv38 r2 (y3).toNatClampNeg = y := ⟨_, rfl⟩
            have h304l := congrArg Int64.toInt h304
            have := l_rng x303
            refine hw_lald (v := x303) (aX0_code 35 rfl) lt65 sh66 (h_in rfl (by omega) (by omega)) (show FLv38 r2 (y3).toNatClampNeg = x303 from h304) ?_
            refine hw_bp (v := (8 : Int32)) (aX0_code 36 rfl) (by decide) ?_
            refine hw_callV (Bs := [.long (x303), .int ((8 : Int32))]) (rest := []) (aX0_code 37 rfl) wc_RX0_36 (by decide) rfl wi_yX0_putNumber wv_yX0_putNumber (c119 hS36) (s119 hS36) rfl rfl rfl (Nat.le_of_ble_eq_true rfl) (Nat.le_of_ble_eq_true rfl) (k_X0_putNumber (d := d + 249) hS36 hF49 hI291 hR50 (x303) ((8 : Int32)) (by have := congrArg Int32.toInt (show FI290 119 1 = x300 from h301); omega)) (fun v305 sv306 p307 => ?_)
            have := congrArg Int32.toInt (show FI290 119 1 = x300 from h301)
            have := congrArg Int32.toInt (show FI290 119 1 = x300 from h301)
            obtain ⟨rfl, FI309, rfl, hI310, f311, t314, t315⟩ := p307
            have hT318 : g_T n32 SH34 FI309 FRv39 gp40 gw41 gs42 := gT_mw (L := [(119, 1)]) (A := [120]) (T := []) (L2 := []) (A2 := []) (T2 := []) hS36 hT299 f311 gf_rf (by decide) (by decide)
            obtain ⟨x319, h320⟩ : ∃ y, FI309 119 1 = y := ⟨_, rfl⟩
            have h320l := congrArg Int32.toInt h320
            have b321 := gI_119_1 hI310; rw [h320] at b321
            show hw sk base _ _ _ _ _ [] _ _
            refine hw_aloadn (aX0_code 38 rfl) rfl ?_
            refine hw_get (v := .int (x319)) (aX0_code 39 rfl) wf_RX0_15 (c119 hS36) (s119 hS36) (by decide) (congrArg Value.int (show FI309 119 1 = x319 from h320)) ?_
            refine xw_istore (L2 := [(4, .int (x319)), (3, .int (y3)), (2, .int (y2)), (0, .ref (base + 119)), (1, .ref (base + a1))]) (aX0_code 40 rfl) (by decide) rfl ?_
            refine hw_aloadn (aX0_code 41 rfl) rfl ?_
            refine hw_lc (v := (0 : Int64)) (aX0_code 42 rfl) (by decide) ?_
            refine hw_ic (v := (2 : Int32)) (aX0_code 43 rfl) (by decide) ?_
            refine hw_callV (Bs := [.long ((0 : Int64)), .int ((2 : Int32))]) (rest := []) (aX0_code 44 rfl) wc_RX0_36 (by decide) rfl wi_yX0_putNumber wv_yX0_putNumber (c119 hS36) (s119 hS36) rfl rfl rfl (Nat.le_of_ble_eq_true rfl) (Nat.le_of_ble_eq_true rfl) (k_X0_putNumber (d := d + 249) hS36 hF49 hI310 hR50 ((0 : Int64)) ((2 : Int32)) (by have := congrArg Int32.toInt (show FI309 119 1 = x319 from h320); omega)) (fun v322 sv323 p324 => ?_)
            have := congrArg Int32.toInt (show FI309 119 1 = x319 from h320)
            have := congrArg Int32.toInt (show FI309 119 1 = x319 from h320)
            obtain ⟨rfl, FI326, rfl, hI327, f328, t331, t332⟩ := p324
            have hT335 : g_T n32 SH34 FI326 FRv39 gp40 gw41 gs42 := gT_mw (L := [(119, 1)]) (A := [120]) (T := []) (L2 := []) (A2 := []) (T2 := []) hS36 hT318 f328 gf_rf (by decide) (by decide)
            obtain ⟨x336, h337⟩ : ∃ y, FI326 119 1 = y := ⟨_, rfl⟩
            have h337l := congrArg Int32.toInt h337
            have b338 := gI_119_1 hI327; rw [h337] at b338
            show hw sk base _ _ _ _ _ [] _ _
            refine xw_iloadn (aX0_code 45 rfl) rfl ?_
            refine hw_aloadn (aX0_code 46 rfl) rfl ?_
            refine hw_aloadn (aX0_code 47 rfl) rfl ?_
            refine hw_get (v := .ref (base + r3)) (aX0_code 48 rfl) wf_RX0_24 lt61 sh62 (by decide) (congrArg (fun r => va_rf (h_rf base r)) (show FRv39 a1 4 = some r3 from kp53)) ?_
            refine xw_iloadn (aX0_code 49 rfl) rfl ?_
            obtain ⟨o339, h340⟩ : ∃ y, FRv39 r3 (y3).toNatClampNeg = y := ⟨_, rfl⟩
            have ht341 : ∀ r, o339 = some r → r < n32 ∧ own r ∧ SH34 r = (6, (SH34 r).2) := fun r e => gR_get hR50 lt67 ow20 sh68 (h340.trans e)
            refine hw_aald (k := 5) (v := o339) (aX0_code 50 rfl) lt67 sh68 (by decide) (by decide) (h_in rfl (by omega) (by omega)) (show FRv39 r3 (y3).toNatClampNeg = o339 from h340) ?_
            refine hw_callVo (Bs := [va_rf (h_rf base (o339))]) (rest := [.int (y2)]) (L2 := [(0, .ref (base + 119)), (1, va_rf (h_rf base (o339)))]) (aX0_code 51 rfl) wc_RX0_28 (by decide) rfl wi_yX0_putLocation wv_yX0_putLocation (c119 hS36) (s119 hS36) rfl rfl rfl (Nat.le_of_ble_eq_true rfl) (by simp [lg_sl, va_cat, va_ci, va_cl, va_cr, va_cn]) (by simp [lv_args, va_cat, va_ci, va_cl, va_cr, va_cn]) (k_X0_putLocation (d := d) hS36 hF49 hI327 hR50 (o339) ht341 (gp40) (gw41) (gs42) (by have := congrArg Int32.toInt (show FI326 119 1 = x336 from h337); omega) (hT335)) (fun v342 sv343 p344 => ?_)
            have := congrArg Int32.toInt (show FI326 119 1 = x336 from h337)
            have := congrArg Int32.toInt (show FI326 119 1 = x336 from h337)
            obtain ⟨r345, rfl, FI346, rfl, hI347, f348, t351, t352, t353⟩ := p344
            have hT356 : g_T n32 SH34 FI346 FRv39 gp40 gw41 gs42 := gT_mw (L := [(119, 1)]) (A := [120]) (T := []) (L2 := []) (A2 := []) (T2 := []) hS36 hT335 f348 gf_rf (by decide) (by decide)
            obtain ⟨x357, h358⟩ : ∃ y, FI346 119 1 = y := ⟨_, rfl⟩
            have h358l := congrArg Int32.toInt h358
            have b359 := gI_119_1 hI347; rw [h358] at b359
            show hw sk base _ _ _ _ _ [.int (r345), .int (y2)] _ _
            refine xw_iand (aX0_code 52 rfl) ?_
            refine hw_ti (fun x360 => ?_)
            have b361 := i_rng x360
            refine xw_istoren (L2 := [(2, .int (x360)), (4, .int (x319)), (3, .int (y3)), (0, .ref (base + 119)), (1, .ref (base + a1))]) (aX0_code 53 rfl) (by decide) rfl ?_
            refine hw_aloadn (aX0_code 54 rfl) rfl ?_
            refine xw_iload (aX0_code 55 rfl) rfl ?_
            refine hw_aloadn (aX0_code 56 rfl) rfl ?_
            refine hw_get (v := .int (x357)) (aX0_code 57 rfl) wf_RX0_15 (c119 hS36) (s119 hS36) (by decide) (congrArg Value.int (show FI346 119 1 = x357 from h358)) ?_
            refine xw_iload (aX0_code 58 rfl) rfl ?_
            refine xw_isub (aX0_code 59 rfl) ?_
            refine hw_tie (A := ((x357).toInt) - ((x319).toInt)) (i_sub rfl rfl (by omega) (by omega)) (fun x362 e363 => ?_)
            refine hw_ic (v := (2 : Int32)) (aX0_code 60 rfl) (by decide) ?_
            refine xw_isub (aX0_code 61 rfl) ?_
            refine hw_tie (A := (((x357).toInt) - ((x319).toInt)) - (2)) (i_sub e363 (by decide : (2 : Int32).toInt = 2) (by omega) (by omega)) (fun x364 e365 => ?_)
            refine hw_callV (Bs := [.int (x319), .int (x364)]) (rest := []) (aX0_code 62 rfl) wc_RX0_43 (by decide) rfl wi_yX0_patch wv_yX0_patch (c119 hS36) (s119 hS36) rfl rfl rfl (Nat.le_of_ble_eq_true rfl) (Nat.le_of_ble_eq_true rfl) (k_X0_patch (d := d + 250) hS36 hF49 hI347 hR50 (x319) (x364) (by omega)) (fun v366 sv367 p368 => ?_)
            obtain ⟨rfl, FI370, rfl, hI371, f372⟩ := p368
            have hT377 : g_T n32 SH34 FI370 FRv39 gp40 gw41 gs42 := gT_mw (L := []) (A := [120]) (T := []) (L2 := []) (A2 := []) (T2 := []) hS36 hT356 f372 gf_rf (by decide) (by decide)
            show hw sk base _ _ _ _ _ [] _ _
            obtain ⟨x378, q380⟩ : ∃ y : Int32, (y3) + Int32.ofInt (1) = y := ⟨_, rfl⟩
            have e379 : (x378).toInt = (y3).toInt + (1) := by rw [← q380]; exact i_add rfl (by decide) (by omega) (by omega)
            refine xw_iinc (L2 := [(3, .int (x378)), (2, .int (x360)), (4, .int (x319)), (0, .ref (base + 119)), (1, .ref (base + a1))]) (aX0_code 63 rfl) rfl (by decide) (by rw [q380]; rfl) ?_
            refine xw_goto (tgt := 27) (aX0_code 64 rfl) (by decide) ?_
            exact hw_L (ih (x378) (x360) FI370 FLv38 FRv39 n32 sl33 SH34 gp40 gw41 gs42 ex35 hS36 hT377 hk44 (gf_tr (ex_shd ex35) (gf_tr (ex_shd ex35) (gf_tr (ex_shd ex35) (gf_tr (ex_shd ex35) (gf_tr (ex_shd ex35) fr45 f292 rfl rfl rfl) f311 rfl rfl rfl) f328 rfl rfl rfl) f348 rfl rfl rfl) f372 rfl rfl rfl) fr46 fr47 hI371 hF49 hR50 (show FRv39 a1 2 = r1 from kp51) (show FRv39 a1 3 = r2 from kp52) (show FRv39 a1 4 = r3 from kp53) (show FRv39 a1 0 = r4 from kp54) (show FI370 a1 5 = x29 from (gf_as hS36 f372 lt61 sh62 (shd_d (dyn_tag hS36 sh62 (by decide +kernel)) sh62) (by decide +kernel) ((gf_as hS36 f348 lt61 sh62 (shd_d (dyn_tag hS36 sh62 (by decide +kernel)) sh62) (by decide +kernel) ((gf_as hS36 f328 lt61 sh62 (shd_d (dyn_tag hS36 sh62 (by decide +kernel)) sh62) (by decide +kernel) ((gf_as hS36 f311 lt61 sh62 (shd_d (dyn_tag hS36 sh62 (by decide +kernel)) sh62) (by decide +kernel) ((gf_as hS36 f292 lt61 sh62 (shd_d (dyn_tag hS36 sh62 (by decide +kernel)) sh62) (by decide +kernel) (kp55))))))))))) (by have := (e379 : (x378).toInt = (y3).toInt + (1)); omega) (by have := (e379 : (x378).toInt = (y3).toInt + (1)); have := congrArg Int32.toInt (show FI370 119 1 = x357 from (gf_at f372 (c119 hS36) (shd_f (by decide) (s119 hS36)) rfl (h358))); omega) (by have := (e379 : (x378).toInt = (y3).toInt + (1)); omega) (by have := (e379 : (x378).toInt = (y3).toInt + (1)); omega) (by have := (e379 : (x378).toInt = (y3).toInt + (1)); omega)) ⟨rfl, rfl, rfl, rfl, trivial⟩
    exact hw_L (lp60 ((8 - 0 : Int).toNat + 1) ((0 : Int32)) ((1 : Int32)) FI25 FL FR n sl SH gp gw gs ex_rf hS hT27 hk0 (gf_f gf_rf u26 (by decide)) gf_rf gf_rf hI28 hF hR (show FR a1 2 = r1 from h5) (show FR a1 3 = r2 from h6) (show FR a1 4 = r3 from h7) (show FR a1 0 = r4 from h8) (show FI25 a1 5 = x29 from h30) (by have := ((by decide : (0 : Int32).toInt = 0) : ((0 : Int32)).toInt = 0); have := ((by decide : (1 : Int32).toInt = 1) : ((1 : Int32)).toInt = 1); omega) (by have := ((by decide : (0 : Int32).toInt = 0) : ((0 : Int32)).toInt = 0); have := ((by decide : (1 : Int32).toInt = 1) : ((1 : Int32)).toInt = 1); have := congrArg Int32.toInt (show FI25 119 1 = (0 : Int32) from up_eq u26); have := ((by decide : (0 : Int32).toInt = 0) : ((0 : Int32)).toInt = 0); omega) (by have := ((by decide : (0 : Int32).toInt = 0) : ((0 : Int32)).toInt = 0); have := ((by decide : (1 : Int32).toInt = 1) : ((1 : Int32)).toInt = 1); omega) (by have := ((by decide : (0 : Int32).toInt = 0) : ((0 : Int32)).toInt = 0); have := ((by decide : (1 : Int32).toInt = 1) : ((1 : Int32)).toInt = 1); omega) (by have := ((by decide : (0 : Int32).toInt = 0) : ((0 : Int32)).toInt = 0); have := ((by decide : (1 : Int32).toInt = 1) : ((1 : Int32)).toInt = 1); omega)) ⟨rfl, rfl, rfl, rfl, trivial⟩
  · refine hw_aloadn (aX0_code 8 rfl) rfl ?_
    refine hw_aloadn (aX0_code 9 rfl) rfl ?_
    refine hw_get (v := .ref (base + r3)) (aX0_code 10 rfl) wf_RX0_24 ha1l ha1s (by decide) (congrArg (fun r => va_rf (h_rf base r)) (show FR a1 4 = some r3 from h7)) ?_
    refine hw_ic (v := (0 : Int32)) (aX0_code 11 rfl) (by decide) ?_
    obtain ⟨o381, h382⟩ : ∃ y, FR r3 ((0 : Int32)).toNatClampNeg = y := ⟨_, rfl⟩
    have ht383 : ∀ r, o381 = some r → r < n ∧ own r ∧ SH r = (6, (SH r).2) := fun r e => gR_get hR lt19 ow20 hz11 (h382.trans e)
    refine hw_aald (k := 5) (v := o381) (aX0_code 12 rfl) lt19 hz11 (by decide) (by decide) (h_in (by decide : (0 : Int32).toInt = 0) (by omega) (by omega)) (show FR r3 ((0 : Int32)).toNatClampNeg = o381 from h382) ?_
    refine hw_callVo (Bs := [va_rf (h_rf base (o381))]) (rest := []) (L2 := [(0, .ref (base + 119)), (1, va_rf (h_rf base (o381)))]) (aX0_code 13 rfl) wc_RX0_28 (by decide) rfl wi_yX0_putLocation wv_yX0_putLocation (c119 hS) (s119 hS) rfl rfl rfl (Nat.le_of_ble_eq_true rfl) (by simp [lg_sl, va_cat, va_ci, va_cl, va_cr, va_cn]) (by simp [lv_args, va_cat, va_ci, va_cl, va_cr, va_cn]) (k_X0_putLocation (d := d) hS hF hI28 hR (o381) ht383 (gp) (gw) (gs) (by have := congrArg Int32.toInt (show FI25 119 1 = (0 : Int32) from up_eq u26); have := ((by decide : (0 : Int32).toInt = 0) : ((0 : Int32)).toInt = 0); omega) (hT27)) (fun v384 sv385 p386 => ?_)
    have := congrArg Int32.toInt (show FI25 119 1 = (0 : Int32) from up_eq u26)
    have := ((by decide : (0 : Int32).toInt = 0) : ((0 : Int32)).toInt = 0)
    have := congrArg Int32.toInt (show FI25 119 1 = (0 : Int32) from up_eq u26)
    have := ((by decide : (0 : Int32).toInt = 0) : ((0 : Int32)).toInt = 0)
    obtain ⟨r387, rfl, FI388, rfl, hI389, f390, t393, t394, t395⟩ := p386
    have hT398 : g_T n SH FI388 FR gp gw gs := gT_mw (L := [(119, 1)]) (A := [120]) (T := []) (L2 := []) (A2 := []) (T2 := []) hS hT27 f390 gf_rf (by decide) (by decide)
    obtain ⟨x399, h400⟩ : ∃ y, FI388 119 1 = y := ⟨_, rfl⟩
    have h400l := congrArg Int32.toInt h400
    have b401 := gI_119_1 hI389; rw [h400] at b401
    show hw sk base _ _ _ _ _ [.int (r387)] _ _
    refine xw_istoren (L2 := [(2, .int (r387)), (0, .ref (base + 119)), (1, .ref (base + a1))]) (aX0_code 14 rfl) (by decide) rfl ?_
    refine hw_ic (v := (0 : Int32)) (aX0_code 15 rfl) (by decide) ?_
    refine xw_istoren (L2 := [(3, .int ((0 : Int32))), (2, .int (r387)), (0, .ref (base + 119)), (1, .ref (base + a1))]) (aX0_code 16 rfl) (by decide) rfl ?_
    have lp431 : ∀ (m : Nat) (y3 : Int32) (y2 : Int32) (FIv407 : Nat → Nat → Int32) (FLv408 : Nat → Nat → Int64) (FRv409 : Nat → Nat → Option Nat) (n402 sl403 : Nat) (SH404 : Nat → Nat × Nat) (gp410 gw411 gs412 : Nat → Nat), (g_ex n SH n402 SH404) → (h_S n402 SH404) → (g_T n402 SH404 FIv407 FRv409 gp410 gw411 gs412) → (∀ c, c < n → gp410 c = gp c ∧ gw411 c = gw c ∧ gs412 c = gs c) → (g_fr n (shd SH) [(119, 1)] [120] [] FI FIv407) → (g_fr n (shd SH) [] [] [] FL FLv408) → (g_fr n (shd SH) [] [] [] FR FRv409) → (g_I FIv407) → (h_FR FRv409) → (g_R n402 SH404 FRv409) → (FRv409 a1 2 = r1) → (FRv409 a1 3 = r2) → (FRv409 a1 4 = r3) → (FRv409 a1 0 = r4) → (FIv407 a1 5 = x29) → (FRv409 r3 ((0 : Int32)).toNatClampNeg = o381) → (0 ≤ (y3).toInt ∧ (y3).toInt ≤ 8) → (0 ≤ (FIv407 119 1).toInt ∧ (FIv407 119 1).toInt ≤ 200000100 * ((y3).toInt + 1)) → (n402 = n) → (sl403 = sl) → 8 - (y3).toInt < m → hw sk base (d + 251) none 2 27 [(3, .int (y3)), (2, .int (y2)), (0, .ref (base + 119)), (1, .ref (base + a1))] [] (n402, sl403, SH404, FIv407, FLv408, FRv409) (h_A base (fun r s => ∃ n' sl' SH' FI' FL' FR', s = (n', sl', SH', FI', FL', FR') ∧ g_ex n SH n' SH' ∧ h_S n' SH' ∧ g_I FI' ∧ g_fr n (shd SH) [(119, 1)] [120] [] FI FI' ∧ g_fr n (shd SH) [] [] [] FL FL' ∧ g_fr n (shd SH) [] [] [] FR FR' ∧ h_FR FR' ∧ g_R n' SH' FR' ∧ ((n' : Int) ≤ n + 1) ∧ ((sl' : Int) ≤ sl + 600) ∧ ((n : Int) ≤ n') ∧ (∃ gp2 gw2 gs2, g_T n' SH' FI' FR' gp2 gw2 gs2 ∧ (∀ c, c < n → gp2 c = gp c ∧ gw2 c = gw c ∧ gs2 c = gs c) ∧ True) ∧ (∀ q, r = some q → q < n' ∧ own q ∧ SH' q = (100, (SH' q).2)) ∧ (∀ q, r = some q → n ≤ q))) := by
      intro m
      induction m with
      | zero => intro y3 y2 FIv407 FLv408 FRv409 n402 sl403 SH404 gp410 gw411 gs412 ex405 hS406 hT413 hk414 fr415 fr416 fr417 hI418 hF419 hR420 kp421 kp422 kp423 kp424 kp425 kp426 iv427 iv428 iv429 iv430 hm; omega
      | succ m ih =>
        intro y3 y2 FIv407 FLv408 FRv409 n402 sl403 SH404 gp410 gw411 gs412 ex405 hS406 hT413 hk414 fr415 fr416 fr417 hI418 hF419 hR420 kp421 kp422 kp423 kp424 kp425 kp426 iv427 iv428 iv429 iv430 hm
        have rg_y3 := i_rng y3
        have rg_y2 := i_rng y2
        have := congrArg Int32.toInt kp425
        have lt432 := ex_lt ex405 ha1l
        have sh433 := ex_sh ex405 ha1l ha1s
        have lt434 := ex_lt ex405 lt13
        have sh435 := ex_sh ex405 lt13 hz9
        have lt436 := ex_lt ex405 lt16
        have sh437 := ex_sh ex405 lt16 hz10
        have lt438 := ex_lt ex405 lt19
        have sh439 := ex_sh ex405 lt19 hz11
        have lt440 := ex_lt ex405 lt22
        have sh441 := ex_sh ex405 lt22 sh24
        have ht442 := ex_ty ex405 ht383
        obtain ⟨x443, h444⟩ : ∃ y, FIv407 119 1 = y := ⟨_, rfl⟩
        have h444l := congrArg Int32.toInt h444
        have b445 := gI_119_1 hI418; rw [h444] at b445
        refine xw_iloadn (aX0_code 17 rfl) rfl ?_
        refine hw_aloadn (aX0_code 18 rfl) rfl ?_
        refine hw_get (v := .int (x29)) (aX0_code 19 rfl) wf_RX0_19 lt432 sh433 (by decide) (congrArg Value.int (show FIv407 a1 5 = x29 from kp425)) ?_
        refine hw_icge (tgt := 111) (aX0_code 20 rfl) (by decide) rfl rfl (fun cd446 => ?_) (fun cd446 => ?_)
        · refine hw_aloadn (aX0_code 65 rfl) rfl ?_
          refine hw_get (v := .int (x29)) (aX0_code 66 rfl) wf_RX0_19 lt432 sh433 (by decide) (congrArg Value.int (show FIv407 a1 5 = x29 from kp425)) ?_
          refine hw_ifle (tgt := 132) (aX0_code 67 rfl) (by decide) rfl (fun cd447 => ?_) (fun cd447 => ?_)
          · refine xw_iloadn (aX0_code 76 rfl) rfl ?_
            refine hw_ifeq (tgt := 162) (aX0_code 77 rfl) (by decide) rfl (fun cd448 => ?_) (fun cd448 => ?_)
            · refine xw_null (aX0_code 90 rfl) ?_
              refine xw_aret (v := h_rf base (none)) (aX0_code 91 rfl) rfl (by first | exact Or.inl ⟨_, rfl⟩ | exact Or.inr ⟨_, rfl⟩) ?_
              exact ⟨none, rfl, n402, sl403, SH404, FIv407, FLv408, FRv409, rfl, ex405, hS406, hI418, fr415, fr416, fr417, hF419, hR420, (by omega), (by omega), (by omega), (by exact ⟨gp410, gw411, gs412, hT413, hk414, trivial⟩), ((fun r e => by cases e)), (fun q e => by cases e)⟩
            · refine hw_aloadn (aX0_code 78 rfl) rfl ?_
              refine hw_get (v := .int (x443)) (aX0_code 79 rfl) wf_RX0_15 (c119 hS406) (s119 hS406) (by decide) (congrArg Value.int (show FIv407 119 1 = x443 from h444)) ?_
              refine hw_aloadn (aX0_code 80 rfl) rfl ?_
              refine hw_get (v := .ref (base + 120)) (aX0_code 81 rfl) wf_RX0_9 (c119 hS406) (s119 hS406) (by decide) (congrArg (fun r => va_rf (h_rf base r)) (r119_0 hF419)) ?_
              refine hw_alen (k := 0) (z := 600) (v := (600 : Int32)) (aX0_code 82 rfl) (c120 hS406) (s120 hS406) (by decide) (by decide) ?_
              refine hw_icgt (tgt := 162) (aX0_code 83 rfl) (by decide) rfl (by decide : (600 : Int32).toInt = 600) (fun cd449 => ?_) (fun cd449 => ?_)
              · refine xw_null (aX0_code 90 rfl) ?_
                refine xw_aret (v := h_rf base (none)) (aX0_code 91 rfl) rfl (by first | exact Or.inl ⟨_, rfl⟩ | exact Or.inr ⟨_, rfl⟩) ?_
                exact ⟨none, rfl, n402, sl403, SH404, FIv407, FLv408, FRv409, rfl, ex405, hS406, hI418, fr415, fr416, fr417, hF419, hR420, (by omega), (by omega), (by omega), (by exact ⟨gp410, gw411, gs412, hT413, hk414, trivial⟩), ((fun r e => by cases e)), (fun q e => by cases e)⟩
              · refine hw_aloadn (aX0_code 84 rfl) rfl ?_
                refine hw_get (v := .ref (base + 120)) (aX0_code 85 rfl) wf_RX0_9 (c119 hS406) (s119 hS406) (by decide) (congrArg (fun r => va_rf (h_rf base r)) (r119_0 hF419)) ?_
                refine hw_aloadn (aX0_code 86 rfl) rfl ?_
                refine hw_get (v := .int (x443)) (aX0_code 87 rfl) wf_RX0_15 (c119 hS406) (s119 hS406) (by decide) (congrArg Value.int (show FIv407 119 1 = x443 from h444)) ?_
                refine hw_callS (As := [.ref (base + 120), .int (x443)]) (rest := []) (aX0_code 88 rfl) wc_RX0_47 (by decide) rfl wt_yJ7_copyOf_59c91 rfl rfl (Nat.le_of_ble_eq_true rfl) (Nat.le_of_ble_eq_true rfl) (k_copyOf120 (d := d + 249) hS406 hF419 hI418 hR420 (x443) (by omega)) (fun v450 sv451 p452 => ?_)
                obtain ⟨r453, rfl, n468, sl469, SH470, FI454, FL455, FR456, rfl, ex471, hS472, hI457, f458, f459, f460, hF461, hR462, t463, t464, u465, ht466, nn467, hfr473⟩ := p452
                have lt474 := ex_lt ex471 lt432
                have sh475 := ex_sh ex471 lt432 sh433
                have lt476 := ex_lt ex471 lt434
                have sh477 := ex_sh ex471 lt434 sh435
                have lt478 := ex_lt ex471 lt436
                have sh479 := ex_sh ex471 lt436 sh437
                have lt480 := ex_lt ex471 lt438
                have sh481 := ex_sh ex471 lt438 sh439
                have lt482 := ex_lt ex471 lt440
                have sh483 := ex_sh ex471 lt440 sh441
                have ht484 := ex_ty ex471 ht442
                have ex485 := ex_tr ex405 ex471
                have ex486 := ex_tr ex405 ex471
                obtain ⟨r487, rfl⟩ : ∃ q, r453 = some q := Option.ne_none_iff_exists'.mp nn467
                have fq488 := hfr473 r487 rfl
                have dq489 : 176 ≤ r487 := Nat.le_trans hS406.1 fq488
                obtain ⟨lt491, ow492, sh493⟩ := ht466 r487 rfl
                have hT494 : g_T n468 SH470 FI454 FR456 gp410 gw411 gs412 := gT_ar (L := []) (A := []) (T := []) (L2 := []) (A2 := []) (T2 := []) hS406 hR420 hT413 (by omega) ex471 (by rw [show n402 = r487 by omega]; exact sh493) f458 f460 (by decide) (by decide)
                show hw sk base _ _ _ _ _ [.ref (base + r487)] _ _
                refine xw_goto (tgt := 163) (aX0_code 89 rfl) (by decide) ?_
                refine xw_aret (v := h_rf base (some (r487))) (aX0_code 91 rfl) rfl (by first | exact Or.inl ⟨_, rfl⟩ | exact Or.inr ⟨_, rfl⟩) ?_
                exact ⟨some (r487), rfl, n468, sl469, SH470, FI454, FL455, FR456, rfl, ex486, hS472, hI457, (gf_tr (ex_shd ex405) fr415 f458 rfl rfl rfl), (gf_tr (ex_shd ex405) fr416 f459 rfl rfl rfl), (gf_tr (ex_shd ex405) fr417 f460 rfl rfl rfl), hF461, hR462, (by omega), (by omega), (by omega), (by exact ⟨gp410, gw411, gs412, hT494, hk414, trivial⟩), ((fun r e => by cases e; exact ⟨lt491, ow492, by rw [sh493]⟩)), (fun q e => by cases e; exact (Nat.le_trans (ex405).1 fq488))⟩
          · omega
        · omega
    exact hw_L (lp431 ((8 - 0 : Int).toNat + 1) ((0 : Int32)) (r387) FI388 FL FR n sl SH gp gw gs ex_rf hS hT398 hk0 (gf_tr ex_rf (gf_f gf_rf u26 (by decide)) f390 rfl rfl rfl) gf_rf gf_rf hI389 hF hR (show FR a1 2 = r1 from h5) (show FR a1 3 = r2 from h6) (show FR a1 4 = r3 from h7) (show FR a1 0 = r4 from h8) (show FI388 a1 5 = x29 from (gf_as hS f390 ha1l ha1s (shd_d (dyn_tag hS ha1s (by decide +kernel)) ha1s) (by decide +kernel) (h30))) (show FR r3 ((0 : Int32)).toNatClampNeg = o381 from h382) (by have := ((by decide : (0 : Int32).toInt = 0) : ((0 : Int32)).toInt = 0); omega) (by have := ((by decide : (0 : Int32).toInt = 0) : ((0 : Int32)).toInt = 0); have := congrArg Int32.toInt (show FI388 119 1 = x399 from h400); omega) (by have := ((by decide : (0 : Int32).toInt = 0) : ((0 : Int32)).toInt = 0); omega) (by have := ((by decide : (0 : Int32).toInt = 0) : ((0 : Int32)).toInt = 0); omega) (by have := ((by decide : (0 : Int32).toInt = 0) : ((0 : Int32)).toInt = 0); omega)) ⟨rfl, rfl, rfl, rfl, trivial⟩
end
section
/-! The desk's variables; a text's variables and their codes. -/
def g_V (SH : Nat → Nat × Nat) (FI : Nat → Nat → Int32) (FR : Nat → Nat → Option Nat) : Prop := ∃ v, FR 0 11 = some v ∧ ∀ i : Nat, (i : Int) < (FI 0 12).toInt → 176 ≤ v ∧ ∃ r, FR v i = some r ∧ 176 ≤ r ∧ g_Vv SH FR r ∧ ∃ k, FR r 6 = some k
def g_CD (FR : Nat → Nat → Option Nat) (m : Int) : Prop := ∀ i : Nat, (i : Int) < m → ∃ pv v k, FR 110 2 = some pv ∧ FR pv i = some v ∧ FR v 6 = some k
theorem tag_ne {SH : Nat → Nat × Nat} {c t z k : Nat} (h : SH c = (t, z)) (ht : t ≠ k) : (SH c).1 ≠ k := by rw [h]; exact ht
section GM
variable {n n2 lo : Nat} {SH SH2 : Nat → Nat × Nat} {FI FI2 : Nat → Nat → Int32} {FR FR2 : Nat → Nat → Option Nat} {v : Nat} {o : Option Nat} {cn m : Int}
theorem gR_o {c k r : Nat} (hR : g_R n SH FR) (hc : c < n) (ho : own c) (e : FR c k = some r) : r < n ∧ own r ∧ (SH r).1 = g_ty (SH c).1 k := by
  obtain ⟨a, b, d, -⟩ := hR.2.1 c k r hc ho e
  exact ⟨a, b, d⟩
theorem gPV_gr (hS : h_S n SH) (hR : g_R n SH FR) (ex : g_ex n SH n2 SH2) (f : g_fr n (shd SH) [] [] [] FR FR2) (h : g_PV lo SH FR cn) : g_PV lo SH2 FR2 cn := by
  obtain ⟨pv, e1, e2, e3, e4, e5⟩ := h
  have hn := hS.1
  have eq : ∀ c k, c < n → FR2 c k = FR c k := fun c k hc => f c k hc (by simp) (by simp) (by simp)
  have hp := gR_o hR (c110 hS) (Or.inl (by decide)) e1
  refine ⟨pv, by rw [eq 110 2 (by omega)]; exact e1, by rw [ex.2 pv hp.1]; exact e2, e3, e4, fun i hi => ?_⟩
  obtain ⟨v, g1, g2, g3, g4⟩ := e5 i hi
  have hv := gR_o hR hp.1 hp.2.1 g1
  exact ⟨v, by rw [eq pv i hp.1]; exact g1, g2, g3, gV_gr hR hv.1 hv.2.1 ex (fun k => eq v k hv.1) g4⟩
theorem gPV_cd (hS : h_S n SH) (hv : (SH v).1 = 10) (u : FR2 = h_up FR v 6 o) (h : g_PV lo SH FR cn) : g_PV lo SH FR2 cn := by
  obtain ⟨pv, e1, e2, e3, e4, e5⟩ := h
  have h1 : 110 ≠ v := fun e => by rw [← e, s110 hS] at hv; cases hv
  have h2 : pv ≠ v := fun e => by rw [← e, e2] at hv; cases hv
  refine ⟨pv, up_c u h1 e1, e2, e3, e4, fun i hi => ?_⟩
  obtain ⟨w, g1, g2, g3, g4⟩ := e5 i hi
  refine ⟨w, up_c u h2 g1, g2, g3, ?_⟩
  have eq : ∀ k, k ≠ 6 → FR2 w k = FR w k := fun k hk => by
    by_cases hw : w = v
    · subst hw; exact up_k u hk rfl
    · exact up_c u hw rfl
  unfold g_Vv
  rw [eq 2 (by decide), eq 3 (by decide), eq 4 (by decide), eq 0 (by decide)]
  exact g4
theorem gCD_gr (hS : h_S n SH) (hR : g_R n SH FR) (f : g_fr n (shd SH) [] [] [] FR FR2) (h : g_CD FR m) : g_CD FR2 m := fun i hi => by
  obtain ⟨pv, v, k, e1, e2, e3⟩ := h i hi
  have eq : ∀ c k, c < n → FR2 c k = FR c k := fun c k hc => f c k hc (by simp) (by simp) (by simp)
  have hp := gR_o hR (c110 hS) (Or.inl (by decide)) e1
  have hv := gR_o hR hp.1 hp.2.1 e2
  exact ⟨pv, v, k, by rw [eq _ _ (c110 hS)]; exact e1, by rw [eq _ _ hp.1]; exact e2, by rw [eq _ _ hv.1]; exact e3⟩
theorem gCD_cd {pv k j : Nat} (hS : h_S n SH) (hv : (SH v).1 = 10) (hp : (SH pv).1 = 104) (e1 : FR 110 2 = some pv) (e2 : FR pv j = some v) (hj : (j : Int) = m) (u : FR2 = h_up FR v 6 (some k)) (h : g_CD FR m) : g_CD FR2 (m + 1) := fun i hi => by
  have h1 : 110 ≠ v := fun e => by rw [← e, s110 hS] at hv; cases hv
  have h2 : pv ≠ v := fun e => by rw [← e, hp] at hv; cases hv
  by_cases hij : i = j
  · subst hij
    exact ⟨pv, v, k, up_c u h1 e1, up_c u h2 e2, up_eq u⟩
  · obtain ⟨pv2, v2, k2, g1, g2, g3⟩ := h i (by omega)
    rw [e1] at g1
    cases g1
    by_cases hw : v2 = v
    · subst hw
      exact ⟨pv, v2, k, up_c u h1 e1, up_c u h2 g2, up_eq u⟩
    · exact ⟨pv, v2, k2, up_c u h1 e1, up_c u h2 g2, up_c u hw g3⟩
theorem gV_old {L : List (Nat × Nat)} {A T : List Nat} (hS : h_S n SH) (hR : g_R n SH FR) (ex : g_ex n SH n2 SH2) (h : g_V SH FI FR) (hI : FI2 0 12 = FI 0 12) (h11 : FR2 0 11 = FR 0 11) (old : ∀ c k, c < n → (SH c).1 = 104 → 176 ≤ c → FR2 c k = FR c k) (f : g_fr n (shd SH) L A T FR FR2) (m : g_low L A T [1010] = true) : g_V SH2 FI2 FR2 := by
  obtain ⟨v, e1, e2⟩ := h
  have hv := gR_o hR (c0 hS) (Or.inl (by decide)) e1
  rw [s0 hS] at hv
  refine ⟨v, by rw [h11]; exact e1, fun i hi => ?_⟩
  rw [hI] at hi
  obtain ⟨g0, r, g1, g2, g3, k, g4⟩ := e2 i hi
  have hr := gR_o hR hv.1 hv.2.1 g1
  have ht : (SH r).1 = 10 := by rw [hr.2.2, hv.2.2]; rfl
  have eq : ∀ k, FR2 r k = FR r k := fun k => g_low_at (t := 1010) f m hr.1 g2 (by rw [ht]) (by decide)
  exact ⟨g0, r, by rw [old v i hv.1 hv.2.2 g0]; exact g1, g2, gV_gr hR hr.1 hr.2.1 ex eq g3, k, by rw [eq]; exact g4⟩
theorem gV_new (hR : g_R n SH FR) (hS : h_S n SH) (h : g_PV lo SH FR cn) (hc : g_CD FR cn) (e0 : FR2 0 11 = FR 110 2) (eq : ∀ c k, 0 < c → FR2 c k = FR c k) (hI : (FI2 0 12).toInt = cn) : g_V SH FI2 FR2 := by
  obtain ⟨pv, e1, e2, e3, e4, e5⟩ := h
  refine ⟨pv, by rw [e0]; exact e1, fun i hi => ⟨e3, ?_⟩⟩
  rw [hI] at hi
  obtain ⟨v, g1, g2, g3, g4⟩ := e5 i hi
  obtain ⟨pv2, v2, k, q1, q2, q3⟩ := hc i hi
  rw [e1] at q1
  cases q1
  rw [g1] at q2
  cases q2
  have ev : ∀ k, FR2 v k = FR v k := fun k => eq v k (by omega)
  refine ⟨v, by rw [eq pv i (by omega)]; exact g1, g3, ?_, k, by rw [ev]; exact q3⟩
  unfold g_Vv
  simp only [ev]
  exact g4
end GM
end
