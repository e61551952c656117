def nX9_readLeb : Nat := 0xac0f1083ffa7010484ac037300b5817960071068041507107d00147300b4592a1800997e401005152000a2091004152700991d2d00a280001105157300b581796804150710857e7f1005157300b4592a4e00b560044e00b4592a05362e4e00b42a2bac040500a1be2b4e00b42a0c00a21c4e00b42a14009b4e00b42a7c00a20a1004150436037300b5092a
theorem bX9_readLeb : cX9_readLeb.data.toList.map UInt8.toNat = x_un nX9_readLeb 139 := by decide +kernel
def iX9_readLeb : List (Nat × Jvm.ClassFile.Instr × Nat) := [(0, .aload_n 0, 1), (1, .lconst 0, 1), (2, .putfield 115, 3), (5, .iconst 0, 1), (6, .istore 4, 2), (8, .iload 4, 2), (10, .bipush 10, 2), (12, .if_icmp .ge 124, 3), (15, .aload_n 0, 1), (16, .getfield 78, 3), (19, .ifCond .lt 20, 3), (22, .aload_n 0, 1), (23, .getfield 78, 3), (26, .iload_n 2, 1), (27, .if_icmp .ge 12, 3), (30, .aload_n 0, 1), (31, .getfield 78, 3), (34, .aload_n 1, 1), (35, .arraylength, 1), (36, .if_icmp .lt 5, 3), (39, .iconst 1, 1), (40, .ireturn, 1), (41, .aload_n 1, 1), (42, .aload_n 0, 1), (43, .getfield 78, 3), (46, .iaload, 1), (47, .istore 5, 2), (49, .aload_n 0, 1), (50, .dup, 1), (51, .getfield 78, 3), (54, .iconst 1, 1), (55, .iadd, 1), (56, .putfield 78, 3), (59, .aload_n 0, 1), (60, .dup, 1), (61, .getfield 115, 3), (64, .iload 5, 2), (66, .bipush 127, 2), (68, .iand, 1), (69, .i2l, 1), (70, .bipush 7, 2), (72, .iload 4, 2), (74, .imul, 1), (75, .lshl, 1), (76, .lor, 1), (77, .putfield 115, 3), (80, .iload 5, 2), (82, .sipush 128, 3), (85, .if_icmp .ge 45, 3), (88, .iload_n 3, 1), (89, .ifCond .eq 39, 3), (92, .iload 4, 2), (94, .bipush 9, 2), (96, .if_icmp .ge 32, 3), (99, .iload 5, 2), (101, .bipush 64, 2), (103, .iand, 1), (104, .ifCond .eq 24, 3), (107, .aload_n 0, 1), (108, .dup, 1), (109, .getfield 115, 3), (112, .ldc2_w 125, 3), (115, .bipush 7, 2), (117, .iload 4, 2), (119, .imul, 1), (120, .bipush 7, 2), (122, .iadd, 1), (123, .lshl, 1), (124, .lor, 1), (125, .putfield 115, 3), (128, .iconst 0, 1), (129, .ireturn, 1), (130, .iinc 4 1, 3), (133, .goto (-125), 3), (136, .bipush 15, 2), (138, .ireturn, 1)]
theorem dX9_readLeb : x_il nX9_readLeb 139 iX9_readLeb = true := by decide +kernel
theorem aX9_readLeb (k : Nat) {pc : Nat} {i : Jvm.ClassFile.Instr} {len : Nat} (hk : iX9_readLeb[k]? = some (pc, i, len)) : x_at xMM 92 pc i len yX9_readLeb 6 (some .int) := ⟨cX9_readLeb, rfl, x_il_ok bX9_readLeb dX9_readLeb k hk⟩
set_option maxHeartbeats 4000000 in
set_option maxRecDepth 100000 in
theorem k_X9_readLeb {sk : xK} {base d n sl : Nat} {SH : Nat → Nat × Nat} {FI : Nat → Nat → Int32} {FL : Nat → Nat → Int64} {FR : Nat → Nat → Option Nat} (hS : h_S n SH) (hF : h_FR FR) (hI : g_I FI) (hR : g_R n SH FR) (c : Nat) {zc : Nat} (hc : c < n) (hsc : SH c = (9, zc)) (hoc : own c) (a1 : Nat) {z1 : Nat} (ha1l : a1 < n) (ha1s : SH a1 = (100, z1)) (ha1o : own a1) (a2 : Int32) (a3 : Int32) (g0 : 0 ≤ (a3).toInt ∧ (a3).toInt ≤ 1) : hw sk base d none 92 0 [(0, .ref (base + c)), (1, .ref (base + a1)), (2, .int (a2)), (3, .int (a3))] [] (n, sl, SH, FI, FL, FR) (h_I (fun r s => ∃ FI' FL', s = (n, sl, SH, FI', FL', FR) ∧ g_I FI' ∧ g_fr n (shd SH) [] [] [9] FI FI' ∧ g_fr n (shd SH) [] [] [9] FL FL')) := by
  have rg_a2 := i_rng a2
  have rg_a3 := i_rng a3
  refine hw_aloadn (aX9_readLeb 0 rfl) rfl ?_
  refine hw_lc (v := (0 : Int64)) (aX9_readLeb 1 rfl) (by decide) ?_
  refine hv_putl (aX9_readLeb 2 rfl) wf_RX9_115 hc hsc (by decide) rfl rfl (fun FL1 u2 => ?_)
  refine hw_ic (v := (0 : Int32)) (aX9_readLeb 3 rfl) (by decide) ?_
  refine xw_istore (L2 := [(4, .int ((0 : Int32))), (0, .ref (base + c)), (1, .ref (base + a1)), (2, .int (a2)), (3, .int (a3))]) (aX9_readLeb 4 rfl) (by decide) rfl ?_
  have lp9 : ∀ (m : Nat) (y4 : Int32) (FIv3 : Nat → Nat → Int32) (FLv4 : Nat → Nat → Int64), (g_fr n (shd SH) [] [] [9] FI FIv3) → (g_fr n (shd SH) [] [] [9] FL FLv4) → (g_I FIv3) → (0 ≤ (y4).toInt ∧ (y4).toInt ≤ 10) → 10 - (y4).toInt < m → hw sk base d none 92 8 [(4, .int (y4)), (0, .ref (base + c)), (1, .ref (base + a1)), (2, .int (a2)), (3, .int (a3))] [] (n, sl, SH, FIv3, FLv4, FR) (h_I (fun r s => ∃ FI' FL', s = (n, sl, SH, FI', FL', FR) ∧ g_I FI' ∧ g_fr n (shd SH) [] [] [9] FI FI' ∧ g_fr n (shd SH) [] [] [9] FL FL')) := by
    intro m
    induction m with
    | zero => intro y4 FIv3 FLv4 fr5 fr6 hI7 iv8 hm; omega
    | succ m ih =>
      intro y4 FIv3 FLv4 fr5 fr6 hI7 iv8 hm
      have rg_y4 := i_rng y4
      refine xw_iload (aX9_readLeb 5 rfl) rfl ?_
      refine hw_bp (v := (10 : Int32)) (aX9_readLeb 6 rfl) (by decide) ?_
      refine hw_icge (tgt := 136) (aX9_readLeb 7 rfl) (by decide) rfl (by decide : (10 : Int32).toInt = 10) (fun cd10 => ?_) (fun cd10 => ?_)
      · refine hw_bp (v := (15 : Int32)) (aX9_readLeb 74 rfl) (by decide) ?_
        refine xw_iret (aX9_readLeb 75 rfl) rfl rfl ?_
        have e11 : ((15 : Int32)).toInt = 15 := (by decide : (15 : Int32).toInt = 15)
        exact ⟨(15 : Int32), rfl, FIv3, FLv4, rfl, hI7, fr5, fr6⟩
      · refine hw_aloadn (aX9_readLeb 8 rfl) rfl ?_
        obtain ⟨x12, h13⟩ : ∃ y, FIv3 c 10 = y := ⟨_, rfl⟩
        have h13l := congrArg Int32.toInt h13
        have := i_rng x12
        refine hw_get (v := .int (x12)) (aX9_readLeb 9 rfl) wf_RX9_78 hc hsc (by decide) (congrArg Value.int (show FIv3 c 10 = x12 from h13)) ?_
        refine hw_iflt (tgt := 39) (aX9_readLeb 10 rfl) (by decide) rfl (fun cd14 => ?_) (fun cd14 => ?_)
        · refine hw_ic (v := (1 : Int32)) (aX9_readLeb 20 rfl) (by decide) ?_
          refine xw_iret (aX9_readLeb 21 rfl) rfl rfl ?_
          have e15 : ((1 : Int32)).toInt = 1 := (by decide : (1 : Int32).toInt = 1)
          exact ⟨(1 : Int32), rfl, FIv3, FLv4, rfl, hI7, fr5, fr6⟩
        · refine hw_aloadn (aX9_readLeb 11 rfl) rfl ?_
          refine hw_get (v := .int (x12)) (aX9_readLeb 12 rfl) wf_RX9_78 hc hsc (by decide) (congrArg Value.int (show FIv3 c 10 = x12 from h13)) ?_
          refine xw_iloadn (aX9_readLeb 13 rfl) rfl ?_
          refine hw_icge (tgt := 39) (aX9_readLeb 14 rfl) (by decide) rfl rfl (fun cd16 => ?_) (fun cd16 => ?_)
          · refine hw_ic (v := (1 : Int32)) (aX9_readLeb 20 rfl) (by decide) ?_
            refine xw_iret (aX9_readLeb 21 rfl) rfl rfl ?_
            have e17 : ((1 : Int32)).toInt = 1 := (by decide : (1 : Int32).toInt = 1)
            exact ⟨(1 : Int32), rfl, FIv3, FLv4, rfl, hI7, fr5, fr6⟩
          · refine hw_aloadn (aX9_readLeb 15 rfl) rfl ?_
            refine hw_get (v := .int (x12)) (aX9_readLeb 16 rfl) wf_RX9_78 hc hsc (by decide) (congrArg Value.int (show FIv3 c 10 = x12 from h13)) ?_
            refine hw_aloadn (aX9_readLeb 17 rfl) rfl ?_
            obtain ⟨x18, h19⟩ : ∃ y, Int32.ofNat z1 = y := ⟨_, rfl⟩
            have b20 : (x18).toInt ≤ ((z1 : Nat) : Int) := by rw [← h19]; exact i_len
            have := i_rng x18
            refine hw_alen (k := 0) (v := x18) (aX9_readLeb 18 rfl) ha1l ha1s (by decide) h19 ?_
            refine hw_iclt (tgt := 41) (aX9_readLeb 19 rfl) (by decide) rfl rfl (fun cd21 => ?_) (fun cd21 => ?_)
            · refine hw_aloadn (aX9_readLeb 22 rfl) rfl ?_
              refine hw_aloadn (aX9_readLeb 23 rfl) rfl ?_
              refine hw_get (v := .int (x12)) (aX9_readLeb 24 rfl) wf_RX9_78 hc hsc (by decide) (congrArg Value.int (show FIv3 c 10 = x12 from h13)) ?_
              obtain ⟨x22, h23⟩ : ∃ y, FIv3 a1 (x12).toNatClampNeg = y := ⟨_, rfl⟩
              have h23l := congrArg Int32.toInt h23
              have := i_rng x22
              refine hw_iald (v := x22) (aX9_readLeb 25 rfl) ha1l ha1s (h_in rfl (by omega) (by omega)) (show FIv3 a1 (x12).toNatClampNeg = x22 from h23) ?_
              refine xw_istore (L2 := [(5, .int (x22)), (4, .int (y4)), (0, .ref (base + c)), (1, .ref (base + a1)), (2, .int (a2)), (3, .int (a3))]) (aX9_readLeb 26 rfl) (by decide) rfl ?_
              refine hw_aloadn (aX9_readLeb 27 rfl) rfl ?_
              refine xw_dup (aX9_readLeb 28 rfl) rfl ?_
              refine hw_get (v := .int (x12)) (aX9_readLeb 29 rfl) wf_RX9_78 hc hsc (by decide) (congrArg Value.int (show FIv3 c 10 = x12 from h13)) ?_
              refine hw_ic (v := (1 : Int32)) (aX9_readLeb 30 rfl) (by decide) ?_
              refine xw_iadd (aX9_readLeb 31 rfl) ?_
              refine hw_tie (A := ((x12).toInt) + (1)) (i_add rfl (by decide : (1 : Int32).toInt = 1) (by omega) (by omega)) (fun x24 e25 => ?_)
              refine hv_puti (aX9_readLeb 32 rfl) wf_RX9_78 hc hsc (by decide) rfl rfl (fun FI26 u27 => ?_)
              have hI28 : g_I FI26 := gU_g hI7 hS u27 hsc (by decide +kernel)
              refine hw_aloadn (aX9_readLeb 33 rfl) rfl ?_
              refine xw_dup (aX9_readLeb 34 rfl) rfl ?_
              obtain ⟨x29, h30⟩ : ∃ y, FLv4 c 14 = y := ⟨_, rfl⟩
              have h30l := congrArg Int64.toInt h30
              have := l_rng x29
              refine hw_get (v := .long (x29)) (aX9_readLeb 35 rfl) wf_RX9_115 hc hsc (by decide) (congrArg Value.long (show FLv4 c 14 = x29 from h30)) ?_
              refine xw_iload (aX9_readLeb 36 rfl) rfl ?_
              refine hw_bp (v := (127 : Int32)) (aX9_readLeb 37 rfl) (by decide) ?_
              refine xw_iand (aX9_readLeb 38 rfl) ?_
              refine hw_tib (lo := 0) (hi := 127) (i_and (x := x22) (m := (127 : Int32)) (M := 127) (by decide) (by decide)) (fun x31 b32 => ?_)
              refine xw_i2l (aX9_readLeb 39 rfl) ?_
              refine hw_tle (A := (x31).toInt) (i_2l rfl) (fun x33 e34 => ?_)
              refine hw_bp (v := (7 : Int32)) (aX9_readLeb 40 rfl) (by decide) ?_
              refine xw_iload (aX9_readLeb 41 rfl) rfl ?_
              refine xw_imul (aX9_readLeb 42 rfl) ?_
              refine hw_tie (A := (7) * ((y4).toInt)) (i_mul (by decide : (7 : Int32).toInt = 7) rfl (by omega) (by omega)) (fun x35 e36 => ?_)
              refine xw_lshl (aX9_readLeb 43 rfl) ?_
              refine hw_tl (fun x37 => ?_)
              have b38 := l_rng x37
              refine xw_lor (aX9_readLeb 44 rfl) ?_
              refine hw_tl (fun x39 => ?_)
              have b40 := l_rng x39
              refine hv_putl (aX9_readLeb 45 rfl) wf_RX9_115 hc hsc (by decide) rfl rfl (fun FL41 u42 => ?_)
              refine xw_iload (aX9_readLeb 46 rfl) rfl ?_
              refine hw_sp (v := (128 : Int32)) (aX9_readLeb 47 rfl) (by decide) ?_
              refine hw_icge (tgt := 130) (aX9_readLeb 48 rfl) (by decide) rfl (by decide : (128 : Int32).toInt = 128) (fun cd43 => ?_) (fun cd43 => ?_)
              · obtain ⟨x44, q46⟩ : ∃ y : Int32, (y4) + Int32.ofInt (1) = y := ⟨_, rfl⟩
                have e45 : (x44).toInt = (y4).toInt + (1) := by rw [← q46]; exact i_add rfl (by decide) (by omega) (by omega)
                refine xw_iinc (L2 := [(4, .int (x44)), (5, .int (x22)), (0, .ref (base + c)), (1, .ref (base + a1)), (2, .int (a2)), (3, .int (a3))]) (aX9_readLeb 72 rfl) rfl (by decide) (by rw [q46]; rfl) ?_
                refine xw_goto (tgt := 8) (aX9_readLeb 73 rfl) (by decide) ?_
                exact hw_L (ih (x44) FI26 FL41 (gf_t fr5 u27 (shd_f (fix_t2 hS hR hc hsc (by unfold g_dt; omega) (by decide +kernel)) hsc) (by decide)) (gf_t fr6 u42 (shd_f (fix_t2 hS hR hc hsc (by unfold g_dt; omega) (by decide +kernel)) hsc) (by decide)) hI28 (by have := (e45 : (x44).toInt = (y4).toInt + (1)); omega) (by have := (e45 : (x44).toInt = (y4).toInt + (1)); omega)) ⟨rfl, rfl, rfl, rfl, rfl, trivial⟩
              · refine xw_iloadn (aX9_readLeb 49 rfl) rfl ?_
                refine hw_ifeq (tgt := 128) (aX9_readLeb 50 rfl) (by decide) rfl (fun cd47 => ?_) (fun cd47 => ?_)
                · refine hw_ic (v := (0 : Int32)) (aX9_readLeb 70 rfl) (by decide) ?_
                  refine xw_iret (aX9_readLeb 71 rfl) rfl rfl ?_
                  have e48 : ((0 : Int32)).toInt = 0 := (by decide : (0 : Int32).toInt = 0)
                  exact ⟨(0 : Int32), rfl, FI26, FL41, rfl, hI28, (gf_t fr5 u27 (shd_f (fix_t2 hS hR hc hsc (by unfold g_dt; omega) (by decide +kernel)) hsc) (by decide)), (gf_t fr6 u42 (shd_f (fix_t2 hS hR hc hsc (by unfold g_dt; omega) (by decide +kernel)) hsc) (by decide))⟩
                · refine xw_iload (aX9_readLeb 51 rfl) rfl ?_
                  refine hw_bp (v := (9 : Int32)) (aX9_readLeb 52 rfl) (by decide) ?_
                  refine hw_icge (tgt := 128) (aX9_readLeb 53 rfl) (by decide) rfl (by decide : (9 : Int32).toInt = 9) (fun cd49 => ?_) (fun cd49 => ?_)
                  · refine hw_ic (v := (0 : Int32)) (aX9_readLeb 70 rfl) (by decide) ?_
                    refine xw_iret (aX9_readLeb 71 rfl) rfl rfl ?_
                    have e50 : ((0 : Int32)).toInt = 0 := (by decide : (0 : Int32).toInt = 0)
                    exact ⟨(0 : Int32), rfl, FI26, FL41, rfl, hI28, (gf_t fr5 u27 (shd_f (fix_t2 hS hR hc hsc (by unfold g_dt; omega) (by decide +kernel)) hsc) (by decide)), (gf_t fr6 u42 (shd_f (fix_t2 hS hR hc hsc (by unfold g_dt; omega) (by decide +kernel)) hsc) (by decide))⟩
                  · refine xw_iload (aX9_readLeb 54 rfl) rfl ?_
                    refine hw_bp (v := (64 : Int32)) (aX9_readLeb 55 rfl) (by decide) ?_
                    refine xw_iand (aX9_readLeb 56 rfl) ?_
                    refine hw_tib (lo := 0) (hi := 64) (i_and (x := x22) (m := (64 : Int32)) (M := 64) (by decide) (by decide)) (fun x51 b52 => ?_)
                    refine hw_ifeq (tgt := 128) (aX9_readLeb 57 rfl) (by decide) rfl (fun cd53 => ?_) (fun cd53 => ?_)
                    · refine hw_ic (v := (0 : Int32)) (aX9_readLeb 70 rfl) (by decide) ?_
                      refine xw_iret (aX9_readLeb 71 rfl) rfl rfl ?_
                      have e54 : ((0 : Int32)).toInt = 0 := (by decide : (0 : Int32).toInt = 0)
                      exact ⟨(0 : Int32), rfl, FI26, FL41, rfl, hI28, (gf_t fr5 u27 (shd_f (fix_t2 hS hR hc hsc (by unfold g_dt; omega) (by decide +kernel)) hsc) (by decide)), (gf_t fr6 u42 (shd_f (fix_t2 hS hR hc hsc (by unfold g_dt; omega) (by decide +kernel)) hsc) (by decide))⟩
                    · refine hw_aloadn (aX9_readLeb 58 rfl) rfl ?_
                      refine xw_dup (aX9_readLeb 59 rfl) rfl ?_
                      refine hw_get (v := .long (x39)) (aX9_readLeb 60 rfl) wf_RX9_115 hc hsc (by decide) (congrArg Value.long (show FL41 c 14 = x39 from up_eq u42)) ?_
                      refine xw_ldc2 (aX9_readLeb 61 rfl) wk_RX9_125 ?_
                      refine hw_bp (v := (7 : Int32)) (aX9_readLeb 62 rfl) (by decide) ?_
                      refine xw_iload (aX9_readLeb 63 rfl) rfl ?_
                      refine xw_imul (aX9_readLeb 64 rfl) ?_
                      refine hw_tie (A := (7) * ((y4).toInt)) (i_mul (by decide : (7 : Int32).toInt = 7) rfl (by omega) (by omega)) (fun x55 e56 => ?_)
                      refine hw_bp (v := (7 : Int32)) (aX9_readLeb 65 rfl) (by decide) ?_
                      refine xw_iadd (aX9_readLeb 66 rfl) ?_
                      refine hw_tie (A := ((7) * ((y4).toInt)) + (7)) (i_add e56 (by decide : (7 : Int32).toInt = 7) (by omega) (by omega)) (fun x57 e58 => ?_)
                      refine xw_lshl (aX9_readLeb 67 rfl) ?_
                      refine hw_tl (fun x59 => ?_)
                      have b60 := l_rng x59
                      refine xw_lor (aX9_readLeb 68 rfl) ?_
                      refine hw_tl (fun x61 => ?_)
                      have b62 := l_rng x61
                      refine hv_putl (aX9_readLeb 69 rfl) wf_RX9_115 hc hsc (by decide) rfl rfl (fun FL63 u64 => ?_)
                      refine hw_ic (v := (0 : Int32)) (aX9_readLeb 70 rfl) (by decide) ?_
                      refine xw_iret (aX9_readLeb 71 rfl) rfl rfl ?_
                      have e65 : ((0 : Int32)).toInt = 0 := (by decide : (0 : Int32).toInt = 0)
                      exact ⟨(0 : Int32), rfl, FI26, FL63, rfl, hI28, (gf_t fr5 u27 (shd_f (fix_t2 hS hR hc hsc (by unfold g_dt; omega) (by decide +kernel)) hsc) (by decide)), (gf_t (gf_t fr6 u42 (shd_f (fix_t2 hS hR hc hsc (by unfold g_dt; omega) (by decide +kernel)) hsc) (by decide)) u64 (shd_f (fix_t2 hS hR hc hsc (by unfold g_dt; omega) (by decide +kernel)) hsc) (by decide))⟩
            · refine hw_ic (v := (1 : Int32)) (aX9_readLeb 20 rfl) (by decide) ?_
              refine xw_iret (aX9_readLeb 21 rfl) rfl rfl ?_
              have e66 : ((1 : Int32)).toInt = 1 := (by decide : (1 : Int32).toInt = 1)
              exact ⟨(1 : Int32), rfl, FIv3, FLv4, rfl, hI7, fr5, fr6⟩
  exact hw_L (lp9 ((10 - 0 : Int).toNat + 1) ((0 : Int32)) FI FL1 gf_rf (gf_t gf_rf u2 (shd_f (fix_t2 hS hR hc hsc (by unfold g_dt; omega) (by decide +kernel)) hsc) (by decide)) hI (by have := ((by decide : (0 : Int32).toInt = 0) : ((0 : Int32)).toInt = 0); omega) (by have := ((by decide : (0 : Int32).toInt = 0) : ((0 : Int32)).toInt = 0); omega)) ⟨rfl, rfl, rfl, rfl, rfl, trivial⟩
def nX1_bytes : Nat := 0xad090400a72e00b81d881f0f00b42a1000992a00b61d1f2a
theorem bX1_bytes : cX1_bytes.data.toList.map UInt8.toNat = x_un nX1_bytes 24 := by decide +kernel
def iX1_bytes : List (Nat × Jvm.ClassFile.Instr × Nat) := [(0, .aload_n 0, 1), (1, .lload_n 1, 1), (2, .iload_n 3, 1), (3, .invokevirtual 42, 3), (6, .ifCond .eq 16, 3), (9, .aload_n 0, 1), (10, .getfield 15, 3), (13, .lload_n 1, 1), (14, .l2i, 1), (15, .iload_n 3, 1), (16, .invokestatic 46, 3), (19, .goto 4, 3), (22, .lconst 0, 1), (23, .lreturn, 1)]
theorem dX1_bytes : x_il nX1_bytes 24 iX1_bytes = true := by decide +kernel
theorem aX1_bytes (k : Nat) {pc : Nat} {i : Jvm.ClassFile.Instr} {len : Nat} (hk : iX1_bytes[k]? = some (pc, i, len)) : x_at xMM 23 pc i len yX1_bytes 4 (some .long) := ⟨cX1_bytes, rfl, x_il_ok bX1_bytes dX1_bytes k hk⟩
set_option maxHeartbeats 4000000 in
set_option maxRecDepth 100000 in
theorem k_X1_bytes {sk : xK} {base d n sl : Nat} {SH : Nat → Nat × Nat} {FI : Nat → Nat → Int32} {FL : Nat → Nat → Int64} {FR : Nat → Nat → Option Nat} (hS : h_S n SH) (hF : h_FR FR) (hI : g_I FI) (hR : g_R n SH FR) (a1 : Int64) (a2 : Int32) (g0 : 0 ≤ (a2).toInt ∧ (a2).toInt ≤ 64) : hw sk base (d + 1) none 23 0 [(0, .ref (base + 23)), (1, .long (a1)), (3, .int (a2))] [] (n, sl, SH, FI, FL, FR) (h_J (fun r s => s = (n, sl, SH, FI, FL, FR))) := by
  have rg_a1 := l_rng a1
  have rg_a2 := i_rng a2
  refine hw_aloadn (aX1_bytes 0 rfl) rfl ?_
  refine xw_lloadn (aX1_bytes 1 rfl) rfl ?_
  refine xw_iloadn (aX1_bytes 2 rfl) rfl ?_
  refine hw_callV (Bs := [.long (a1), .int (a2)]) (rest := []) (aX1_bytes 3 rfl) wc_RX1_42 (by decide) rfl wi_yX1_hasBytes wv_yX1_hasBytes (c23 hS) (s23 hS) rfl rfl rfl (Nat.le_of_ble_eq_true rfl) (Nat.le_of_ble_eq_true rfl) (k_X1_hasBytes (d := d) hS hF hI hR (a1) (a2) (by omega)) (fun v1 sv2 p3 => ?_)
  obtain ⟨r4, rfl, rfl, t8, t9⟩ := p3
  show hw sk base _ _ _ _ _ [.int (r4)] _ _
  refine hw_ifeq (tgt := 22) (aX1_bytes 4 rfl) (by decide) rfl (fun cd12 => ?_) (fun cd12 => ?_)
  · clear t8
    refine hw_lc (v := (0 : Int64)) (aX1_bytes 12 rfl) (by decide) ?_
    refine xw_lret (aX1_bytes 13 rfl) rfl ?_
    have e13 : ((0 : Int64)).toInt = 0 := (by decide : (0 : Int64).toInt = 0)
    exact ⟨(0 : Int64), rfl, rfl⟩
  · replace t8 := t8 (by omega)
    refine hw_aloadn (aX1_bytes 5 rfl) rfl ?_
    refine hw_get (v := .ref (base + 25)) (aX1_bytes 6 rfl) wf_RX1_15 (c23 hS) (s23 hS) (by decide) (congrArg (fun r => va_rf (h_rf base r)) (r23_1 hF)) ?_
    refine xw_lloadn (aX1_bytes 7 rfl) rfl ?_
    refine xw_l2i (aX1_bytes 8 rfl) ?_
    refine hw_ti (fun x14 => ?_)
    have b15 := i_rng x14
    refine xw_iloadn (aX1_bytes 9 rfl) rfl ?_
    refine hw_callS (As := [.ref (base + 25), .int (x14), .int (a2)]) (rest := []) (aX1_bytes 10 rfl) wc_RX1_46 (by decide) rfl wt_yX11_number rfl rfl (Nat.le_of_ble_eq_true rfl) (Nat.le_of_ble_eq_true rfl) (k_X11_number (d := d) hS hF hI hR (25) (c25 hS) (s25 hS) (Or.inl (by decide)) (x14) (a2) ) (fun v16 sv17 p18 => ?_)
    obtain ⟨r19, rfl, rfl⟩ := p18
    have rg_r19 := l_rng r19
    show hw sk base _ _ _ _ _ [.long (r19)] _ _
    refine xw_goto (tgt := 23) (aX1_bytes 11 rfl) (by decide) ?_
    refine xw_lret (aX1_bytes 13 rfl) rfl ?_
    exact ⟨r19, rfl, rfl⟩
