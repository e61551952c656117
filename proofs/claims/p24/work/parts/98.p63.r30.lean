section
def nX12_meantPlace : Nat := 0xb15004161ca900b42a4f1d1ca600b42ab104009a1bc8ffa79002b560049002b42a2a0437610a04164f882f9002b42a7500b42a60880416681c4010af00b42a1a00991b3100a0062e9002b42a7200b42a3e074000a00506154600a70437a402b61b2a3e060f00a00406155800a79002b560049002b42a2a04372f9002b42a7500b42a3e051d009a06159002b560049002b42a2a0636882f9002b42a7500b42a8d00a73e049002b560049002b42a2a0437a402b61b2a9002b560049002b42a2a2300999d02b65b102a0437093e03
theorem bX12_meantPlace : cX12_meantPlace.data.toList.map UInt8.toNat = x_un nX12_meantPlace 205 := by decide +kernel
def iX12_meantPlace : List (Nat × Jvm.ClassFile.Instr × Nat) := [(0, .iconst 0, 1), (1, .istore_n 3, 1), (2, .lconst 0, 1), (3, .lstore 4, 2), (5, .aload_n 0, 1), (6, .bipush 91, 2), (8, .invokevirtual 669, 3), (11, .ifCond .eq 35, 3), (14, .aload_n 0, 1), (15, .aload_n 0, 1), (16, .getfield 656, 3), (19, .iconst 1, 1), (20, .iadd, 1), (21, .putfield 656, 3), (24, .aload_n 0, 1), (25, .iload_n 1, 1), (26, .invokevirtual 676, 3), (29, .lstore 4, 2), (31, .aload_n 0, 1), (32, .aload_n 0, 1), (33, .getfield 656, 3), (36, .iconst 1, 1), (37, .iadd, 1), (38, .putfield 656, 3), (41, .iconst 1, 1), (42, .istore_n 3, 1), (43, .goto 141, 3), (46, .aload_n 0, 1), (47, .getfield 117, 3), (50, .aload_n 0, 1), (51, .getfield 656, 3), (54, .laload, 1), (55, .l2i, 1), (56, .istore 6, 2), (58, .aload_n 0, 1), (59, .aload_n 0, 1), (60, .getfield 656, 3), (63, .iconst 1, 1), (64, .iadd, 1), (65, .putfield 656, 3), (68, .iload 6, 2), (70, .ifCond .ne 29, 3), (73, .iconst 2, 1), (74, .istore_n 3, 1), (75, .aload_n 0, 1), (76, .getfield 117, 3), (79, .aload_n 0, 1), (80, .getfield 656, 3), (83, .laload, 1), (84, .lstore 4, 2), (86, .aload_n 0, 1), (87, .aload_n 0, 1), (88, .getfield 656, 3), (91, .iconst 1, 1), (92, .iadd, 1), (93, .putfield 656, 3), (96, .goto 88, 3), (99, .iload 6, 2), (101, .iconst 1, 1), (102, .if_icmp .ne 15, 3), (105, .iconst 3, 1), (106, .istore_n 3, 1), (107, .aload_n 0, 1), (108, .iload_n 1, 1), (109, .invokevirtual 676, 3), (112, .lstore 4, 2), (114, .goto 70, 3), (117, .iload 6, 2), (119, .iconst 2, 1), (120, .if_icmp .ne 64, 3), (123, .iconst 4, 1), (124, .istore_n 3, 1), (125, .aload_n 0, 1), (126, .getfield 114, 3), (129, .aload_n 0, 1), (130, .getfield 656, 3), (133, .iaload, 1), (134, .iconst 3, 1), (135, .if_icmp .ne 49, 3), (138, .iload_n 1, 1), (139, .ifCond .eq 26, 3), (142, .aload_n 0, 1), (143, .getfield 175, 3), (146, .bipush 64, 2), (148, .iload_n 2, 1), (149, .imul, 1), (150, .lload 4, 2), (152, .l2i, 1), (153, .iadd, 1), (154, .aload_n 0, 1), (155, .getfield 117, 3), (158, .aload_n 0, 1), (159, .getfield 656, 3), (162, .laload, 1), (163, .l2i, 1), (164, .iastore, 1), (165, .lload 4, 2), (167, .lconst 1, 1), (168, .ladd, 1), (169, .lstore 4, 2), (171, .aload_n 0, 1), (172, .aload_n 0, 1), (173, .getfield 656, 3), (176, .iconst 1, 1), (177, .iadd, 1), (178, .putfield 656, 3), (181, .goto (-56), 3), (184, .iload_n 1, 1), (185, .ifCond .ne 4, 3), (188, .return_, 1), (189, .aload_n 0, 1), (190, .getfield 166, 3), (193, .iload_n 2, 1), (194, .iload_n 3, 1), (195, .iastore, 1), (196, .aload_n 0, 1), (197, .getfield 169, 3), (200, .iload_n 2, 1), (201, .lload 4, 2), (203, .lastore, 1), (204, .return_, 1)]
theorem dX12_meantPlace : x_il nX12_meantPlace 205 iX12_meantPlace = true := by decide +kernel
theorem aX12_meantPlace (k : Nat) {pc : Nat} {i : Jvm.ClassFile.Instr} {len : Nat} (hk : iX12_meantPlace[k]? = some (pc, i, len)) : x_at xMM 257 pc i len yX12_meantPlace 7 none := ⟨cX12_meantPlace, rfl, x_il_ok bX12_meantPlace dX12_meantPlace k hk⟩
set_option maxHeartbeats 4000000 in
set_option maxRecDepth 100000 in
theorem n_meantPlace {zk : xK} {base d n sl : Nat} {SH : Nat → Nat × Nat} {FI : Nat → Nat → Int32} {FL : Nat → Nat → Int64} {FR : Nat → Nat → Option Nat} (hS : h_S n SH) (hF : h_FR FR) (hI : g_I FI) (a1 : Int32) (a2 : Int32) (q : Nat) (g0 : 0 ≤ (a1).toInt ∧ (a1).toInt ≤ 1) (g1 : 0 ≤ (a2).toInt ∧ (a2).toInt ≤ 7) (gg0 : gr_pl (kf (FI 152)) (wf (FL 153)) (FI 121 92).toInt.toNat q) (gg1 : q ≤ 1000) (rel_kept : rl_t (FI 152) (FL 153)) (rel_hold : rl_h 2 (FI 136) (FL 137) (FI 138)) (rel_piece : rl_h 32 (FI 130) (FL 131) (FI 134)) (rel_back : rl_b (FI 139) (FI 140) (FI 141)) (rel_mean : rl_m (FI 169) (FL 170)) : hw zk base (d + 8) none 257 0 [(0, .ref (base + 121)), (1, .int (a1)), (2, .int (a2))] [] (n, sl, SH, FI, FL, FR) (h_V (fun s => ∃ FI' FL', s = (n, sl, SH, FI', FL', FR) ∧ g_I FI' ∧ g_fr n SH [(121, 29), (121, 30), (121, 31), (121, 32), (121, 33), (121, 34), (121, 37), (121, 38), (121, 90), (121, 91), (121, 92), (121, 93), (121, 101), (121, 104)] [128, 129, 130, 132, 133, 134, 135, 136, 138, 139, 140, 141, 142, 165, 166, 169, 172, 174, 175] [] FI FI' ∧ g_fr n SH [(121, 35), (121, 36), (121, 39)] [127, 131, 137, 170, 173] [] FL FL' ∧ ((FI' 121 92).toInt.toNat = q) ∧ (rl_h 2 (FI' 136) (FL' 137) (FI' 138)) ∧ (rl_h 32 (FI' 130) (FL' 131) (FI' 134)) ∧ (rl_b (FI' 139) (FI' 140) (FI' 141)) ∧ (rl_m (FI' 169) (FL' 170)))) := by
  have rg_a1 := i_rng a1
  have rg_a2 := i_rng a2
  obtain ⟨x1, h2⟩ : ∃ y, FI 121 92 = y := ⟨_, rfl⟩
  have h2l := congrArg Int32.toInt h2
  have b3 := gI_121_92 hI; rw [h2] at b3
  have hpq0 := gr_pl_lt gg0
  have e4 : 0 ≤ (x1).toInt ∧ (x1).toInt ≤ 999 := by omega
  refine hw_ic (v := (0 : Int32)) (aX12_meantPlace 0 rfl) (by decide) ?_
  refine xw_istoren (L2 := [(3, .int ((0 : Int32))), (0, .ref (base + 121)), (1, .int (a1)), (2, .int (a2))]) (aX12_meantPlace 1 rfl) (by decide) rfl ?_
  refine hw_lc (v := (0 : Int64)) (aX12_meantPlace 2 rfl) (by decide) ?_
  refine xw_lstore (L2 := [(4, .long ((0 : Int64))), (3, .int ((0 : Int32))), (0, .ref (base + 121)), (1, .int (a1)), (2, .int (a2))]) (aX12_meantPlace 3 rfl) (by decide) rfl ?_
  refine hw_aloadn (aX12_meantPlace 4 rfl) rfl ?_
  refine hw_bp (v := (91 : Int32)) (aX12_meantPlace 5 rfl) (by decide) ?_
  refine hw_callV (Bs := [.int ((91 : Int32))]) (rest := []) (aX12_meantPlace 6 rfl) wc_RX12_669 (by decide) rfl wi_yX12_keepsSign wv_yX12_keepsSign (c121 hS) (s121 hS) rfl rfl rfl (Nat.le_of_ble_eq_true rfl) (Nat.le_of_ble_eq_true rfl) (n_keepsSign (d := d + 7) hS hF hI ((91 : Int32)) ) (fun v5 sv6 p7 => ?_)
  obtain ⟨r8, rfl, rfl, t10, u11⟩ := p7
  show hw zk base _ _ _ _ _ [.int (r8)] _ _
  have j189 : ∀ (g159 : Int32) (g160 : Int64) (g164 : Int32) (FIj161 : Nat → Nat → Int32) (FLj166 : Nat → Nat → Int64), (0 ≤ (g159).toInt ∧ (g159).toInt ≤ 4) → (g_fr n SH [(121, 29), (121, 30), (121, 31), (121, 32), (121, 33), (121, 34), (121, 37), (121, 38), (121, 90), (121, 91), (121, 92), (121, 93), (121, 101), (121, 104)] [128, 129, 130, 132, 133, 134, 135, 136, 138, 139, 140, 141, 142, 165, 166, 169, 172, 174, 175] [] FI FIj161) → (g_I FIj161) → (FIj161 121 92 = g164) → (0 ≤ (g164).toInt ∧ (g164).toInt ≤ 1002) → (g_fr n SH [(121, 35), (121, 36), (121, 39)] [127, 131, 137, 170, 173] [] FL FLj166) → (FIj161 152 = FI 152) → (FLj166 153 = FL 153) → (rl_b (FIj161 139) (FIj161 140) (FIj161 141)) → (rl_h 2 (FIj161 136) (FLj166 137) (FIj161 138)) → (rl_t (FIj161 152) (FLj166 153)) → (rl_m (FIj161 169) (FLj166 170)) → (rl_h 32 (FIj161 130) (FLj166 131) (FIj161 134)) → ((g164).toInt = (q : Int)) → ((g159).toInt = 2 → 0 ≤ (g160).toInt ∧ (g160).toInt ≤ 31) → ((g159).toInt = 4 → 0 ≤ (g160).toInt ∧ (g160).toInt ≤ 64) → hw zk base (d + 8) none 257 184 [(0, .ref (base + 121)), (1, .int (a1)), (2, .int (a2)), (3, .int (g159)), (4, .long (g160))] [] (n, sl, SH, FIj161, FLj166, FR) (h_V (fun s => ∃ FI' FL', s = (n, sl, SH, FI', FL', FR) ∧ g_I FI' ∧ g_fr n SH [(121, 29), (121, 30), (121, 31), (121, 32), (121, 33), (121, 34), (121, 37), (121, 38), (121, 90), (121, 91), (121, 92), (121, 93), (121, 101), (121, 104)] [128, 129, 130, 132, 133, 134, 135, 136, 138, 139, 140, 141, 142, 165, 166, 169, 172, 174, 175] [] FI FI' ∧ g_fr n SH [(121, 35), (121, 36), (121, 39)] [127, 131, 137, 170, 173] [] FL FL' ∧ ((FI' 121 92).toInt.toNat = q) ∧ (rl_h 2 (FI' 136) (FL' 137) (FI' 138)) ∧ (rl_h 32 (FI' 130) (FL' 131) (FI' 134)) ∧ (rl_b (FI' 139) (FI' 140) (FI' 141)) ∧ (rl_m (FI' 169) (FL' 170)))) := by
    intro g159 g160 g164 FIj161 FLj166 q190 fr162 hI163 kp165 q191 fr167 rw168 rw169 rl170 rl171 rl172 rl173 rl174 fc184_0 fc184_1 fc184_2
    have rg_g159 := i_rng g159
    have rg_g160 := l_rng g160
    have rg_g164 := i_rng g164
    have := congrArg Int32.toInt kp165
    refine xw_iloadn (aX12_meantPlace 107 rfl) rfl ?_
    refine hw_ifne (tgt := 189) (aX12_meantPlace 108 rfl) (by decide) rfl (fun cd192 => ?_) (fun cd192 => ?_)
    · refine hw_aloadn (aX12_meantPlace 110 rfl) rfl ?_
      refine hw_get (v := .ref (base + 169)) (aX12_meantPlace 111 rfl) wf_RX12_166 (c121 hS) (s121 hS) (by decide) (congrArg (fun r => va_rf (h_rf base r)) (r121_96 hF)) ?_
      refine xw_iloadn (aX12_meantPlace 112 rfl) rfl ?_
      refine xw_iloadn (aX12_meantPlace 113 rfl) rfl ?_
      refine hv_iast (k := (a2).toNatClampNeg) (aX12_meantPlace 114 rfl) (c169 hS) (s169 hS) (h_in rfl (by omega) (by omega)) rfl (fun FI193 u194 => ?_)
      have rl195 : rl_b (FI193 139) (FI193 140) (FI193 141) := by rw [show FI193 139 = FIj161 139 from up_row u194 (by decide) rfl, show FI193 140 = FIj161 140 from up_row u194 (by decide) rfl, show FI193 141 = FIj161 141 from up_row u194 (by decide) rfl]; exact rl170
      have rl196 : rl_h 2 (FI193 136) (FLj166 137) (FI193 138) := by rw [show FI193 136 = FIj161 136 from up_row u194 (by decide) rfl, show FI193 138 = FIj161 138 from up_row u194 (by decide) rfl]; exact rl171
      have rl197 : rl_t (FI193 152) (FLj166 153) := by rw [show FI193 152 = FIj161 152 from up_row u194 (by decide) rfl]; exact rl172
      have rl198 : rl_h 32 (FI193 130) (FLj166 131) (FI193 134) := by rw [show FI193 130 = FIj161 130 from up_row u194 (by decide) rfl, show FI193 134 = FIj161 134 from up_row u194 (by decide) rfl]; exact rl174
      have hI199 : g_I FI193 := gU_F hI163 u194 rfl
      refine hw_aloadn (aX12_meantPlace 115 rfl) rfl ?_
      refine hw_get (v := .ref (base + 170)) (aX12_meantPlace 116 rfl) wf_RX12_169 (c121 hS) (s121 hS) (by decide) (congrArg (fun r => va_rf (h_rf base r)) (r121_97 hF)) ?_
      refine xw_iloadn (aX12_meantPlace 117 rfl) rfl ?_
      refine xw_lload (aX12_meantPlace 118 rfl) rfl ?_
      refine hv_last (k := (a2).toNatClampNeg) (aX12_meantPlace 119 rfl) (c170 hS) (s170 hS) (h_in rfl (by omega) (by omega)) rfl (fun FL200 u201 => ?_)
      have rl202 : rl_h 2 (FI193 136) (FL200 137) (FI193 138) := by rw [show FL200 137 = FLj166 137 from up_row u201 (by decide) rfl]; exact rl196
      have rl203 : rl_t (FI193 152) (FL200 153) := by rw [show FL200 153 = FLj166 153 from up_row u201 (by decide) rfl]; exact rl197
      have rl204 : rl_h 32 (FI193 130) (FL200 131) (FI193 134) := by rw [show FL200 131 = FLj166 131 from up_row u201 (by decide) rfl]; exact rl198
      have rl205 : rl_m (FI193 169) (FL200 170) := by rw [show FI193 169 = va_up (FIj161 169) ((a2).toNatClampNeg) (g159) from (up_va u194 (rfl)), show FL200 170 = va_up (FLj166 170) ((a2).toNatClampNeg) (g160) from (up_va u201 (rfl))]; exact rl_m_up rl173 (by omega) (by omega)
      refine xw_vret (aX12_meantPlace 120 rfl) rfl ?_
      exact ⟨rfl, FI193, FL200, rfl, hI199, (gf_a fr162 u194 (by decide)), (gf_a fr167 u201 (by decide)), (by have := congrArg Int32.toInt (show FI193 121 92 = g164 from (up_c u194 (by decide) (kp165))); omega), (show rl_h 2 (FI193 136) (FL200 137) (FI193 138) from rl202), (show rl_h 32 (FI193 130) (FL200 131) (FI193 134) from rl204), (show rl_b (FI193 139) (FI193 140) (FI193 141) from rl195), (show rl_m (FI193 169) (FL200 170) from rl205)⟩
    · refine xw_vret (aX12_meantPlace 109 rfl) rfl ?_
      exact ⟨rfl, FIj161, FLj166, rfl, hI163, fr162, fr167, (by have := congrArg Int32.toInt (show FIj161 121 92 = g164 from kp165); omega), (show rl_h 2 (FIj161 136) (FLj166 137) (FIj161 138) from rl171), (show rl_h 32 (FIj161 130) (FLj166 131) (FIj161 134) from rl174), (show rl_b (FIj161 139) (FIj161 140) (FIj161 141) from rl170), (show rl_m (FIj161 169) (FLj166 170) from rl173)⟩
  refine hw_ifeq (tgt := 46) (aX12_meantPlace 7 rfl) (by decide) rfl (fun cd206 => ?_) (fun cd206 => ?_)
  · have hnb : ¬ gr_br (kf (FI 152)) (wf (FL 153)) (FI 121 92).toInt.toNat := fun h => by have := u11.mpr (by rw [show ((91 : Int32)).toInt = (91 : Int) from by decide]; exact h); omega
    have hw03 : 0 ≤ wf (FL 153) (FI 121 92).toInt.toNat ∧ wf (FL 153) (FI 121 92).toInt.toNat ≤ 3 := by rcases gg0 with ⟨h, -⟩ | ⟨-, h, -⟩ | ⟨-, h, -⟩ | ⟨-, h, -⟩ | ⟨-, h, -⟩; { exact absurd h hnb }; { omega }; { omega }; { omega }; { omega }
    refine hw_aloadn (aX12_meantPlace 27 rfl) rfl ?_
    refine hw_get (v := .ref (base + 153)) (aX12_meantPlace 28 rfl) wf_RX12_117 (c121 hS) (s121 hS) (by decide) (congrArg (fun r => va_rf (h_rf base r)) (r121_66 hF)) ?_
    refine hw_aloadn (aX12_meantPlace 29 rfl) rfl ?_
    refine hw_get (v := .int (x1)) (aX12_meantPlace 30 rfl) wf_RX12_656 (c121 hS) (s121 hS) (by decide) (congrArg Value.int (show FI 121 92 = x1 from h2)) ?_
    obtain ⟨x207, h208⟩ : ∃ y, FL 153 (x1).toNatClampNeg = y := ⟨_, rfl⟩
    have h208l := congrArg Int64.toInt h208
    have := l_rng x207
    refine hw_lald (v := x207) (aX12_meantPlace 31 rfl) (c153 hS) (s153 hS) (h_in rfl (by omega) (by omega)) (show FL 153 (x1).toNatClampNeg = x207 from h208) ?_
    have ee1 : (FI 121 92).toInt.toNat = (x1).toNatClampNeg := (i_cl (congrArg Int32.toInt (h2)).symm).symm
    have hw1 : wf (FL 153) (FI 121 92).toInt.toNat = (x207).toInt := by unfold wf; rw [ee1, show FL 153 (x1).toNatClampNeg = x207 from h208]
    refine xw_l2i (aX12_meantPlace 32 rfl) ?_
    refine hw_tie (A := (x207).toInt) (l_2i rfl (by omega) (by omega)) (fun x209 e210 => ?_)
    refine xw_istore (L2 := [(6, .int (x209)), (4, .long ((0 : Int64))), (3, .int ((0 : Int32))), (0, .ref (base + 121)), (1, .int (a1)), (2, .int (a2))]) (aX12_meantPlace 33 rfl) (by decide) rfl ?_
    refine hw_aloadn (aX12_meantPlace 34 rfl) rfl ?_
    refine hw_aloadn (aX12_meantPlace 35 rfl) rfl ?_
    refine hw_get (v := .int (x1)) (aX12_meantPlace 36 rfl) wf_RX12_656 (c121 hS) (s121 hS) (by decide) (congrArg Value.int (show FI 121 92 = x1 from h2)) ?_
    refine hw_ic (v := (1 : Int32)) (aX12_meantPlace 37 rfl) (by decide) ?_
    refine xw_iadd (aX12_meantPlace 38 rfl) ?_
    refine hw_tie (A := ((x1).toInt) + (1)) (i_add rfl (by decide : (1 : Int32).toInt = 1) (by omega) (by omega)) (fun x211 e212 => ?_)
    refine hv_puti (aX12_meantPlace 39 rfl) wf_RX12_656 (c121 hS) (s121 hS) (by decide) rfl rfl (fun FI213 u214 => ?_)
    have rl215 : rl_t (FI213 152) (FL 153) := by rw [show FI213 152 = FI 152 from up_row u214 (by decide) rfl]; exact rel_kept
    have rl216 : rl_h 2 (FI213 136) (FL 137) (FI213 138) := by rw [show FI213 136 = FI 136 from up_row u214 (by decide) rfl, show FI213 138 = FI 138 from up_row u214 (by decide) rfl]; exact rel_hold
    have rl217 : rl_h 32 (FI213 130) (FL 131) (FI213 134) := by rw [show FI213 130 = FI 130 from up_row u214 (by decide) rfl, show FI213 134 = FI 134 from up_row u214 (by decide) rfl]; exact rel_piece
    have rl218 : rl_b (FI213 139) (FI213 140) (FI213 141) := by rw [show FI213 139 = FI 139 from up_row u214 (by decide) rfl, show FI213 140 = FI 140 from up_row u214 (by decide) rfl, show FI213 141 = FI 141 from up_row u214 (by decide) rfl]; exact rel_back
    have rl219 : rl_m (FI213 169) (FL 170) := by rw [show FI213 169 = FI 169 from up_row u214 (by decide) rfl]; exact rel_mean
    have hI220 : g_I FI213 := gU_121_92 hI u214 (by have := (e212 : (x211).toInt = ((x1).toInt) + (1)); omega) (by have := (e212 : (x211).toInt = ((x1).toInt) + (1)); omega)
    refine xw_iload (aX12_meantPlace 40 rfl) rfl ?_
    refine hw_ifne (tgt := 99) (aX12_meantPlace 41 rfl) (by decide) e210 (fun cd221 => ?_) (fun cd221 => ?_)
    · refine xw_iload (aX12_meantPlace 57 rfl) rfl ?_
      refine hw_ic (v := (1 : Int32)) (aX12_meantPlace 58 rfl) (by decide) ?_
      refine hw_icne (tgt := 117) (aX12_meantPlace 59 rfl) (by decide) e210 (by decide : (1 : Int32).toInt = 1) (fun cd222 => ?_) (fun cd222 => ?_)
      · have h3q : wf (FL 153) (FI 121 92).toInt.toNat = 3 → q = (FI 121 92).toInt.toNat + 1 := by intro hw; rcases gg0 with ⟨h, -⟩ | ⟨-, h, h2⟩ | ⟨-, h, h2⟩ | ⟨-, h, h2⟩ | ⟨-, h, h2⟩; { exact absurd h hnb }; { omega }; { omega }; { omega }; { exact h2 }
        refine xw_iload (aX12_meantPlace 67 rfl) rfl ?_
        refine hw_ic (v := (2 : Int32)) (aX12_meantPlace 68 rfl) (by decide) ?_
        refine hw_icne (tgt := 184) (aX12_meantPlace 69 rfl) (by decide) e210 (by decide : (2 : Int32).toInt = 2) (fun cd223 => ?_) (fun cd223 => ?_)
        · exact hw_L (j189 ((0 : Int32)) ((0 : Int64)) (x211) FI213 FL (by have := ((by decide : (0 : Int32).toInt = 0) : ((0 : Int32)).toInt = 0); show 0 ≤ ((0 : Int32)).toInt ∧ ((0 : Int32)).toInt ≤ 4; omega) (gf_f gf_rf u214 (by decide)) hI220 (show FI213 121 92 = x211 from up_eq u214) (by have := (e212 : (x211).toInt = ((x1).toInt) + (1)); show 0 ≤ (x211).toInt ∧ (x211).toInt ≤ 1002; omega) gf_rf (show FI213 152 = FI 152 from (up_row u214 (by decide) (rfl))) (show FL 153 = FL 153 from rfl) (show rl_b (FI213 139) (FI213 140) (FI213 141) from rl218) (show rl_h 2 (FI213 136) (FL 137) (FI213 138) from rl216) (show rl_t (FI213 152) (FL 153) from rl215) (show rl_m (FI213 169) (FL 170) from rl219) (show rl_h 32 (FI213 130) (FL 131) (FI213 134) from rl217) (by have := (e212 : (x211).toInt = ((x1).toInt) + (1)); show (x211).toInt = (q : Int); omega) (by have := ((by decide : (0 : Int32).toInt = 0) : ((0 : Int32)).toInt = 0); have := ((by decide : (0 : Int64).toInt = 0) : ((0 : Int64)).toInt = 0); have := ((by decide : (0 : Int64).toInt = 0) : ((0 : Int64)).toInt = 0); show 0 = 2 → 0 ≤ 0 ∧ 0 ≤ 31; omega) (by have := ((by decide : (0 : Int32).toInt = 0) : ((0 : Int32)).toInt = 0); have := ((by decide : (0 : Int64).toInt = 0) : ((0 : Int64)).toInt = 0); have := ((by decide : (0 : Int64).toInt = 0) : ((0 : Int64)).toInt = 0); show 0 = 4 → 0 ≤ 0 ∧ 0 ≤ 64; omega)) ⟨rfl, rfl, rfl, rfl, rfl, trivial⟩
        · have h2 : (FI 121 92).toInt.toNat + 1 ≤ q ∧ (∀ i, (FI 121 92).toInt.toNat < i → i < q → kf (FI 152) i = 3) ∧ kf (FI 152) q ≠ 3 ∧ q ≤ (FI 121 92).toInt.toNat + 65 := by rcases gg0 with ⟨h, -⟩ | ⟨-, h, h2⟩ | ⟨-, h, h2⟩ | ⟨-, h, h2⟩ | ⟨-, h, h2⟩; { exact absurd h hnb }; { omega }; { omega }; { exact h2 }; { omega }
          refine hw_ic (v := (4 : Int32)) (aX12_meantPlace 70 rfl) (by decide) ?_
          refine xw_istoren (L2 := [(3, .int ((4 : Int32))), (6, .int (x209)), (4, .long ((0 : Int64))), (0, .ref (base + 121)), (1, .int (a1)), (2, .int (a2))]) (aX12_meantPlace 71 rfl) (by decide) rfl ?_
          have lp236 : ∀ (m : Nat) (y4 : Int64) (FIv224 : Nat → Nat → Int32), (g_fr n SH [(121, 29), (121, 30), (121, 31), (121, 32), (121, 33), (121, 34), (121, 37), (121, 38), (121, 90), (121, 91), (121, 92), (121, 93), (121, 101), (121, 104)] [128, 129, 130, 132, 133, 134, 135, 136, 138, 139, 140, 141, 142, 165, 166, 169, 172, 174, 175] [] FI FIv224) → (g_I FIv224) → (rl_t (FIv224 152) (FL 153)) → (rl_h 2 (FIv224 136) (FL 137) (FIv224 138)) → (rl_h 32 (FIv224 130) (FL 131) (FIv224 134)) → (rl_b (FIv224 139) (FIv224 140) (FIv224 141)) → (rl_m (FIv224 169) (FL 170)) → (0 ≤ (y4).toInt ∧ (y4).toInt ≤ 64) → ((FIv224 121 92).toInt = (FI 121 92).toInt + 1 + (y4).toInt) → ((FIv224 121 92).toInt ≤ (q : Int)) → (FIv224 152 = FI 152) → 1001 - (FIv224 121 92).toInt < m → hw zk base (d + 8) none 257 125 [(3, .int ((4 : Int32))), (4, .long (y4)), (0, .ref (base + 121)), (1, .int (a1)), (2, .int (a2))] [] (n, sl, SH, FIv224, FL, FR) (h_V (fun s => ∃ FI' FL', s = (n, sl, SH, FI', FL', FR) ∧ g_I FI' ∧ g_fr n SH [(121, 29), (121, 30), (121, 31), (121, 32), (121, 33), (121, 34), (121, 37), (121, 38), (121, 90), (121, 91), (121, 92), (121, 93), (121, 101), (121, 104)] [128, 129, 130, 132, 133, 134, 135, 136, 138, 139, 140, 141, 142, 165, 166, 169, 172, 174, 175] [] FI FI' ∧ g_fr n SH [(121, 35), (121, 36), (121, 39)] [127, 131, 137, 170, 173] [] FL FL' ∧ ((FI' 121 92).toInt.toNat = q) ∧ (rl_h 2 (FI' 136) (FL' 137) (FI' 138)) ∧ (rl_h 32 (FI' 130) (FL' 131) (FI' 134)) ∧ (rl_b (FI' 139) (FI' 140) (FI' 141)) ∧ (rl_m (FI' 169) (FL' 170)))) := by
            intro m
            induction m with
            | zero => intro y4 FIv224 fr225 hI226 rl227 rl228 rl229 rl230 rl231 iv232 iv233 iv234 rw235 hm; omega
            | succ m ih =>
              intro y4 FIv224 fr225 hI226 rl227 rl228 rl229 rl230 rl231 iv232 iv233 iv234 rw235 hm
              have rg_y4 := l_rng y4
              obtain ⟨x237, h238⟩ : ∃ y, FIv224 121 92 = y := ⟨_, rfl⟩
              have h238l := congrArg Int32.toInt h238
              have b239 := gI_121_92 hI226; rw [h238] at b239
              refine hw_aloadn (aX12_meantPlace 72 rfl) rfl ?_
              refine hw_get (v := .ref (base + 152)) (aX12_meantPlace 73 rfl) wf_RX12_114 (c121 hS) (s121 hS) (by decide) (congrArg (fun r => va_rf (h_rf base r)) (r121_65 hF)) ?_
              refine hw_aloadn (aX12_meantPlace 74 rfl) rfl ?_
              refine hw_get (v := .int (x237)) (aX12_meantPlace 75 rfl) wf_RX12_656 (c121 hS) (s121 hS) (by decide) (congrArg Value.int (show FIv224 121 92 = x237 from h238)) ?_
              obtain ⟨x240, h241⟩ : ∃ y, FIv224 152 (x237).toNatClampNeg = y := ⟨_, rfl⟩
              have h241l := congrArg Int32.toInt h241
              have := i_rng x240
              refine hw_iald (v := x240) (aX12_meantPlace 76 rfl) (c152 hS) (s152 hS) (h_in rfl (by omega) (by omega)) (show FIv224 152 (x237).toNatClampNeg = x240 from h241) ?_
              have hkk : kf (FI 152) (x237).toInt.toNat = (x240).toInt := by unfold kf; rw [← i_cl (x := x237) rfl, ← (show FIv224 152 = FI 152 from rw235), show FIv224 152 (x237).toNatClampNeg = x240 from h241]
              have hup : ¬ (x240).toInt = 3 → (x237).toInt = (q : Int) := fun h => by rcases Int.lt_or_le (x237).toInt (q : Int) with h9 | h9; { exact absurd (hkk.symm.trans (h2.2.1 _ (by omega) (by omega))) h }; { omega }
              have hdn : (x240).toInt = 3 → (x237).toInt < (q : Int) := fun h => by rcases Int.lt_or_le (x237).toInt (q : Int) with h9 | h9; { exact h9 }; { exfalso; exact h2.2.2.1 (by rw [show q = (x237).toInt.toNat by omega, hkk]; exact h) }
              refine hw_ic (v := (3 : Int32)) (aX12_meantPlace 77 rfl) (by decide) ?_
              refine hw_icne (tgt := 184) (aX12_meantPlace 78 rfl) (by decide) rfl (by decide : (3 : Int32).toInt = 3) (fun cd242 => ?_) (fun cd242 => ?_)
              · exact hw_L (j189 ((4 : Int32)) (y4) (x237) FIv224 FL (by have := ((by decide : (4 : Int32).toInt = 4) : ((4 : Int32)).toInt = 4); show 0 ≤ ((4 : Int32)).toInt ∧ ((4 : Int32)).toInt ≤ 4; omega) fr225 hI226 (show FIv224 121 92 = x237 from h238) (by show 0 ≤ (x237).toInt ∧ (x237).toInt ≤ 1002; omega) gf_rf (show FIv224 152 = FI 152 from rw235) (show FL 153 = FL 153 from rfl) (show rl_b (FIv224 139) (FIv224 140) (FIv224 141) from rl230) (show rl_h 2 (FIv224 136) (FL 137) (FIv224 138) from rl228) (show rl_t (FIv224 152) (FL 153) from rl227) (show rl_m (FIv224 169) (FL 170) from rl231) (show rl_h 32 (FIv224 130) (FL 131) (FIv224 134) from rl229) (by show (x237).toInt = (q : Int); omega) (by have := ((by decide : (4 : Int32).toInt = 4) : ((4 : Int32)).toInt = 4); show 4 = 2 → 0 ≤ (y4).toInt ∧ (y4).toInt ≤ 31; omega) (by have := ((by decide : (4 : Int32).toInt = 4) : ((4 : Int32)).toInt = 4); show 4 = 4 → 0 ≤ (y4).toInt ∧ (y4).toInt ≤ 64; omega)) ⟨rfl, rfl, rfl, rfl, rfl, trivial⟩
              · have hdn2 := hdn (by omega); clear hup hdn
                refine xw_iloadn (aX12_meantPlace 79 rfl) rfl ?_
                have j285 : ∀  (FIj262 : Nat → Nat → Int32), (g_fr n SH [(121, 29), (121, 30), (121, 31), (121, 32), (121, 33), (121, 34), (121, 37), (121, 38), (121, 90), (121, 91), (121, 92), (121, 93), (121, 101), (121, 104)] [128, 129, 130, 132, 133, 134, 135, 136, 138, 139, 140, 141, 142, 165, 166, 169, 172, 174, 175] [] FI FIj262) → (g_I FIj262) → (FIj262 121 92 = x237) → (FIj262 152 (x237).toNatClampNeg = x240) → (FIj262 152 = FI 152) → (rl_b (FIj262 139) (FIj262 140) (FIj262 141)) → (rl_h 2 (FIj262 136) (FL 137) (FIj262 138)) → (rl_t (FIj262 152) (FL 153)) → (rl_m (FIj262 169) (FL 170)) → (rl_h 32 (FIj262 130) (FL 131) (FIj262 134)) → hw zk base (d + 8) none 257 165 [(0, .ref (base + 121)), (1, .int (a1)), (2, .int (a2)), (3, .int ((4 : Int32))), (4, .long (y4))] [] (n, sl, SH, FIj262, FL, FR) (h_V (fun s => ∃ FI' FL', s = (n, sl, SH, FI', FL', FR) ∧ g_I FI' ∧ g_fr n SH [(121, 29), (121, 30), (121, 31), (121, 32), (121, 33), (121, 34), (121, 37), (121, 38), (121, 90), (121, 91), (121, 92), (121, 93), (121, 101), (121, 104)] [128, 129, 130, 132, 133, 134, 135, 136, 138, 139, 140, 141, 142, 165, 166, 169, 172, 174, 175] [] FI FI' ∧ g_fr n SH [(121, 35), (121, 36), (121, 39)] [127, 131, 137, 170, 173] [] FL FL' ∧ ((FI' 121 92).toInt.toNat = q) ∧ (rl_h 2 (FI' 136) (FL' 137) (FI' 138)) ∧ (rl_h 32 (FI' 130) (FL' 131) (FI' 134)) ∧ (rl_b (FI' 139) (FI' 140) (FI' 141)) ∧ (rl_m (FI' 169) (FL' 170)))) := by
                  intro FIj262 fr263 hI264 kp265 kp266 rw267 rl268 rl269 rl270 rl271 rl272
                  have := congrArg Int32.toInt kp265
                  have := congrArg Int32.toInt kp266
                  refine xw_lload (aX12_meantPlace 96 rfl) rfl ?_
                  refine hw_lc (v := (1 : Int64)) (aX12_meantPlace 97 rfl) (by decide) ?_
                  refine xw_ladd (aX12_meantPlace 98 rfl) ?_
                  refine hw_tle (A := ((y4).toInt) + (1)) (l_add rfl (by decide : (1 : Int64).toInt = 1) (by omega) (by omega)) (fun x286 e287 => ?_)
                  refine xw_lstore (L2 := [(4, .long (x286)), (0, .ref (base + 121)), (1, .int (a1)), (2, .int (a2)), (3, .int ((4 : Int32)))]) (aX12_meantPlace 99 rfl) (by decide) rfl ?_
                  refine hw_aloadn (aX12_meantPlace 100 rfl) rfl ?_
                  refine hw_aloadn (aX12_meantPlace 101 rfl) rfl ?_
                  refine hw_get (v := .int (x237)) (aX12_meantPlace 102 rfl) wf_RX12_656 (c121 hS) (s121 hS) (by decide) (congrArg Value.int (show FIj262 121 92 = x237 from kp265)) ?_
                  refine hw_ic (v := (1 : Int32)) (aX12_meantPlace 103 rfl) (by decide) ?_
                  refine xw_iadd (aX12_meantPlace 104 rfl) ?_
                  refine hw_tie (A := ((x237).toInt) + (1)) (i_add rfl (by decide : (1 : Int32).toInt = 1) (by omega) (by omega)) (fun x288 e289 => ?_)
                  refine hv_puti (aX12_meantPlace 105 rfl) wf_RX12_656 (c121 hS) (s121 hS) (by decide) rfl rfl (fun FI290 u291 => ?_)
                  have rl292 : rl_b (FI290 139) (FI290 140) (FI290 141) := by rw [show FI290 139 = FIj262 139 from up_row u291 (by decide) rfl, show FI290 140 = FIj262 140 from up_row u291 (by decide) rfl, show FI290 141 = FIj262 141 from up_row u291 (by decide) rfl]; exact rl268
                  have rl293 : rl_h 2 (FI290 136) (FL 137) (FI290 138) := by rw [show FI290 136 = FIj262 136 from up_row u291 (by decide) rfl, show FI290 138 = FIj262 138 from up_row u291 (by decide) rfl]; exact rl269
                  have rl294 : rl_t (FI290 152) (FL 153) := by rw [show FI290 152 = FIj262 152 from up_row u291 (by decide) rfl]; exact rl270
                  have rl295 : rl_m (FI290 169) (FL 170) := by rw [show FI290 169 = FIj262 169 from up_row u291 (by decide) rfl]; exact rl271
                  have rl296 : rl_h 32 (FI290 130) (FL 131) (FI290 134) := by rw [show FI290 130 = FIj262 130 from up_row u291 (by decide) rfl, show FI290 134 = FIj262 134 from up_row u291 (by decide) rfl]; exact rl272
                  have hI297 : g_I FI290 := gU_121_92 hI264 u291 (by have := (e289 : (x288).toInt = ((x237).toInt) + (1)); omega) (by have := (e289 : (x288).toInt = ((x237).toInt) + (1)); omega)
                  refine xw_goto (tgt := 125) (aX12_meantPlace 106 rfl) (by decide) ?_
                  exact hw_L (ih (x286) FI290 (gf_f fr263 u291 (by decide)) hI297 (show rl_t (FI290 152) (FL 153) from rl294) (show rl_h 2 (FI290 136) (FL 137) (FI290 138) from rl293) (show rl_h 32 (FI290 130) (FL 131) (FI290 134) from rl296) (show rl_b (FI290 139) (FI290 140) (FI290 141) from rl292) (show rl_m (FI290 169) (FL 170) from rl295) (by have := (e287 : (x286).toInt = ((y4).toInt) + (1)); omega) (by have := (e287 : (x286).toInt = ((y4).toInt) + (1)); have := congrArg Int32.toInt (show FI290 121 92 = x288 from up_eq u291); have := (e289 : (x288).toInt = ((x237).toInt) + (1)); omega) (by have := (e287 : (x286).toInt = ((y4).toInt) + (1)); have := congrArg Int32.toInt (show FI290 121 92 = x288 from up_eq u291); have := (e289 : (x288).toInt = ((x237).toInt) + (1)); omega) (show FI290 152 = FI 152 from (up_row u291 (by decide) (rw267))) (by have := (e287 : (x286).toInt = ((y4).toInt) + (1)); have := congrArg Int32.toInt (show FI290 121 92 = x288 from up_eq u291); have := (e289 : (x288).toInt = ((x237).toInt) + (1)); omega)) ⟨rfl, rfl, rfl, rfl, rfl, trivial⟩
                refine hw_ifeq (tgt := 165) (aX12_meantPlace 80 rfl) (by decide) rfl (fun cd298 => ?_) (fun cd298 => ?_)
                · exact hw_L (j285 FIv224 fr225 hI226 (show FIv224 121 92 = x237 from h238) (show FIv224 152 (x237).toNatClampNeg = x240 from h241) (show FIv224 152 = FI 152 from rw235) (show rl_b (FIv224 139) (FIv224 140) (FIv224 141) from rl230) (show rl_h 2 (FIv224 136) (FL 137) (FIv224 138) from rl228) (show rl_t (FIv224 152) (FL 153) from rl227) (show rl_m (FIv224 169) (FL 170) from rl231) (show rl_h 32 (FIv224 130) (FL 131) (FIv224 134) from rl229)) ⟨rfl, rfl, rfl, rfl, rfl, trivial⟩
                · refine hw_aloadn (aX12_meantPlace 81 rfl) rfl ?_
                  refine hw_get (v := .ref (base + 172)) (aX12_meantPlace 82 rfl) wf_RX12_175 (c121 hS) (s121 hS) (by decide) (congrArg (fun r => va_rf (h_rf base r)) (r121_99 hF)) ?_
                  refine hw_bp (v := (64 : Int32)) (aX12_meantPlace 83 rfl) (by decide) ?_
                  refine xw_iloadn (aX12_meantPlace 84 rfl) rfl ?_
                  refine xw_imul (aX12_meantPlace 85 rfl) ?_
                  refine hw_tie (A := (64) * ((a2).toInt)) (i_mul (by decide : (64 : Int32).toInt = 64) rfl (by omega) (by omega)) (fun x299 e300 => ?_)
                  refine xw_lload (aX12_meantPlace 86 rfl) rfl ?_
                  refine xw_l2i (aX12_meantPlace 87 rfl) ?_
                  refine hw_tie (A := (y4).toInt) (l_2i rfl (by omega) (by omega)) (fun x301 e302 => ?_)
                  refine xw_iadd (aX12_meantPlace 88 rfl) ?_
                  refine hw_tie (A := ((64) * ((a2).toInt)) + ((y4).toInt)) (i_add e300 e302 (by omega) (by omega)) (fun x303 e304 => ?_)
                  refine hw_aloadn (aX12_meantPlace 89 rfl) rfl ?_
                  refine hw_get (v := .ref (base + 153)) (aX12_meantPlace 90 rfl) wf_RX12_117 (c121 hS) (s121 hS) (by decide) (congrArg (fun r => va_rf (h_rf base r)) (r121_66 hF)) ?_
                  refine hw_aloadn (aX12_meantPlace 91 rfl) rfl ?_
                  refine hw_get (v := .int (x237)) (aX12_meantPlace 92 rfl) wf_RX12_656 (c121 hS) (s121 hS) (by decide) (congrArg Value.int (show FIv224 121 92 = x237 from h238)) ?_
                  obtain ⟨x305, h306⟩ : ∃ y, FL 153 (x237).toNatClampNeg = y := ⟨_, rfl⟩
                  have h306l := congrArg Int64.toInt h306
                  have := l_rng x305
                  refine hw_lald (v := x305) (aX12_meantPlace 93 rfl) (c153 hS) (s153 hS) (h_in rfl (by omega) (by omega)) (show FL 153 (x237).toNatClampNeg = x305 from h306) ?_
                  refine xw_l2i (aX12_meantPlace 94 rfl) ?_
                  refine hw_ti (fun x307 => ?_)
                  have b308 := i_rng x307
                  refine hv_iast (k := (x303).toNatClampNeg) (aX12_meantPlace 95 rfl) (c172 hS) (s172 hS) (h_in e304 (by omega) (by omega)) rfl (fun FI309 u310 => ?_)
                  have rl311 : rl_t (FI309 152) (FL 153) := by rw [show FI309 152 = FIv224 152 from up_row u310 (by decide) rfl]; exact rl227
                  have rl312 : rl_h 2 (FI309 136) (FL 137) (FI309 138) := by rw [show FI309 136 = FIv224 136 from up_row u310 (by decide) rfl, show FI309 138 = FIv224 138 from up_row u310 (by decide) rfl]; exact rl228
                  have rl313 : rl_h 32 (FI309 130) (FL 131) (FI309 134) := by rw [show FI309 130 = FIv224 130 from up_row u310 (by decide) rfl, show FI309 134 = FIv224 134 from up_row u310 (by decide) rfl]; exact rl229
                  have rl314 : rl_b (FI309 139) (FI309 140) (FI309 141) := by rw [show FI309 139 = FIv224 139 from up_row u310 (by decide) rfl, show FI309 140 = FIv224 140 from up_row u310 (by decide) rfl, show FI309 141 = FIv224 141 from up_row u310 (by decide) rfl]; exact rl230
                  have rl315 : rl_m (FI309 169) (FL 170) := by rw [show FI309 169 = FIv224 169 from up_row u310 (by decide) rfl]; exact rl231
                  have hI316 : g_I FI309 := gU_F hI226 u310 rfl
                  exact hw_L (j285 FI309 (gf_a fr225 u310 (by decide)) hI316 (show FI309 121 92 = x237 from (up_c u310 (by decide) (h238))) (show FI309 152 (x237).toNatClampNeg = x240 from (up_c u310 (by decide) (h241))) (show FI309 152 = FI 152 from (up_row u310 (by decide) (rw235))) (show rl_b (FI309 139) (FI309 140) (FI309 141) from rl314) (show rl_h 2 (FI309 136) (FL 137) (FI309 138) from rl312) (show rl_t (FI309 152) (FL 153) from rl311) (show rl_m (FI309 169) (FL 170) from rl315) (show rl_h 32 (FI309 130) (FL 131) (FI309 134) from rl313)) ⟨rfl, rfl, rfl, rfl, rfl, trivial⟩
          exact hw_L (lp236 ((1001 - (x211).toInt : Int).toNat + 1) ((0 : Int64)) FI213 (gf_f gf_rf u214 (by decide)) hI220 (show rl_t (FI213 152) (FL 153) from rl215) (show rl_h 2 (FI213 136) (FL 137) (FI213 138) from rl216) (show rl_h 32 (FI213 130) (FL 131) (FI213 134) from rl217) (show rl_b (FI213 139) (FI213 140) (FI213 141) from rl218) (show rl_m (FI213 169) (FL 170) from rl219) (by have := ((by decide : (0 : Int64).toInt = 0) : ((0 : Int64)).toInt = 0); omega) (by have := ((by decide : (0 : Int64).toInt = 0) : ((0 : Int64)).toInt = 0); have := congrArg Int32.toInt (show FI213 121 92 = x211 from up_eq u214); have := (e212 : (x211).toInt = ((x1).toInt) + (1)); omega) (by have := ((by decide : (0 : Int64).toInt = 0) : ((0 : Int64)).toInt = 0); have := congrArg Int32.toInt (show FI213 121 92 = x211 from up_eq u214); have := (e212 : (x211).toInt = ((x1).toInt) + (1)); omega) (show FI213 152 = FI 152 from (up_row u214 (by decide) (rfl))) (by have := ((by decide : (0 : Int64).toInt = 0) : ((0 : Int64)).toInt = 0); have := congrArg Int32.toInt (show FI213 121 92 = x211 from up_eq u214); have := (e212 : (x211).toInt = ((x1).toInt) + (1)); omega)) ⟨rfl, rfl, rfl, rfl, rfl, trivial⟩
      · have hacc : au_acc (kf (FI 152)) (wf (FL 153)) ((FI 121 92).toInt.toNat + 1) q := by rcases gg0 with ⟨h, -⟩ | ⟨-, h, h2⟩ | ⟨-, h, h2⟩ | ⟨-, h, h2⟩ | ⟨-, h, h2⟩; { exact absurd h hnb }; { omega }; { exact h2 }; { omega }; { omega }
        have hle := au_acc_le hacc
        refine hw_ic (v := (3 : Int32)) (aX12_meantPlace 60 rfl) (by decide) ?_
        refine xw_istoren (L2 := [(3, .int ((3 : Int32))), (6, .int (x209)), (4, .long ((0 : Int64))), (0, .ref (base + 121)), (1, .int (a1)), (2, .int (a2))]) (aX12_meantPlace 61 rfl) (by decide) rfl ?_
        refine hw_aloadn (aX12_meantPlace 62 rfl) rfl ?_
        refine xw_iloadn (aX12_meantPlace 63 rfl) rfl ?_
        refine hw_callV (Bs := [.int (a1)]) (rest := []) (aX12_meantPlace 64 rfl) wc_RX12_676 (by decide) rfl wi_yX12_choice wv_yX12_choice (c121 hS) (s121 hS) rfl rfl rfl (Nat.le_of_ble_eq_true rfl) (Nat.le_of_ble_eq_true rfl) (n_choice (d := d) hS hF hI220 (a1) (q) (by omega) (by rw [show FI213 152 = FI 152 from (up_row u214 (by decide) (rfl)), show (FI213 121 92).toInt.toNat = (FI 121 92).toInt.toNat + 1 from (by have := congrArg Int32.toInt (show FI213 121 92 = x211 from up_eq u214); omega)]; exact hacc) (by omega) (show rl_t (FI213 152) (FL 153) from rl215) (show rl_h 2 (FI213 136) (FL 137) (FI213 138) from rl216) (show rl_h 32 (FI213 130) (FL 131) (FI213 134) from rl217) (show rl_b (FI213 139) (FI213 140) (FI213 141) from rl218)) (fun v317 sv318 p319 => ?_)
        obtain ⟨r320, rfl, FI321, FL322, rfl, hI323, f324, f325, u326, rl327, rl328, rl329⟩ := p319
        have rl330 : rl_t (FI321 152) (FL322 153) := by rw [show FI321 152 = FI213 152 from gf_row f324 (c152 hS) (s152 hS) rfl rfl, show FL322 153 = FL 153 from gf_row f325 (c153 hS) (s153 hS) rfl rfl]; exact rl215
        have rl331 : rl_m (FI321 169) (FL322 170) := by rw [show FI321 169 = FI213 169 from gf_row f324 (c169 hS) (s169 hS) rfl rfl, show FL322 170 = FL 170 from gf_row f325 (c170 hS) (s170 hS) rfl rfl]; exact rl219
        have rg_r320 := l_rng r320
        show hw zk base _ _ _ _ _ [.long (r320)] _ _
        obtain ⟨x332, h333⟩ : ∃ y, FI321 121 92 = y := ⟨_, rfl⟩
        have h333l := congrArg Int32.toInt h333
        have b334 := gI_121_92 hI323; rw [h333] at b334
        have hq9 := u326; have := congrArg Int32.toInt (show FI321 121 92 = x332 from h333)
        have := (x332).toInt; have h92n := gI_121_92 hI323; rw [show FI321 121 92 = x332 from h333] at h92n
        refine xw_lstore (L2 := [(4, .long (r320)), (3, .int ((3 : Int32))), (6, .int (x209)), (0, .ref (base + 121)), (1, .int (a1)), (2, .int (a2))]) (aX12_meantPlace 65 rfl) (by decide) rfl ?_
        refine xw_goto (tgt := 184) (aX12_meantPlace 66 rfl) (by decide) ?_
        exact hw_L (j189 ((3 : Int32)) (r320) (x332) FI321 FL322 (by have := ((by decide : (3 : Int32).toInt = 3) : ((3 : Int32)).toInt = 3); show 0 ≤ ((3 : Int32)).toInt ∧ ((3 : Int32)).toInt ≤ 4; omega) (gf_tr ex_rf (gf_f gf_rf u214 (by decide)) f324 rfl rfl rfl) hI323 (show FI321 121 92 = x332 from h333) (by show 0 ≤ (x332).toInt ∧ (x332).toInt ≤ 1002; omega) (gf_tr ex_rf gf_rf f325 rfl rfl rfl) (show FI321 152 = FI 152 from (gf_row f324 (c152 hS) (s152 hS) rfl ((up_row u214 (by decide) (rfl))))) (show FL322 153 = FL 153 from (gf_row f325 (c153 hS) (s153 hS) rfl (rfl))) (show rl_b (FI321 139) (FI321 140) (FI321 141) from rl329) (show rl_h 2 (FI321 136) (FL322 137) (FI321 138) from rl327) (show rl_t (FI321 152) (FL322 153) from rl330) (show rl_m (FI321 169) (FL322 170) from rl331) (show rl_h 32 (FI321 130) (FL322 131) (FI321 134) from rl328) (by show (x332).toInt = (q : Int); omega) (by have := ((by decide : (3 : Int32).toInt = 3) : ((3 : Int32)).toInt = 3); show 3 = 2 → 0 ≤ (r320).toInt ∧ (r320).toInt ≤ 31; omega) (by have := ((by decide : (3 : Int32).toInt = 3) : ((3 : Int32)).toInt = 3); show 3 = 4 → 0 ≤ (r320).toInt ∧ (r320).toInt ≤ 64; omega)) ⟨rfl, rfl, rfl, rfl, rfl, trivial⟩
    · have h0 : kf (FI 152) ((FI 121 92).toInt.toNat + 1) = 3 ∧ wf (FL 153) ((FI 121 92).toInt.toNat + 1) ≤ 31 ∧ q = (FI 121 92).toInt.toNat + 2 := by rcases gg0 with ⟨h, -⟩ | ⟨-, h, h2⟩ | ⟨-, h, h2⟩ | ⟨-, h, h2⟩ | ⟨-, h, h2⟩; { exact absurd h hnb }; { exact h2 }; { omega }; { omega }; { omega }
      refine hw_ic (v := (2 : Int32)) (aX12_meantPlace 42 rfl) (by decide) ?_
      refine xw_istoren (L2 := [(3, .int ((2 : Int32))), (6, .int (x209)), (4, .long ((0 : Int64))), (0, .ref (base + 121)), (1, .int (a1)), (2, .int (a2))]) (aX12_meantPlace 43 rfl) (by decide) rfl ?_
      refine hw_aloadn (aX12_meantPlace 44 rfl) rfl ?_
      refine hw_get (v := .ref (base + 153)) (aX12_meantPlace 45 rfl) wf_RX12_117 (c121 hS) (s121 hS) (by decide) (congrArg (fun r => va_rf (h_rf base r)) (r121_66 hF)) ?_
      refine hw_aloadn (aX12_meantPlace 46 rfl) rfl ?_
      refine hw_get (v := .int (x211)) (aX12_meantPlace 47 rfl) wf_RX12_656 (c121 hS) (s121 hS) (by decide) (congrArg Value.int (show FI213 121 92 = x211 from up_eq u214)) ?_
      obtain ⟨x335, h336⟩ : ∃ y, FL 153 (x211).toNatClampNeg = y := ⟨_, rfl⟩
      have h336l := congrArg Int64.toInt h336
      have := l_rng x335
      refine hw_lald (v := x335) (aX12_meantPlace 48 rfl) (c153 hS) (s153 hS) (h_in e212 (by omega) (by omega)) (show FL 153 (x211).toNatClampNeg = x335 from h336) ?_
      have e92 : (FI 121 92).toInt.toNat + 1 = (x211).toNatClampNeg := by rw [i_cl (x := x211) rfl]; omega
      have hr3 := (rl215 (x211).toNatClampNeg).1 (by rw [show FI213 152 = FI 152 from (up_row u214 (by decide) (rfl)), ← e92]; exact h0.1)
      have hr4 : (FL 153 (x211).toNatClampNeg).toInt ≤ 31 := by rw [← e92]; exact h0.2.1
      rw [show FL 153 (x211).toNatClampNeg = x335 from h336] at hr3 hr4
      refine xw_lstore (L2 := [(4, .long (x335)), (3, .int ((2 : Int32))), (6, .int (x209)), (0, .ref (base + 121)), (1, .int (a1)), (2, .int (a2))]) (aX12_meantPlace 49 rfl) (by decide) rfl ?_
      refine hw_aloadn (aX12_meantPlace 50 rfl) rfl ?_
      refine hw_aloadn (aX12_meantPlace 51 rfl) rfl ?_
      refine hw_get (v := .int (x211)) (aX12_meantPlace 52 rfl) wf_RX12_656 (c121 hS) (s121 hS) (by decide) (congrArg Value.int (show FI213 121 92 = x211 from up_eq u214)) ?_
      refine hw_ic (v := (1 : Int32)) (aX12_meantPlace 53 rfl) (by decide) ?_
      refine xw_iadd (aX12_meantPlace 54 rfl) ?_
      refine hw_tie (A := (((x1).toInt) + (1)) + (1)) (i_add e212 (by decide : (1 : Int32).toInt = 1) (by omega) (by omega)) (fun x337 e338 => ?_)
      refine hv_puti (aX12_meantPlace 55 rfl) wf_RX12_656 (c121 hS) (s121 hS) (by decide) rfl rfl (fun FI339 u340 => ?_)
      have rl341 : rl_t (FI339 152) (FL 153) := by rw [show FI339 152 = FI213 152 from up_row u340 (by decide) rfl]; exact rl215
      have rl342 : rl_h 2 (FI339 136) (FL 137) (FI339 138) := by rw [show FI339 136 = FI213 136 from up_row u340 (by decide) rfl, show FI339 138 = FI213 138 from up_row u340 (by decide) rfl]; exact rl216
      have rl343 : rl_h 32 (FI339 130) (FL 131) (FI339 134) := by rw [show FI339 130 = FI213 130 from up_row u340 (by decide) rfl, show FI339 134 = FI213 134 from up_row u340 (by decide) rfl]; exact rl217
      have rl344 : rl_b (FI339 139) (FI339 140) (FI339 141) := by rw [show FI339 139 = FI213 139 from up_row u340 (by decide) rfl, show FI339 140 = FI213 140 from up_row u340 (by decide) rfl, show FI339 141 = FI213 141 from up_row u340 (by decide) rfl]; exact rl218
      have rl345 : rl_m (FI339 169) (FL 170) := by rw [show FI339 169 = FI213 169 from up_row u340 (by decide) rfl]; exact rl219
      have hI346 : g_I FI339 := gU_121_92 hI220 u340 (by have := (e338 : (x337).toInt = (((x1).toInt) + (1)) + (1)); omega) (by have := (e338 : (x337).toInt = (((x1).toInt) + (1)) + (1)); omega)
      refine xw_goto (tgt := 184) (aX12_meantPlace 56 rfl) (by decide) ?_
      exact hw_L (j189 ((2 : Int32)) (x335) (x337) FI339 FL (by have := ((by decide : (2 : Int32).toInt = 2) : ((2 : Int32)).toInt = 2); show 0 ≤ ((2 : Int32)).toInt ∧ ((2 : Int32)).toInt ≤ 4; omega) (gf_f (gf_f gf_rf u214 (by decide)) u340 (by decide)) hI346 (show FI339 121 92 = x337 from up_eq u340) (by have := (e338 : (x337).toInt = (((x1).toInt) + (1)) + (1)); show 0 ≤ (x337).toInt ∧ (x337).toInt ≤ 1002; omega) gf_rf (show FI339 152 = FI 152 from (up_row u340 (by decide) ((up_row u214 (by decide) (rfl))))) (show FL 153 = FL 153 from rfl) (show rl_b (FI339 139) (FI339 140) (FI339 141) from rl344) (show rl_h 2 (FI339 136) (FL 137) (FI339 138) from rl342) (show rl_t (FI339 152) (FL 153) from rl341) (show rl_m (FI339 169) (FL 170) from rl345) (show rl_h 32 (FI339 130) (FL 131) (FI339 134) from rl343) (by have := (e338 : (x337).toInt = (((x1).toInt) + (1)) + (1)); show (x337).toInt = (q : Int); omega) (by have := ((by decide : (2 : Int32).toInt = 2) : ((2 : Int32)).toInt = 2); show 2 = 2 → 0 ≤ (x335).toInt ∧ (x335).toInt ≤ 31; omega) (by have := ((by decide : (2 : Int32).toInt = 2) : ((2 : Int32)).toInt = 2); show 2 = 4 → 0 ≤ (x335).toInt ∧ (x335).toInt ≤ 64; omega)) ⟨rfl, rfl, rfl, rfl, rfl, trivial⟩
  · have hbr := u11.mp (by omega); rw [show ((91 : Int32)).toInt = (91 : Int) from by decide] at hbr
    obtain ⟨e, hacc, hqe⟩ : ∃ e, au_acc (kf (FI 152)) (wf (FL 153)) ((FI 121 92).toInt.toNat + 1) e ∧ q = e + 1 := by rcases gg0 with ⟨-, h⟩ | ⟨h, -⟩ | ⟨h, -⟩ | ⟨h, -⟩ | ⟨h, -⟩; { exact h }; { exact absurd hbr h }; { exact absurd hbr h }; { exact absurd hbr h }; { exact absurd hbr h }
    have hle := au_acc_le hacc
    refine hw_aloadn (aX12_meantPlace 8 rfl) rfl ?_
    refine hw_aloadn (aX12_meantPlace 9 rfl) rfl ?_
    refine hw_get (v := .int (x1)) (aX12_meantPlace 10 rfl) wf_RX12_656 (c121 hS) (s121 hS) (by decide) (congrArg Value.int (show FI 121 92 = x1 from h2)) ?_
    refine hw_ic (v := (1 : Int32)) (aX12_meantPlace 11 rfl) (by decide) ?_
    refine xw_iadd (aX12_meantPlace 12 rfl) ?_
    refine hw_tie (A := ((x1).toInt) + (1)) (i_add rfl (by decide : (1 : Int32).toInt = 1) (by omega) (by omega)) (fun x347 e348 => ?_)
    refine hv_puti (aX12_meantPlace 13 rfl) wf_RX12_656 (c121 hS) (s121 hS) (by decide) rfl rfl (fun FI349 u350 => ?_)
    have rl351 : rl_t (FI349 152) (FL 153) := by rw [show FI349 152 = FI 152 from up_row u350 (by decide) rfl]; exact rel_kept
    have rl352 : rl_h 2 (FI349 136) (FL 137) (FI349 138) := by rw [show FI349 136 = FI 136 from up_row u350 (by decide) rfl, show FI349 138 = FI 138 from up_row u350 (by decide) rfl]; exact rel_hold
    have rl353 : rl_h 32 (FI349 130) (FL 131) (FI349 134) := by rw [show FI349 130 = FI 130 from up_row u350 (by decide) rfl, show FI349 134 = FI 134 from up_row u350 (by decide) rfl]; exact rel_piece
    have rl354 : rl_b (FI349 139) (FI349 140) (FI349 141) := by rw [show FI349 139 = FI 139 from up_row u350 (by decide) rfl, show FI349 140 = FI 140 from up_row u350 (by decide) rfl, show FI349 141 = FI 141 from up_row u350 (by decide) rfl]; exact rel_back
    have rl355 : rl_m (FI349 169) (FL 170) := by rw [show FI349 169 = FI 169 from up_row u350 (by decide) rfl]; exact rel_mean
    have hI356 : g_I FI349 := gU_121_92 hI u350 (by have := (e348 : (x347).toInt = ((x1).toInt) + (1)); omega) (by have := (e348 : (x347).toInt = ((x1).toInt) + (1)); omega)
    refine hw_aloadn (aX12_meantPlace 14 rfl) rfl ?_
    refine xw_iloadn (aX12_meantPlace 15 rfl) rfl ?_
    refine hw_callV (Bs := [.int (a1)]) (rest := []) (aX12_meantPlace 16 rfl) wc_RX12_676 (by decide) rfl wi_yX12_choice wv_yX12_choice (c121 hS) (s121 hS) rfl rfl rfl (Nat.le_of_ble_eq_true rfl) (Nat.le_of_ble_eq_true rfl) (n_choice (d := d) hS hF hI356 (a1) (e) (by omega) (by rw [show FI349 152 = FI 152 from (up_row u350 (by decide) (rfl)), show (FI349 121 92).toInt.toNat = (FI 121 92).toInt.toNat + 1 from (by have := congrArg Int32.toInt (show FI349 121 92 = x347 from up_eq u350); omega)]; exact hacc) (by omega) (show rl_t (FI349 152) (FL 153) from rl351) (show rl_h 2 (FI349 136) (FL 137) (FI349 138) from rl352) (show rl_h 32 (FI349 130) (FL 131) (FI349 134) from rl353) (show rl_b (FI349 139) (FI349 140) (FI349 141) from rl354)) (fun v357 sv358 p359 => ?_)
    obtain ⟨r360, rfl, FI361, FL362, rfl, hI363, f364, f365, u366, rl367, rl368, rl369⟩ := p359
    have rl370 : rl_t (FI361 152) (FL362 153) := by rw [show FI361 152 = FI349 152 from gf_row f364 (c152 hS) (s152 hS) rfl rfl, show FL362 153 = FL 153 from gf_row f365 (c153 hS) (s153 hS) rfl rfl]; exact rl351
    have rl371 : rl_m (FI361 169) (FL362 170) := by rw [show FI361 169 = FI349 169 from gf_row f364 (c169 hS) (s169 hS) rfl rfl, show FL362 170 = FL 170 from gf_row f365 (c170 hS) (s170 hS) rfl rfl]; exact rl355
    have rg_r360 := l_rng r360
    show hw zk base _ _ _ _ _ [.long (r360)] _ _
    obtain ⟨x372, h373⟩ : ∃ y, FI361 121 92 = y := ⟨_, rfl⟩
    have h373l := congrArg Int32.toInt h373
    have b374 := gI_121_92 hI363; rw [h373] at b374
    have hq9 := u366; have := congrArg Int32.toInt (show FI361 121 92 = x372 from h373)
    have := (x372).toInt; have h92n := gI_121_92 hI363; rw [show FI361 121 92 = x372 from h373] at h92n
    refine xw_lstore (L2 := [(4, .long (r360)), (3, .int ((0 : Int32))), (0, .ref (base + 121)), (1, .int (a1)), (2, .int (a2))]) (aX12_meantPlace 17 rfl) (by decide) rfl ?_
    refine hw_aloadn (aX12_meantPlace 18 rfl) rfl ?_
    refine hw_aloadn (aX12_meantPlace 19 rfl) rfl ?_
    refine hw_get (v := .int (x372)) (aX12_meantPlace 20 rfl) wf_RX12_656 (c121 hS) (s121 hS) (by decide) (congrArg Value.int (show FI361 121 92 = x372 from h373)) ?_
    refine hw_ic (v := (1 : Int32)) (aX12_meantPlace 21 rfl) (by decide) ?_
    refine xw_iadd (aX12_meantPlace 22 rfl) ?_
    refine hw_tie (A := ((x372).toInt) + (1)) (i_add rfl (by decide : (1 : Int32).toInt = 1) (by omega) (by omega)) (fun x375 e376 => ?_)
    refine hv_puti (aX12_meantPlace 23 rfl) wf_RX12_656 (c121 hS) (s121 hS) (by decide) rfl rfl (fun FI377 u378 => ?_)
    have rl379 : rl_t (FI377 152) (FL362 153) := by rw [show FI377 152 = FI361 152 from up_row u378 (by decide) rfl]; exact rl370
    have rl380 : rl_h 2 (FI377 136) (FL362 137) (FI377 138) := by rw [show FI377 136 = FI361 136 from up_row u378 (by decide) rfl, show FI377 138 = FI361 138 from up_row u378 (by decide) rfl]; exact rl367
    have rl381 : rl_h 32 (FI377 130) (FL362 131) (FI377 134) := by rw [show FI377 130 = FI361 130 from up_row u378 (by decide) rfl, show FI377 134 = FI361 134 from up_row u378 (by decide) rfl]; exact rl368
    have rl382 : rl_b (FI377 139) (FI377 140) (FI377 141) := by rw [show FI377 139 = FI361 139 from up_row u378 (by decide) rfl, show FI377 140 = FI361 140 from up_row u378 (by decide) rfl, show FI377 141 = FI361 141 from up_row u378 (by decide) rfl]; exact rl369
    have rl383 : rl_m (FI377 169) (FL362 170) := by rw [show FI377 169 = FI361 169 from up_row u378 (by decide) rfl]; exact rl371
    have hI384 : g_I FI377 := gU_121_92 hI363 u378 (by have := (e376 : (x375).toInt = ((x372).toInt) + (1)); omega) (by have := (e376 : (x375).toInt = ((x372).toInt) + (1)); omega)
    refine hw_ic (v := (1 : Int32)) (aX12_meantPlace 24 rfl) (by decide) ?_
    refine xw_istoren (L2 := [(3, .int ((1 : Int32))), (4, .long (r360)), (0, .ref (base + 121)), (1, .int (a1)), (2, .int (a2))]) (aX12_meantPlace 25 rfl) (by decide) rfl ?_
    refine xw_goto (tgt := 184) (aX12_meantPlace 26 rfl) (by decide) ?_
    exact hw_L (j189 ((1 : Int32)) (r360) (x375) FI377 FL362 (by have := ((by decide : (1 : Int32).toInt = 1) : ((1 : Int32)).toInt = 1); show 0 ≤ ((1 : Int32)).toInt ∧ ((1 : Int32)).toInt ≤ 4; omega) (gf_f (gf_tr ex_rf (gf_f gf_rf u350 (by decide)) f364 rfl rfl rfl) u378 (by decide)) hI384 (show FI377 121 92 = x375 from up_eq u378) (by have := (e376 : (x375).toInt = ((x372).toInt) + (1)); show 0 ≤ (x375).toInt ∧ (x375).toInt ≤ 1002; omega) (gf_tr ex_rf gf_rf f365 rfl rfl rfl) (show FI377 152 = FI 152 from (up_row u378 (by decide) ((gf_row f364 (c152 hS) (s152 hS) rfl ((up_row u350 (by decide) (rfl))))))) (show FL362 153 = FL 153 from (gf_row f365 (c153 hS) (s153 hS) rfl (rfl))) (show rl_b (FI377 139) (FI377 140) (FI377 141) from rl382) (show rl_h 2 (FI377 136) (FL362 137) (FI377 138) from rl380) (show rl_t (FI377 152) (FL362 153) from rl379) (show rl_m (FI377 169) (FL362 170) from rl383) (show rl_h 32 (FI377 130) (FL362 131) (FI377 134) from rl381) (by have := (e376 : (x375).toInt = ((x372).toInt) + (1)); show (x375).toInt = (q : Int); omega) (by have := ((by decide : (1 : Int32).toInt = 1) : ((1 : Int32)).toInt = 1); show 1 = 2 → 0 ≤ (r360).toInt ∧ (r360).toInt ≤ 31; omega) (by have := ((by decide : (1 : Int32).toInt = 1) : ((1 : Int32)).toInt = 1); show 1 = 4 → 0 ≤ (r360).toInt ∧ (r360).toInt ≤ 64; omega)) ⟨rfl, rfl, rfl, rfl, rfl, trivial⟩
end
section
def nX12_meantLocation : Nat := 0xb19602b5042a9302b51c2ab104009a1bb6ffa79002b560049002b42a2a3e9d02b62c102a3d60041c9002b560049002b42a2a4f68882f9002b42a7500b42a08101cac00b42a1600991b9002b560049002b42a2aa002b61c1b2a4c00991d3e049002b560049002b42a2a3d03b1a002b6031b2a0a009a9d02b67b102a
theorem bX12_meantLocation : cX12_meantLocation.data.toList.map UInt8.toNat = x_un nX12_meantLocation 123 := by decide +kernel
def iX12_meantLocation : List (Nat × Jvm.ClassFile.Instr × Nat) := [(0, .aload_n 0, 1), (1, .bipush 123, 2), (3, .invokevirtual 669, 3), (6, .ifCond .ne 10, 3), (9, .aload_n 0, 1), (10, .iload_n 1, 1), (11, .iconst 0, 1), (12, .invokevirtual 672, 3), (15, .return_, 1), (16, .iconst 0, 1), (17, .istore_n 2, 1), (18, .aload_n 0, 1), (19, .aload_n 0, 1), (20, .getfield 656, 3), (23, .iconst 1, 1), (24, .iadd, 1), (25, .putfield 656, 3), (28, .iconst 1, 1), (29, .istore_n 3, 1), (30, .iload_n 3, 1), (31, .ifCond .eq 76, 3), (34, .aload_n 0, 1), (35, .iload_n 1, 1), (36, .iload_n 2, 1), (37, .invokevirtual 672, 3), (40, .aload_n 0, 1), (41, .aload_n 0, 1), (42, .getfield 656, 3), (45, .iconst 1, 1), (46, .iadd, 1), (47, .putfield 656, 3), (50, .iload_n 1, 1), (51, .ifCond .eq 22, 3), (54, .aload_n 0, 1), (55, .getfield 172, 3), (58, .iload_n 2, 1), (59, .bipush 8, 2), (61, .aload_n 0, 1), (62, .getfield 117, 3), (65, .aload_n 0, 1), (66, .getfield 656, 3), (69, .laload, 1), (70, .l2i, 1), (71, .imul, 1), (72, .iastore, 1), (73, .aload_n 0, 1), (74, .aload_n 0, 1), (75, .getfield 656, 3), (78, .iconst 1, 1), (79, .iadd, 1), (80, .putfield 656, 3), (83, .iload_n 2, 1), (84, .iconst 1, 1), (85, .iadd, 1), (86, .istore_n 2, 1), (87, .aload_n 0, 1), (88, .bipush 44, 2), (90, .invokevirtual 669, 3), (93, .istore_n 3, 1), (94, .aload_n 0, 1), (95, .aload_n 0, 1), (96, .getfield 656, 3), (99, .iconst 1, 1), (100, .iadd, 1), (101, .putfield 656, 3), (104, .goto (-74), 3), (107, .iload_n 1, 1), (108, .ifCond .ne 4, 3), (111, .return_, 1), (112, .aload_n 0, 1), (113, .iload_n 2, 1), (114, .putfield 659, 3), (117, .aload_n 0, 1), (118, .iconst 1, 1), (119, .putfield 662, 3), (122, .return_, 1)]
theorem dX12_meantLocation : x_il nX12_meantLocation 123 iX12_meantLocation = true := by decide +kernel
theorem aX12_meantLocation (k : Nat) {pc : Nat} {i : Jvm.ClassFile.Instr} {len : Nat} (hk : iX12_meantLocation[k]? = some (pc, i, len)) : x_at xMM 256 pc i len yX12_meantLocation 4 none := ⟨cX12_meantLocation, rfl, x_il_ok bX12_meantLocation dX12_meantLocation k hk⟩
set_option maxHeartbeats 4000000 in
set_option maxRecDepth 100000 in
theorem n_meantLocation {zk : xK} {base d n sl : Nat} {SH : Nat → Nat × Nat} {FI : Nat → Nat → Int32} {FL : Nat → Nat → Int64} {FR : Nat → Nat → Option Nat} (hS : h_S n SH) (hF : h_FR FR) (hI : g_I FI) (a1 : Int32) (q : Nat) (g0 : 1 ≤ (FI 121 94).toInt) (g1 : 0 ≤ (a1).toInt ∧ (a1).toInt ≤ 1) (gg0 : gr_loc (kf (FI 152)) (wf (FL 153)) (FI 121 92).toInt.toNat q) (gg1 : q ≤ 1000) (rel_kept : rl_t (FI 152) (FL 153)) (rel_hold : rl_h 2 (FI 136) (FL 137) (FI 138)) (rel_piece : rl_h 32 (FI 130) (FL 131) (FI 134)) (rel_back : rl_b (FI 139) (FI 140) (FI 141)) (rel_mean : rl_m (FI 169) (FL 170)) : hw zk base (d + 9) none 256 0 [(0, .ref (base + 121)), (1, .int (a1))] [] (n, sl, SH, FI, FL, FR) (h_V (fun s => ∃ FI' FL', s = (n, sl, SH, FI', FL', FR) ∧ g_I FI' ∧ g_fr n SH [(121, 29), (121, 30), (121, 31), (121, 32), (121, 33), (121, 34), (121, 37), (121, 38), (121, 90), (121, 91), (121, 92), (121, 93), (121, 94), (121, 95), (121, 101), (121, 104)] [128, 129, 130, 132, 133, 134, 135, 136, 138, 139, 140, 141, 142, 165, 166, 169, 171, 172, 174, 175] [] FI FI' ∧ g_fr n SH [(121, 35), (121, 36), (121, 39)] [127, 131, 137, 170, 173] [] FL FL' ∧ (1 ≤ (FI' 121 94).toInt) ∧ ((FI' 121 92).toInt.toNat = q) ∧ (rl_h 2 (FI' 136) (FL' 137) (FI' 138)) ∧ (rl_h 32 (FI' 130) (FL' 131) (FI' 134)) ∧ (rl_b (FI' 139) (FI' 140) (FI' 141)) ∧ (rl_m (FI' 169) (FL' 170)))) := by
  have rg_a1 := i_rng a1
  obtain ⟨x1, h2⟩ : ∃ y, FI 121 94 = y := ⟨_, rfl⟩
  have h2l := congrArg Int32.toInt h2
  have b3 := gI_121_94 hI; rw [h2] at b3
  obtain ⟨x4, h5⟩ : ∃ y, FI 121 92 = y := ⟨_, rfl⟩
  have h5l := congrArg Int32.toInt h5
  have b6 := gI_121_92 hI; rw [h5] at b6
  have hpq0 := gr_loc_lt gg0
  have e7 : 0 ≤ (x4).toInt ∧ (x4).toInt ≤ 999 := by omega
  refine hw_aloadn (aX12_meantLocation 0 rfl) rfl ?_
  refine hw_bp (v := (123 : Int32)) (aX12_meantLocation 1 rfl) (by decide) ?_
  refine hw_callV (Bs := [.int ((123 : Int32))]) (rest := []) (aX12_meantLocation 2 rfl) wc_RX12_669 (by decide) rfl wi_yX12_keepsSign wv_yX12_keepsSign (c121 hS) (s121 hS) rfl rfl rfl (Nat.le_of_ble_eq_true rfl) (Nat.le_of_ble_eq_true rfl) (n_keepsSign (d := d + 8) hS hF hI ((123 : Int32)) ) (fun v8 sv9 p10 => ?_)
  obtain ⟨r11, rfl, rfl, t13, u14⟩ := p10
  show hw zk base _ _ _ _ _ [.int (r11)] _ _
  refine hw_ifne (tgt := 16) (aX12_meantLocation 3 rfl) (by decide) rfl (fun cd15 => ?_) (fun cd15 => ?_)
  · have hcu := u14.mp (by omega); rw [show ((123 : Int32)).toInt = (123 : Int) from by decide] at hcu
    obtain ⟨kk, hk8, hpts⟩ : ∃ n, n ≤ 8 ∧ gr_pts (kf (FI 152)) (wf (FL 153)) n ((FI 121 92).toInt.toNat + 1) q := by rcases gg0 with ⟨h, -⟩ | ⟨-, h⟩; { exact absurd hcu h }; { exact h }
    refine hw_ic (v := (0 : Int32)) (aX12_meantLocation 9 rfl) (by decide) ?_
    refine xw_istoren (L2 := [(2, .int ((0 : Int32))), (0, .ref (base + 121)), (1, .int (a1))]) (aX12_meantLocation 10 rfl) (by decide) rfl ?_
    refine hw_aloadn (aX12_meantLocation 11 rfl) rfl ?_
    refine hw_aloadn (aX12_meantLocation 12 rfl) rfl ?_
    refine hw_get (v := .int (x4)) (aX12_meantLocation 13 rfl) wf_RX12_656 (c121 hS) (s121 hS) (by decide) (congrArg Value.int (show FI 121 92 = x4 from h5)) ?_
    refine hw_ic (v := (1 : Int32)) (aX12_meantLocation 14 rfl) (by decide) ?_
    refine xw_iadd (aX12_meantLocation 15 rfl) ?_
    refine hw_tie (A := ((x4).toInt) + (1)) (i_add rfl (by decide : (1 : Int32).toInt = 1) (by omega) (by omega)) (fun x16 e17 => ?_)
    refine hv_puti (aX12_meantLocation 16 rfl) wf_RX12_656 (c121 hS) (s121 hS) (by decide) rfl rfl (fun FI18 u19 => ?_)
    have rl20 : rl_t (FI18 152) (FL 153) := by rw [show FI18 152 = FI 152 from up_row u19 (by decide) rfl]; exact rel_kept
    have rl21 : rl_h 2 (FI18 136) (FL 137) (FI18 138) := by rw [show FI18 136 = FI 136 from up_row u19 (by decide) rfl, show FI18 138 = FI 138 from up_row u19 (by decide) rfl]; exact rel_hold
    have rl22 : rl_h 32 (FI18 130) (FL 131) (FI18 134) := by rw [show FI18 130 = FI 130 from up_row u19 (by decide) rfl, show FI18 134 = FI 134 from up_row u19 (by decide) rfl]; exact rel_piece
    have rl23 : rl_b (FI18 139) (FI18 140) (FI18 141) := by rw [show FI18 139 = FI 139 from up_row u19 (by decide) rfl, show FI18 140 = FI 140 from up_row u19 (by decide) rfl, show FI18 141 = FI 141 from up_row u19 (by decide) rfl]; exact rel_back
    have rl24 : rl_m (FI18 169) (FL 170) := by rw [show FI18 169 = FI 169 from up_row u19 (by decide) rfl]; exact rel_mean
    have hI25 : g_I FI18 := gU_121_92 hI u19 (by have := (e17 : (x16).toInt = ((x4).toInt) + (1)); omega) (by have := (e17 : (x16).toInt = ((x4).toInt) + (1)); omega)
    refine hw_ic (v := (1 : Int32)) (aX12_meantLocation 17 rfl) (by decide) ?_
    refine xw_istoren (L2 := [(3, .int ((1 : Int32))), (2, .int ((0 : Int32))), (0, .ref (base + 121)), (1, .int (a1))]) (aX12_meantLocation 18 rfl) (by decide) rfl ?_
    have lp42 : ∀ (m : Nat) (y3 : Int32) (y2 : Int32) (FIv26 : Nat → Nat → Int32) (FLv27 : Nat → Nat → Int64), (g_fr n SH [(121, 29), (121, 30), (121, 31), (121, 32), (121, 33), (121, 34), (121, 37), (121, 38), (121, 90), (121, 91), (121, 92), (121, 93), (121, 94), (121, 95), (121, 101), (121, 104)] [128, 129, 130, 132, 133, 134, 135, 136, 138, 139, 140, 141, 142, 165, 166, 169, 171, 172, 174, 175] [] FI FIv26) → (g_fr n SH [(121, 35), (121, 36), (121, 39)] [127, 131, 137, 170, 173] [] FL FLv27) → (g_I FIv26) → (FIv26 121 94 = x1) → (rl_t (FIv26 152) (FLv27 153)) → (rl_h 2 (FIv26 136) (FLv27 137) (FIv26 138)) → (rl_h 32 (FIv26 130) (FLv27 131) (FIv26 134)) → (rl_b (FIv26 139) (FIv26 140) (FIv26 141)) → (rl_m (FIv26 169) (FLv27 170)) → (0 ≤ (y2).toInt ∧ (y2).toInt ≤ 8) → (0 ≤ (y3).toInt ∧ (y3).toInt ≤ 1) → (0 ≤ (FIv26 121 92).toInt ∧ (FIv26 121 92).toInt ≤ 1000) → (gr_at (kf (FI 152)) (wf (FL 153)) q ((FIv26 121 92).toInt).toNat (y2).toInt (y3).toInt) → (FIv26 152 = FI 152) → (FLv27 153 = FL 153) → 2 * (1001 - (FIv26 121 92).toInt) + (y3).toInt < m → hw zk base (d + 9) none 256 30 [(3, .int (y3)), (2, .int (y2)), (0, .ref (base + 121)), (1, .int (a1))] [] (n, sl, SH, FIv26, FLv27, FR) (h_V (fun s => ∃ FI' FL', s = (n, sl, SH, FI', FL', FR) ∧ g_I FI' ∧ g_fr n SH [(121, 29), (121, 30), (121, 31), (121, 32), (121, 33), (121, 34), (121, 37), (121, 38), (121, 90), (121, 91), (121, 92), (121, 93), (121, 94), (121, 95), (121, 101), (121, 104)] [128, 129, 130, 132, 133, 134, 135, 136, 138, 139, 140, 141, 142, 165, 166, 169, 171, 172, 174, 175] [] FI FI' ∧ g_fr n SH [(121, 35), (121, 36), (121, 39)] [127, 131, 137, 170, 173] [] FL FL' ∧ (1 ≤ (FI' 121 94).toInt) ∧ ((FI' 121 92).toInt.toNat = q) ∧ (rl_h 2 (FI' 136) (FL' 137) (FI' 138)) ∧ (rl_h 32 (FI' 130) (FL' 131) (FI' 134)) ∧ (rl_b (FI' 139) (FI' 140) (FI' 141)) ∧ (rl_m (FI' 169) (FL' 170)))) := by
      intro m
      induction m with
      | zero => intro y3 y2 FIv26 FLv27 fr28 fr29 hI30 kp31 rl32 rl33 rl34 rl35 rl36 iv37 iv38 iv39 xi30_0 rw40 rw41 hm; omega
      | succ m ih =>
        intro y3 y2 FIv26 FLv27 fr28 fr29 hI30 kp31 rl32 rl33 rl34 rl35 rl36 iv37 iv38 iv39 xi30_0 rw40 rw41 hm
        have rg_y3 := i_rng y3
        have rg_y2 := i_rng y2
        have := congrArg Int32.toInt kp31
        obtain ⟨x43, h44⟩ : ∃ y, FIv26 121 92 = y := ⟨_, rfl⟩
        have h44l := congrArg Int32.toInt h44
        have b45 := gI_121_92 hI30; rw [h44] at b45
        refine xw_iloadn (aX12_meantLocation 19 rfl) rfl ?_
        refine hw_ifeq (tgt := 107) (aX12_meantLocation 20 rfl) (by decide) rfl (fun cd46 => ?_) (fun cd46 => ?_)
        · refine xw_iloadn (aX12_meantLocation 66 rfl) rfl ?_
          refine hw_ifne (tgt := 112) (aX12_meantLocation 67 rfl) (by decide) rfl (fun cd47 => ?_) (fun cd47 => ?_)
          · have hx8 := xi30_0; rw [show (y3).toInt = 0 by omega] at hx8; have hx9 := gr_at_e hx8
            refine hw_aloadn (aX12_meantLocation 69 rfl) rfl ?_
            refine xw_iloadn (aX12_meantLocation 70 rfl) rfl ?_
            refine hv_puti (aX12_meantLocation 71 rfl) wf_RX12_659 (c121 hS) (s121 hS) (by decide) rfl rfl (fun FI48 u49 => ?_)
            have rl50 : rl_t (FI48 152) (FLv27 153) := by rw [show FI48 152 = FIv26 152 from up_row u49 (by decide) rfl]; exact rl32
            have rl51 : rl_h 2 (FI48 136) (FLv27 137) (FI48 138) := by rw [show FI48 136 = FIv26 136 from up_row u49 (by decide) rfl, show FI48 138 = FIv26 138 from up_row u49 (by decide) rfl]; exact rl33
            have rl52 : rl_h 32 (FI48 130) (FLv27 131) (FI48 134) := by rw [show FI48 130 = FIv26 130 from up_row u49 (by decide) rfl, show FI48 134 = FIv26 134 from up_row u49 (by decide) rfl]; exact rl34
            have rl53 : rl_b (FI48 139) (FI48 140) (FI48 141) := by rw [show FI48 139 = FIv26 139 from up_row u49 (by decide) rfl, show FI48 140 = FIv26 140 from up_row u49 (by decide) rfl, show FI48 141 = FIv26 141 from up_row u49 (by decide) rfl]; exact rl35
            have rl54 : rl_m (FI48 169) (FLv27 170) := by rw [show FI48 169 = FIv26 169 from up_row u49 (by decide) rfl]; exact rl36
            have hI55 : g_I FI48 := gU_121_94 hI30 u49 (by omega) (by omega)
            refine hw_aloadn (aX12_meantLocation 72 rfl) rfl ?_
            refine hw_ic (v := (1 : Int32)) (aX12_meantLocation 73 rfl) (by decide) ?_
            refine hv_putz (aX12_meantLocation 74 rfl) wf_RX12_662 (c121 hS) (s121 hS) (by decide) rfl rfl (by decide) (fun FI56 u57 => ?_)
            have rl58 : rl_t (FI56 152) (FLv27 153) := by rw [show FI56 152 = FI48 152 from up_row u57 (by decide) rfl]; exact rl50
            have rl59 : rl_h 2 (FI56 136) (FLv27 137) (FI56 138) := by rw [show FI56 136 = FI48 136 from up_row u57 (by decide) rfl, show FI56 138 = FI48 138 from up_row u57 (by decide) rfl]; exact rl51
            have rl60 : rl_h 32 (FI56 130) (FLv27 131) (FI56 134) := by rw [show FI56 130 = FI48 130 from up_row u57 (by decide) rfl, show FI56 134 = FI48 134 from up_row u57 (by decide) rfl]; exact rl52
            have rl61 : rl_b (FI56 139) (FI56 140) (FI56 141) := by rw [show FI56 139 = FI48 139 from up_row u57 (by decide) rfl, show FI56 140 = FI48 140 from up_row u57 (by decide) rfl, show FI56 141 = FI48 141 from up_row u57 (by decide) rfl]; exact rl53
            have rl62 : rl_m (FI56 169) (FLv27 170) := by rw [show FI56 169 = FI48 169 from up_row u57 (by decide) rfl]; exact rl54
            have hI63 : g_I FI56 := gU_121_95 hI55 u57 (by have := ((by decide : (1 : Int32).toInt = 1) : ((1 : Int32)).toInt = 1); omega) (by have := ((by decide : (1 : Int32).toInt = 1) : ((1 : Int32)).toInt = 1); omega)
            refine xw_vret (aX12_meantLocation 75 rfl) rfl ?_
            exact ⟨rfl, FI56, FLv27, rfl, hI63, (gf_f (gf_f fr28 u49 (by decide)) u57 (by decide)), fr29, (by have := congrArg Int32.toInt (show FI56 121 94 = y2 from (up_k u57 (by decide) (up_eq u49))); omega), (by have := congrArg Int32.toInt (show FI56 121 92 = x43 from (up_k u57 (by decide) ((up_k u49 (by decide) (h44))))); have hx := xi30_0; rw [show (y3).toInt = 0 by omega] at hx; have := gr_at_e hx; omega), (show rl_h 2 (FI56 136) (FLv27 137) (FI56 138) from rl59), (show rl_h 32 (FI56 130) (FLv27 131) (FI56 134) from rl60), (show rl_b (FI56 139) (FI56 140) (FI56 141) from rl61), (show rl_m (FI56 169) (FLv27 170) from rl62)⟩
          · refine xw_vret (aX12_meantLocation 68 rfl) rfl ?_
            exact ⟨rfl, FIv26, FLv27, rfl, hI30, fr28, fr29, (by have := congrArg Int32.toInt (show FIv26 121 94 = x1 from kp31); omega), (by have := congrArg Int32.toInt (show FIv26 121 92 = x43 from h44); have hx := xi30_0; rw [show (y3).toInt = 0 by omega] at hx; have := gr_at_e hx; omega), (show rl_h 2 (FIv26 136) (FLv27 137) (FIv26 138) from rl33), (show rl_h 32 (FIv26 130) (FLv27 131) (FIv26 134) from rl34), (show rl_b (FIv26 139) (FIv26 140) (FIv26 141) from rl35), (show rl_m (FIv26 169) (FLv27 170) from rl36)⟩
        · have hx := xi30_0; rw [show (y3).toInt = 1 by omega] at hx; obtain ⟨hn0, hn7, e, hgp, he3, hnx⟩ := gr_at_s hx; have hltp := gr_pl_lt hgp
          refine hw_aloadn (aX12_meantLocation 21 rfl) rfl ?_
          refine xw_iloadn (aX12_meantLocation 22 rfl) rfl ?_
          refine xw_iloadn (aX12_meantLocation 23 rfl) rfl ?_
          refine hw_callV (Bs := [.int (a1), .int (y2)]) (rest := []) (aX12_meantLocation 24 rfl) wc_RX12_672 (by decide) rfl wi_yX12_meantPlace wv_yX12_meantPlace (c121 hS) (s121 hS) rfl rfl rfl (Nat.le_of_ble_eq_true rfl) (Nat.le_of_ble_eq_true rfl) (n_meantPlace (d := d) hS hF hI30 (a1) (y2) (e) (by omega) (by omega) (by rw [show FIv26 152 = FI 152 from rw40, show FLv27 153 = FL 153 from rw41]; exact hgp) (by omega) (show rl_t (FIv26 152) (FLv27 153) from rl32) (show rl_h 2 (FIv26 136) (FLv27 137) (FIv26 138) from rl33) (show rl_h 32 (FIv26 130) (FLv27 131) (FIv26 134) from rl34) (show rl_b (FIv26 139) (FIv26 140) (FIv26 141) from rl35) (show rl_m (FIv26 169) (FLv27 170) from rl36)) (fun v64 sv65 p66 => ?_)
          obtain ⟨rfl, FI68, FL69, rfl, hI70, f71, f72, u73, rl74, rl75, rl76, rl77⟩ := p66
          have rl78 : rl_t (FI68 152) (FL69 153) := by rw [show FI68 152 = FIv26 152 from gf_row f71 (c152 hS) (s152 hS) rfl rfl, show FL69 153 = FLv27 153 from gf_row f72 (c153 hS) (s153 hS) rfl rfl]; exact rl32
          show hw zk base _ _ _ _ _ [] _ _
          obtain ⟨x79, h80⟩ : ∃ y, FI68 121 92 = y := ⟨_, rfl⟩
          have h80l := congrArg Int32.toInt h80
          have b81 := gI_121_92 hI70; rw [h80] at b81
          have hq9 := u73; have := congrArg Int32.toInt (show FI68 121 92 = x79 from h80)
          have := (x79).toInt; have h92n := gI_121_92 hI70; rw [show FI68 121 92 = x79 from h80] at h92n
          refine hw_aloadn (aX12_meantLocation 25 rfl) rfl ?_
          refine hw_aloadn (aX12_meantLocation 26 rfl) rfl ?_
          refine hw_get (v := .int (x79)) (aX12_meantLocation 27 rfl) wf_RX12_656 (c121 hS) (s121 hS) (by decide) (congrArg Value.int (show FI68 121 92 = x79 from h80)) ?_
          refine hw_ic (v := (1 : Int32)) (aX12_meantLocation 28 rfl) (by decide) ?_
          refine xw_iadd (aX12_meantLocation 29 rfl) ?_
          refine hw_tie (A := ((x79).toInt) + (1)) (i_add rfl (by decide : (1 : Int32).toInt = 1) (by omega) (by omega)) (fun x82 e83 => ?_)
          refine hv_puti (aX12_meantLocation 30 rfl) wf_RX12_656 (c121 hS) (s121 hS) (by decide) rfl rfl (fun FI84 u85 => ?_)
          have rl86 : rl_t (FI84 152) (FL69 153) := by rw [show FI84 152 = FI68 152 from up_row u85 (by decide) rfl]; exact rl78
          have rl87 : rl_h 2 (FI84 136) (FL69 137) (FI84 138) := by rw [show FI84 136 = FI68 136 from up_row u85 (by decide) rfl, show FI84 138 = FI68 138 from up_row u85 (by decide) rfl]; exact rl74
          have rl88 : rl_h 32 (FI84 130) (FL69 131) (FI84 134) := by rw [show FI84 130 = FI68 130 from up_row u85 (by decide) rfl, show FI84 134 = FI68 134 from up_row u85 (by decide) rfl]; exact rl75
          have rl89 : rl_b (FI84 139) (FI84 140) (FI84 141) := by rw [show FI84 139 = FI68 139 from up_row u85 (by decide) rfl, show FI84 140 = FI68 140 from up_row u85 (by decide) rfl, show FI84 141 = FI68 141 from up_row u85 (by decide) rfl]; exact rl76
          have rl90 : rl_m (FI84 169) (FL69 170) := by rw [show FI84 169 = FI68 169 from up_row u85 (by decide) rfl]; exact rl77
          have hI91 : g_I FI84 := gU_121_92 hI70 u85 (by have := (e83 : (x82).toInt = ((x79).toInt) + (1)); omega) (by have := (e83 : (x82).toInt = ((x79).toInt) + (1)); omega)
          refine xw_iloadn (aX12_meantLocation 31 rfl) rfl ?_
          have j147 : ∀  (FIj107 : Nat → Nat → Int32), (g_fr n SH [(121, 29), (121, 30), (121, 31), (121, 32), (121, 33), (121, 34), (121, 37), (121, 38), (121, 90), (121, 91), (121, 92), (121, 93), (121, 94), (121, 95), (121, 101), (121, 104)] [128, 129, 130, 132, 133, 134, 135, 136, 138, 139, 140, 141, 142, 165, 166, 169, 171, 172, 174, 175] [] FI FIj107) → (g_I FIj107) → (FIj107 121 92 = x82) → (FIj107 121 94 = x1) → (FIj107 152 = FI 152) → (rl_b (FIj107 139) (FIj107 140) (FIj107 141)) → (rl_h 2 (FIj107 136) (FL69 137) (FIj107 138)) → (rl_t (FIj107 152) (FL69 153)) → (rl_m (FIj107 169) (FL69 170)) → (rl_h 32 (FIj107 130) (FL69 131) (FIj107 134)) → hw zk base (d + 9) none 256 73 [(0, .ref (base + 121)), (1, .int (a1)), (2, .int (y2))] [] (n, sl, SH, FIj107, FL69, FR) (h_V (fun s => ∃ FI' FL', s = (n, sl, SH, FI', FL', FR) ∧ g_I FI' ∧ g_fr n SH [(121, 29), (121, 30), (121, 31), (121, 32), (121, 33), (121, 34), (121, 37), (121, 38), (121, 90), (121, 91), (121, 92), (121, 93), (121, 94), (121, 95), (121, 101), (121, 104)] [128, 129, 130, 132, 133, 134, 135, 136, 138, 139, 140, 141, 142, 165, 166, 169, 171, 172, 174, 175] [] FI FI' ∧ g_fr n SH [(121, 35), (121, 36), (121, 39)] [127, 131, 137, 170, 173] [] FL FL' ∧ (1 ≤ (FI' 121 94).toInt) ∧ ((FI' 121 92).toInt.toNat = q) ∧ (rl_h 2 (FI' 136) (FL' 137) (FI' 138)) ∧ (rl_h 32 (FI' 130) (FL' 131) (FI' 134)) ∧ (rl_b (FI' 139) (FI' 140) (FI' 141)) ∧ (rl_m (FI' 169) (FL' 170)))) := by
            intro FIj107 fr108 hI109 kp110 kp111 rw112 rl113 rl114 rl115 rl116 rl117
            have := congrArg Int32.toInt kp110
            have := congrArg Int32.toInt kp111
            refine hw_aloadn (aX12_meantLocation 45 rfl) rfl ?_
            refine hw_aloadn (aX12_meantLocation 46 rfl) rfl ?_
            refine hw_get (v := .int (x82)) (aX12_meantLocation 47 rfl) wf_RX12_656 (c121 hS) (s121 hS) (by decide) (congrArg Value.int (show FIj107 121 92 = x82 from kp110)) ?_
            refine hw_ic (v := (1 : Int32)) (aX12_meantLocation 48 rfl) (by decide) ?_
            refine xw_iadd (aX12_meantLocation 49 rfl) ?_
            refine hw_tie (A := (((x79).toInt) + (1)) + (1)) (i_add e83 (by decide : (1 : Int32).toInt = 1) (by omega) (by omega)) (fun x148 e149 => ?_)
            refine hv_puti (aX12_meantLocation 50 rfl) wf_RX12_656 (c121 hS) (s121 hS) (by decide) rfl rfl (fun FI150 u151 => ?_)
            have rl152 : rl_b (FI150 139) (FI150 140) (FI150 141) := by rw [show FI150 139 = FIj107 139 from up_row u151 (by decide) rfl, show FI150 140 = FIj107 140 from up_row u151 (by decide) rfl, show FI150 141 = FIj107 141 from up_row u151 (by decide) rfl]; exact rl113
            have rl153 : rl_h 2 (FI150 136) (FL69 137) (FI150 138) := by rw [show FI150 136 = FIj107 136 from up_row u151 (by decide) rfl, show FI150 138 = FIj107 138 from up_row u151 (by decide) rfl]; exact rl114
            have rl154 : rl_t (FI150 152) (FL69 153) := by rw [show FI150 152 = FIj107 152 from up_row u151 (by decide) rfl]; exact rl115
            have rl155 : rl_m (FI150 169) (FL69 170) := by rw [show FI150 169 = FIj107 169 from up_row u151 (by decide) rfl]; exact rl116
            have rl156 : rl_h 32 (FI150 130) (FL69 131) (FI150 134) := by rw [show FI150 130 = FIj107 130 from up_row u151 (by decide) rfl, show FI150 134 = FIj107 134 from up_row u151 (by decide) rfl]; exact rl117
            have hI157 : g_I FI150 := gU_121_92 hI109 u151 (by have := (e149 : (x148).toInt = (((x79).toInt) + (1)) + (1)); omega) (by have := (e149 : (x148).toInt = (((x79).toInt) + (1)) + (1)); omega)
            refine xw_iloadn (aX12_meantLocation 51 rfl) rfl ?_
            refine hw_ic (v := (1 : Int32)) (aX12_meantLocation 52 rfl) (by decide) ?_
            refine xw_iadd (aX12_meantLocation 53 rfl) ?_
            refine hw_tie (A := ((y2).toInt) + (1)) (i_add rfl (by decide : (1 : Int32).toInt = 1) (by omega) (by omega)) (fun x158 e159 => ?_)
            refine xw_istoren (L2 := [(2, .int (x158)), (0, .ref (base + 121)), (1, .int (a1))]) (aX12_meantLocation 54 rfl) (by decide) rfl ?_
            refine hw_aloadn (aX12_meantLocation 55 rfl) rfl ?_
            refine hw_bp (v := (44 : Int32)) (aX12_meantLocation 56 rfl) (by decide) ?_
            refine hw_callV (Bs := [.int ((44 : Int32))]) (rest := []) (aX12_meantLocation 57 rfl) wc_RX12_669 (by decide) rfl wi_yX12_keepsSign wv_yX12_keepsSign (c121 hS) (s121 hS) rfl rfl rfl (Nat.le_of_ble_eq_true rfl) (Nat.le_of_ble_eq_true rfl) (n_keepsSign (d := d + 8) hS hF hI157 ((44 : Int32)) ) (fun v160 sv161 p162 => ?_)
            obtain ⟨r163, rfl, rfl, t165, u166⟩ := p162
            show hw zk base _ _ _ _ _ [.int (r163)] _ _
            have hcm := u166; have := congrArg Int32.toInt (show FI150 121 92 = x148 from up_eq u151)
            rw [show ((44 : Int32)).toInt = (44 : Int) from by decide, show FI150 152 = FI 152 from (up_row u151 (by decide) (rw112)), show FL69 153 = FL 153 from (gf_row f72 (c153 hS) (s153 hS) rfl (rw41)), show (FI150 121 92).toInt.toNat = e + 2 by omega] at hcm
            refine xw_istoren (L2 := [(3, .int (r163)), (2, .int (x158)), (0, .ref (base + 121)), (1, .int (a1))]) (aX12_meantLocation 58 rfl) (by decide) rfl ?_
            refine hw_aloadn (aX12_meantLocation 59 rfl) rfl ?_
            refine hw_aloadn (aX12_meantLocation 60 rfl) rfl ?_
            refine hw_get (v := .int (x148)) (aX12_meantLocation 61 rfl) wf_RX12_656 (c121 hS) (s121 hS) (by decide) (congrArg Value.int (show FI150 121 92 = x148 from up_eq u151)) ?_
            refine hw_ic (v := (1 : Int32)) (aX12_meantLocation 62 rfl) (by decide) ?_
            refine xw_iadd (aX12_meantLocation 63 rfl) ?_
            refine hw_tie (A := ((((x79).toInt) + (1)) + (1)) + (1)) (i_add e149 (by decide : (1 : Int32).toInt = 1) (by omega) (by omega)) (fun x167 e168 => ?_)
            refine hv_puti (aX12_meantLocation 64 rfl) wf_RX12_656 (c121 hS) (s121 hS) (by decide) rfl rfl (fun FI169 u170 => ?_)
            have rl171 : rl_b (FI169 139) (FI169 140) (FI169 141) := by rw [show FI169 139 = FI150 139 from up_row u170 (by decide) rfl, show FI169 140 = FI150 140 from up_row u170 (by decide) rfl, show FI169 141 = FI150 141 from up_row u170 (by decide) rfl]; exact rl152
            have rl172 : rl_h 2 (FI169 136) (FL69 137) (FI169 138) := by rw [show FI169 136 = FI150 136 from up_row u170 (by decide) rfl, show FI169 138 = FI150 138 from up_row u170 (by decide) rfl]; exact rl153
            have rl173 : rl_t (FI169 152) (FL69 153) := by rw [show FI169 152 = FI150 152 from up_row u170 (by decide) rfl]; exact rl154
            have rl174 : rl_m (FI169 169) (FL69 170) := by rw [show FI169 169 = FI150 169 from up_row u170 (by decide) rfl]; exact rl155
            have rl175 : rl_h 32 (FI169 130) (FL69 131) (FI169 134) := by rw [show FI169 130 = FI150 130 from up_row u170 (by decide) rfl, show FI169 134 = FI150 134 from up_row u170 (by decide) rfl]; exact rl156
            have hI176 : g_I FI169 := gU_121_92 hI157 u170 (by have := (e168 : (x167).toInt = ((((x79).toInt) + (1)) + (1)) + (1)); omega) (by have := (e168 : (x167).toInt = ((((x79).toInt) + (1)) + (1)) + (1)); omega)
            refine xw_goto (tgt := 30) (aX12_meantLocation 65 rfl) (by decide) ?_
            exact hw_L (ih (r163) (x158) FI169 FL69 (gf_f (gf_f fr108 u151 (by decide)) u170 (by decide)) (gf_tr ex_rf fr29 f72 rfl rfl rfl) hI176 (show FI169 121 94 = x1 from (up_k u170 (by decide) ((up_k u151 (by decide) (kp111))))) (show rl_t (FI169 152) (FL69 153) from rl173) (show rl_h 2 (FI169 136) (FL69 137) (FI169 138) from rl172) (show rl_h 32 (FI169 130) (FL69 131) (FI169 134) from rl175) (show rl_b (FI169 139) (FI169 140) (FI169 141) from rl171) (show rl_m (FI169 169) (FL69 170) from rl174) (by have := (e159 : (x158).toInt = ((y2).toInt) + (1)); omega) (by have := (e159 : (x158).toInt = ((y2).toInt) + (1)); omega) (by have := (e159 : (x158).toInt = ((y2).toInt) + (1)); have := congrArg Int32.toInt (show FI169 121 92 = x167 from up_eq u170); have := (e168 : (x167).toInt = ((((x79).toInt) + (1)) + (1)) + (1)); omega) (show gr_at (kf (FI 152)) (wf (FL 153)) q ((FI169 121 92).toInt).toNat (x158).toInt (r163).toInt from (by have := (e159 : (x158).toInt = ((y2).toInt) + (1)); have := congrArg Int32.toInt (show FI169 121 92 = x167 from up_eq u170); have := (e168 : (x167).toInt = ((((x79).toInt) + (1)) + (1)) + (1)); exact (by rw [show ((FI169 121 92).toInt).toNat = e + 3 by omega, show ((x158).toInt : Int) = (y2).toInt + 1 by omega]; exact hnx _ ⟨by omega, hcm⟩))) (show FI169 152 = FI 152 from (up_row u170 (by decide) ((up_row u151 (by decide) (rw112))))) (show FL69 153 = FL 153 from (gf_row f72 (c153 hS) (s153 hS) rfl (rw41))) (by have := (e159 : (x158).toInt = ((y2).toInt) + (1)); have := congrArg Int32.toInt (show FI169 121 92 = x167 from up_eq u170); have := (e168 : (x167).toInt = ((((x79).toInt) + (1)) + (1)) + (1)); omega)) ⟨rfl, rfl, rfl, rfl, trivial⟩
          refine hw_ifeq (tgt := 73) (aX12_meantLocation 32 rfl) (by decide) rfl (fun cd177 => ?_) (fun cd177 => ?_)
          · exact hw_L (j147 FI84 (gf_f (gf_tr ex_rf fr28 f71 rfl rfl rfl) u85 (by decide)) hI91 (show FI84 121 92 = x82 from up_eq u85) (show FI84 121 94 = x1 from (up_k u85 (by decide) ((gf_at f71 (c121 hS) (s121 hS) rfl (kp31))))) (show FI84 152 = FI 152 from (up_row u85 (by decide) ((gf_row f71 (c152 hS) (s152 hS) rfl (rw40))))) (show rl_b (FI84 139) (FI84 140) (FI84 141) from rl89) (show rl_h 2 (FI84 136) (FL69 137) (FI84 138) from rl87) (show rl_t (FI84 152) (FL69 153) from rl86) (show rl_m (FI84 169) (FL69 170) from rl90) (show rl_h 32 (FI84 130) (FL69 131) (FI84 134) from rl88)) ⟨rfl, rfl, rfl, trivial⟩
          · refine hw_aloadn (aX12_meantLocation 33 rfl) rfl ?_
            refine hw_get (v := .ref (base + 171)) (aX12_meantLocation 34 rfl) wf_RX12_172 (c121 hS) (s121 hS) (by decide) (congrArg (fun r => va_rf (h_rf base r)) (r121_98 hF)) ?_
            refine xw_iloadn (aX12_meantLocation 35 rfl) rfl ?_
            refine hw_bp (v := (8 : Int32)) (aX12_meantLocation 36 rfl) (by decide) ?_
            refine hw_aloadn (aX12_meantLocation 37 rfl) rfl ?_
            refine hw_get (v := .ref (base + 153)) (aX12_meantLocation 38 rfl) wf_RX12_117 (c121 hS) (s121 hS) (by decide) (congrArg (fun r => va_rf (h_rf base r)) (r121_66 hF)) ?_
            refine hw_aloadn (aX12_meantLocation 39 rfl) rfl ?_
            refine hw_get (v := .int (x82)) (aX12_meantLocation 40 rfl) wf_RX12_656 (c121 hS) (s121 hS) (by decide) (congrArg Value.int (show FI84 121 92 = x82 from up_eq u85)) ?_
            obtain ⟨x178, h179⟩ : ∃ y, FL69 153 (x82).toNatClampNeg = y := ⟨_, rfl⟩
            have h179l := congrArg Int64.toInt h179
            have := l_rng x178
            refine hw_lald (v := x178) (aX12_meantLocation 41 rfl) (c153 hS) (s153 hS) (h_in e83 (by omega) (by omega)) (show FL69 153 (x82).toNatClampNeg = x178 from h179) ?_
            refine xw_l2i (aX12_meantLocation 42 rfl) ?_
            refine hw_ti (fun x180 => ?_)
            have b181 := i_rng x180
            refine xw_imul (aX12_meantLocation 43 rfl) ?_
            refine hw_ti (fun x182 => ?_)
            have b183 := i_rng x182
            refine hv_iast (k := (y2).toNatClampNeg) (aX12_meantLocation 44 rfl) (c171 hS) (s171 hS) (h_in rfl (by omega) (by omega)) rfl (fun FI184 u185 => ?_)
            have rl186 : rl_t (FI184 152) (FL69 153) := by rw [show FI184 152 = FI84 152 from up_row u185 (by decide) rfl]; exact rl86
            have rl187 : rl_h 2 (FI184 136) (FL69 137) (FI184 138) := by rw [show FI184 136 = FI84 136 from up_row u185 (by decide) rfl, show FI184 138 = FI84 138 from up_row u185 (by decide) rfl]; exact rl87
            have rl188 : rl_h 32 (FI184 130) (FL69 131) (FI184 134) := by rw [show FI184 130 = FI84 130 from up_row u185 (by decide) rfl, show FI184 134 = FI84 134 from up_row u185 (by decide) rfl]; exact rl88
            have rl189 : rl_b (FI184 139) (FI184 140) (FI184 141) := by rw [show FI184 139 = FI84 139 from up_row u185 (by decide) rfl, show FI184 140 = FI84 140 from up_row u185 (by decide) rfl, show FI184 141 = FI84 141 from up_row u185 (by decide) rfl]; exact rl89
            have rl190 : rl_m (FI184 169) (FL69 170) := by rw [show FI184 169 = FI84 169 from up_row u185 (by decide) rfl]; exact rl90
            have hI191 : g_I FI184 := gU_F hI91 u185 rfl
            exact hw_L (j147 FI184 (gf_a (gf_f (gf_tr ex_rf fr28 f71 rfl rfl rfl) u85 (by decide)) u185 (by decide)) hI191 (show FI184 121 92 = x82 from (up_c u185 (by decide) (up_eq u85))) (show FI184 121 94 = x1 from (up_c u185 (by decide) ((up_k u85 (by decide) ((gf_at f71 (c121 hS) (s121 hS) rfl (kp31))))))) (show FI184 152 = FI 152 from (up_row u185 (by decide) ((up_row u85 (by decide) ((gf_row f71 (c152 hS) (s152 hS) rfl (rw40))))))) (show rl_b (FI184 139) (FI184 140) (FI184 141) from rl189) (show rl_h 2 (FI184 136) (FL69 137) (FI184 138) from rl187) (show rl_t (FI184 152) (FL69 153) from rl186) (show rl_m (FI184 169) (FL69 170) from rl190) (show rl_h 32 (FI184 130) (FL69 131) (FI184 134) from rl188)) ⟨rfl, rfl, rfl, trivial⟩
    exact hw_L (lp42 ((2 * (1001 - (x16).toInt) + 1 : Int).toNat + 1) ((1 : Int32)) ((0 : Int32)) FI18 FL (gf_f gf_rf u19 (by decide)) gf_rf hI25 (show FI18 121 94 = x1 from (up_k u19 (by decide) (h2))) (show rl_t (FI18 152) (FL 153) from rl20) (show rl_h 2 (FI18 136) (FL 137) (FI18 138) from rl21) (show rl_h 32 (FI18 130) (FL 131) (FI18 134) from rl22) (show rl_b (FI18 139) (FI18 140) (FI18 141) from rl23) (show rl_m (FI18 169) (FL 170) from rl24) (by have := ((by decide : (1 : Int32).toInt = 1) : ((1 : Int32)).toInt = 1); have := ((by decide : (0 : Int32).toInt = 0) : ((0 : Int32)).toInt = 0); omega) (by have := ((by decide : (1 : Int32).toInt = 1) : ((1 : Int32)).toInt = 1); have := ((by decide : (0 : Int32).toInt = 0) : ((0 : Int32)).toInt = 0); omega) (by have := ((by decide : (1 : Int32).toInt = 1) : ((1 : Int32)).toInt = 1); have := ((by decide : (0 : Int32).toInt = 0) : ((0 : Int32)).toInt = 0); have := congrArg Int32.toInt (show FI18 121 92 = x16 from up_eq u19); have := (e17 : (x16).toInt = ((x4).toInt) + (1)); omega) (show gr_at (kf (FI 152)) (wf (FL 153)) q ((FI18 121 92).toInt).toNat 0 1 from (by have := ((by decide : (1 : Int32).toInt = 1) : ((1 : Int32)).toInt = 1); have := ((by decide : (0 : Int32).toInt = 0) : ((0 : Int32)).toInt = 0); have := congrArg Int32.toInt (show FI18 121 92 = x16 from up_eq u19); have := (e17 : (x16).toInt = ((x4).toInt) + (1)); exact (by rw [show ((FI18 121 92).toInt).toNat = (FI 121 92).toInt.toNat + 1 by omega, show (0 : Int) = 0 by omega, show (1 : Int) = 1 by omega]; exact gr_at_0 hpts hk8))) (show FI18 152 = FI 152 from (up_row u19 (by decide) (rfl))) (show FL 153 = FL 153 from rfl) (by have := ((by decide : (1 : Int32).toInt = 1) : ((1 : Int32)).toInt = 1); have := ((by decide : (0 : Int32).toInt = 0) : ((0 : Int32)).toInt = 0); have := congrArg Int32.toInt (show FI18 121 92 = x16 from up_eq u19); have := (e17 : (x16).toInt = ((x4).toInt) + (1)); omega)) ⟨rfl, rfl, rfl, rfl, trivial⟩
  · have hncu : ¬ gr_cu (kf (FI 152)) (wf (FL 153)) (FI 121 92).toInt.toNat := fun h => by have := u14.mpr (by rw [show ((123 : Int32)).toInt = (123 : Int) from by decide]; exact h); omega
    have hgp : gr_pl (kf (FI 152)) (wf (FL 153)) (FI 121 92).toInt.toNat q := by rcases gg0 with ⟨-, h⟩ | ⟨h, -⟩; { exact h }; { exact absurd h hncu }
    refine hw_aloadn (aX12_meantLocation 4 rfl) rfl ?_
    refine xw_iloadn (aX12_meantLocation 5 rfl) rfl ?_
    refine hw_ic (v := (0 : Int32)) (aX12_meantLocation 6 rfl) (by decide) ?_
    refine hw_callV (Bs := [.int (a1), .int ((0 : Int32))]) (rest := []) (aX12_meantLocation 7 rfl) wc_RX12_672 (by decide) rfl wi_yX12_meantPlace wv_yX12_meantPlace (c121 hS) (s121 hS) rfl rfl rfl (Nat.le_of_ble_eq_true rfl) (Nat.le_of_ble_eq_true rfl) (n_meantPlace (d := d) hS hF hI (a1) ((0 : Int32)) (q) (by omega) (by have := ((by decide : (0 : Int32).toInt = 0) : ((0 : Int32)).toInt = 0); have := ((by decide : (0 : Int32).toInt = 0) : ((0 : Int32)).toInt = 0); omega) (hgp) (gg1) (show rl_t (FI 152) (FL 153) from rel_kept) (show rl_h 2 (FI 136) (FL 137) (FI 138) from rel_hold) (show rl_h 32 (FI 130) (FL 131) (FI 134) from rel_piece) (show rl_b (FI 139) (FI 140) (FI 141) from rel_back) (show rl_m (FI 169) (FL 170) from rel_mean)) (fun v192 sv193 p194 => ?_)
    obtain ⟨rfl, FI196, FL197, rfl, hI198, f199, f200, u201, rl202, rl203, rl204, rl205⟩ := p194
    have rl206 : rl_t (FI196 152) (FL197 153) := by rw [show FI196 152 = FI 152 from gf_row f199 (c152 hS) (s152 hS) rfl rfl, show FL197 153 = FL 153 from gf_row f200 (c153 hS) (s153 hS) rfl rfl]; exact rel_kept
    show hw zk base _ _ _ _ _ [] _ _
    obtain ⟨x207, h208⟩ : ∃ y, FI196 121 92 = y := ⟨_, rfl⟩
    have h208l := congrArg Int32.toInt h208
    have b209 := gI_121_92 hI198; rw [h208] at b209
    have hq9 := u201; have := congrArg Int32.toInt (show FI196 121 92 = x207 from h208)
    have := (x207).toInt; have h92n := gI_121_92 hI198; rw [show FI196 121 92 = x207 from h208] at h92n
    refine xw_vret (aX12_meantLocation 8 rfl) rfl ?_
    exact ⟨rfl, FI196, FL197, rfl, hI198, (gf_tr ex_rf gf_rf f199 rfl rfl rfl), (gf_tr ex_rf gf_rf f200 rfl rfl rfl), (by have := congrArg Int32.toInt (show FI196 121 94 = x1 from (gf_at f199 (c121 hS) (s121 hS) rfl (h2))); omega), (by have := congrArg Int32.toInt (show FI196 121 92 = x207 from h208); omega), (show rl_h 2 (FI196 136) (FL197 137) (FI196 138) from rl202), (show rl_h 32 (FI196 130) (FL197 131) (FI196 134) from rl203), (show rl_b (FI196 139) (FI196 140) (FI196 141) from rl204), (show rl_m (FI196 169) (FL197 170) from rl205)⟩
end
