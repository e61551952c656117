section
/-! One step of the walk, by the token that stands there. -/
section AUD
variable {K W : Nat → Int} {p q : Nat} {b : Bool} {l m : List Int}
theorem au_st_bin {c : Int} (h : au_st K W p false l q b m) (hb : au_bn (K p) (W p) = c) (hc : c ≠ 0) : q = p + 1 ∧ b = true ∧ m = c :: au_red c l := by
  rcases h with ⟨h, -⟩ | ⟨h, -⟩ | ⟨h, -⟩ | ⟨h, -⟩ | ⟨-, h1, h2, h3, h4⟩ | ⟨-, h1, h2, -⟩ | ⟨-, h1, h2, -⟩ | ⟨-, h1, h2, -⟩
  · cases h
  · cases h
  · cases h
  · cases h
  · exact ⟨h2, h3, by rw [← hb]; exact h4⟩
  · exact absurd (by rw [← hb, h1, h2]; decide) hc
  · exact absurd (by rw [← hb, h1, h2]; decide) hc
  · exact absurd (by rw [← hb, h1, h2]; decide) hc
theorem au_st_qm (h : au_st K W p false l q b m) (hk : K p = 5) (hw : W p = 63) : q = p + 1 ∧ b = true ∧ m = -2 :: au_red 1 l := by
  rcases h with ⟨h, -⟩ | ⟨h, -⟩ | ⟨h, -⟩ | ⟨h, -⟩ | ⟨-, h1, -⟩ | ⟨-, h1, h2, h3, h4, h5⟩ | ⟨-, h1, h2, -⟩ | ⟨-, h1, h2, -⟩
  · cases h
  · cases h
  · cases h
  · cases h
  · exact absurd (by rw [hk, hw]; decide) h1
  · exact ⟨h3, h4, h5⟩
  · omega
  · omega
theorem au_st_co (h : au_st K W p false l q b m) (hk : K p = 5) (hw : W p = 58) : ∃ r, au_all l = -2 :: r ∧ q = p + 1 ∧ b = true ∧ m = -3 :: r := by
  rcases h with ⟨h, -⟩ | ⟨h, -⟩ | ⟨h, -⟩ | ⟨h, -⟩ | ⟨-, h1, -⟩ | ⟨-, h1, h2, -⟩ | ⟨-, h1, h2, ⟨r, h3, h4⟩, h5, h6⟩ | ⟨-, h1, h2, -⟩
  · cases h
  · cases h
  · cases h
  · cases h
  · exact absurd (by rw [hk, hw]; decide) h1
  · omega
  · exact ⟨r, h3, h5, h6, h4⟩
  · omega
theorem au_st_rp (h : au_st K W p false l q b m) (hk : K p = 5) (hw : W p = 41) : ∃ r, au_all l = -1 :: r ∧ q = p + 1 ∧ b = false ∧ m = au_fin r := by
  rcases h with ⟨h, -⟩ | ⟨h, -⟩ | ⟨h, -⟩ | ⟨h, -⟩ | ⟨-, h1, -⟩ | ⟨-, h1, h2, -⟩ | ⟨-, h1, h2, -⟩ | ⟨-, h1, h2, ⟨r, h3, h4⟩, h5, h6⟩
  · cases h
  · cases h
  · cases h
  · cases h
  · exact absurd (by rw [hk, hw]; decide) h1
  · omega
  · omega
  · exact ⟨r, h3, h5, h6, h4⟩
theorem au_st_no (h : au_st K W p false l q b m) (hb : au_bn (K p) (W p) = 0) (hq : ¬ (K p = 5 ∧ W p = 63)) : (K p = 5 ∧ W p = 58) ∨ (K p = 5 ∧ W p = 41) := by
  rcases h with ⟨h, -⟩ | ⟨h, -⟩ | ⟨h, -⟩ | ⟨h, -⟩ | ⟨-, h1, -⟩ | ⟨-, h1, h2, -⟩ | ⟨-, h1, h2, -⟩ | ⟨-, h1, h2, -⟩
  · cases h
  · cases h
  · cases h
  · cases h
  · exact absurd hb h1
  · exact absurd ⟨h1, h2⟩ hq
  · exact Or.inl ⟨h1, h2⟩
  · exact Or.inr ⟨h1, h2⟩
theorem au_st_t (h : au_st K W p true l q b m) : (au_un (K p) (W p) ∧ q = p + 1 ∧ b = true ∧ m = 9 :: l) ∨ (K p = 5 ∧ W p = 40 ∧ q = p + 1 ∧ b = true ∧ m = -1 :: l) ∨ ((K p = 3 ∨ (K p = 2 ∧ (W p = 4 ∨ W p = 5 ∨ W p = 6))) ∧ q = p + 1 ∧ b = false ∧ m = au_fin l) ∨ (K p = 5 ∧ W p = 37 ∧ K (p + 1) = 3 ∧ W (p + 1) ≤ 31 ∧ q = p + 2 ∧ b = false ∧ m = au_fin l) := by
  rcases h with ⟨-, h⟩ | ⟨-, h⟩ | ⟨-, h⟩ | ⟨-, h⟩ | ⟨h, -⟩ | ⟨h, -⟩ | ⟨h, -⟩ | ⟨h, -⟩
  · exact Or.inl h
  · exact Or.inr (Or.inl h)
  · exact Or.inr (Or.inr (Or.inl h))
  · exact Or.inr (Or.inr (Or.inr h))
  · cases h
  · cases h
  · cases h
  · cases h
end AUD
def q37 (k : Int) : Int := (37 : Int) ^ k.toNat
theorem q37_0 {x : Int} (h : x ≤ 9223372036854775807) : x < q37 (13 - 0) := by
  have : q37 (13 - 0) = 243569224216081305397 := by decide
  omega
theorem q37_s {x k : Int} (h : x < q37 (13 - k)) (h0 : 0 < x) (h1 : k < 13) : x / 37 < q37 (13 - (k + 1)) := by
  unfold q37 at *
  rw [show (13 - k).toNat = (13 - (k + 1)).toNat + 1 by omega, Int.pow_succ] at h
  omega
theorem q37_e {x k : Int} (h : x < q37 (13 - k)) (h1 : 13 ≤ k) : x ≤ 0 := by
  unfold q37 at h
  rw [show (13 - k).toNat = 0 by omega] at h
  omega
theorem au_vc_fin : ∀ {l : List Int}, au_vc (au_fin l) = au_vc l
  | [] => rfl
  | x :: l => by
    unfold au_fin
    rw [List.dropWhile_cons]
    split
    · rename_i hx
      have hx := of_decide_eq_true hx
      subst hx
      rw [show au_vc (9 :: l) = au_vc l from by simp [au_vc]]
      exact au_vc_fin
    · rfl
end
section
def nX12_variable : Nat := 0xac02ac2e646410601c60681b580211e02e111100b42a1700a22e601b14101400b42a6464101c2700a2e803111c2e00a164101cac60151006150800a760601006150b00a31a10061506368871c701140416edffa701068404376dc7011404161100a264041d0615063664e803111c04372f1b7b00b42a4600a21d64e803111c4f00a1e803111cac1d0500a0051cac2e601b14101400b42a0d00a0041cac2e1b7e00b42a0a009a1cedffa704376dc7011404163e60041d12009e9409041604372f1b7b00b42a3e03ac020500a10c02b42a1b0b009b1bbb00b5032a
theorem bX12_variable : cX12_variable.data.toList.map UInt8.toNat = x_un nX12_variable 218 := by decide +kernel
def iX12_variable : List (Nat × Jvm.ClassFile.Instr × Nat) := [(0, .aload_n 0, 1), (1, .iconst 0, 1), (2, .putfield 187, 3), (5, .iload_n 1, 1), (6, .ifCond .lt 11, 3), (9, .iload_n 1, 1), (10, .aload_n 0, 1), (11, .getfield 524, 3), (14, .if_icmp .lt 5, 3), (17, .iconst (-1), 1), (18, .ireturn, 1), (19, .iconst 0, 1), (20, .istore_n 3, 1), (21, .aload_n 0, 1), (22, .getfield 123, 3), (25, .iload_n 1, 1), (26, .laload, 1), (27, .lstore 4, 2), (29, .lload 4, 2), (31, .lconst 0, 1), (32, .lcmp, 1), (33, .ifCond .le 18, 3), (36, .iload_n 3, 1), (37, .iconst 1, 1), (38, .iadd, 1), (39, .istore_n 3, 1), (40, .lload 4, 2), (42, .ldc2_w 455, 3), (45, .ldiv, 1), (46, .lstore 4, 2), (48, .goto (-19), 3), (51, .iload_n 2, 1), (52, .ifCond .ne 10, 3), (55, .aload_n 0, 1), (56, .getfield 126, 3), (59, .iload_n 1, 1), (60, .iaload, 1), (61, .ireturn, 1), (62, .iload_n 2, 1), (63, .iconst 1, 1), (64, .if_icmp .ne 13, 3), (67, .aload_n 0, 1), (68, .getfield 20, 3), (71, .bipush 20, 2), (73, .iload_n 1, 1), (74, .iadd, 1), (75, .iaload, 1), (76, .ireturn, 1), (77, .iload_n 2, 1), (78, .iconst 2, 1), (79, .if_icmp .ne 5, 3), (82, .iload_n 3, 1), (83, .ireturn, 1), (84, .iload_n 2, 1), (85, .sipush 1000, 3), (88, .if_icmp .lt 79, 3), (91, .iload_n 2, 1), (92, .sipush 1000, 3), (95, .isub, 1), (96, .iload_n 3, 1), (97, .if_icmp .ge 70, 3), (100, .aload_n 0, 1), (101, .getfield 123, 3), (104, .iload_n 1, 1), (105, .laload, 1), (106, .lstore 4, 2), (108, .iload_n 2, 1), (109, .sipush 1000, 3), (112, .isub, 1), (113, .istore 6, 2), (115, .iload 6, 2), (117, .iload_n 3, 1), (118, .iconst 1, 1), (119, .isub, 1), (120, .if_icmp .ge 17, 3), (123, .lload 4, 2), (125, .ldc2_w 455, 3), (128, .ldiv, 1), (129, .lstore 4, 2), (131, .iinc 6 1, 3), (134, .goto (-19), 3), (137, .lload 4, 2), (139, .ldc2_w 455, 3), (142, .lrem, 1), (143, .l2i, 1), (144, .istore 6, 2), (146, .iload 6, 2), (148, .bipush 26, 2), (150, .if_icmp .gt 11, 3), (153, .iload 6, 2), (155, .bipush 96, 2), (157, .iadd, 1), (158, .goto 8, 3), (161, .iload 6, 2), (163, .bipush 21, 2), (165, .iadd, 1), (166, .ireturn, 1), (167, .iload_n 2, 1), (168, .bipush 100, 2), (170, .if_icmp .lt 46, 3), (173, .iload_n 2, 1), (174, .sipush 1000, 3), (177, .if_icmp .ge 39, 3), (180, .iload_n 2, 1), (181, .bipush 100, 2), (183, .isub, 1), (184, .aload_n 0, 1), (185, .getfield 20, 3), (188, .bipush 20, 2), (190, .iload_n 1, 1), (191, .iadd, 1), (192, .iaload, 1), (193, .if_icmp .ge 23, 3), (196, .aload_n 0, 1), (197, .getfield 17, 3), (200, .sipush 12000, 3), (203, .sipush 600, 3), (206, .iload_n 1, 1), (207, .imul, 1), (208, .iadd, 1), (209, .iload_n 2, 1), (210, .iadd, 1), (211, .bipush 100, 2), (213, .isub, 1), (214, .iaload, 1), (215, .ireturn, 1), (216, .iconst (-1), 1), (217, .ireturn, 1)]
theorem dX12_variable : x_il nX12_variable 218 iX12_variable = true := by decide +kernel
theorem aX12_variable (k : Nat) {pc : Nat} {i : Jvm.ClassFile.Instr} {len : Nat} (hk : iX12_variable[k]? = some (pc, i, len)) : x_at xMM 251 pc i len yX12_variable 7 (some .int) := ⟨cX12_variable, rfl, x_il_ok bX12_variable dX12_variable k hk⟩
set_option maxHeartbeats 4000000 in
set_option maxRecDepth 100000 in
theorem n_variable {zk : xK} {base d n sl : Nat} {SH : Nat → Nat × Nat} {FI : Nat → Nat → Int32} {FL : Nat → Nat → Int64} {FR : Nat → Nat → Option Nat} (hS : h_S n SH) (hF : h_FR FR) (hI : g_I FI) (a1 : Int32) (a2 : Int32) : hw zk base d none 251 0 [(0, .ref (base + 121)), (1, .int (a1)), (2, .int (a2))] [] (n, sl, SH, FI, FL, FR) (h_I (fun r s => ∃ FI', s = (n, sl, SH, FI', FL, FR) ∧ g_I FI' ∧ g_fr n SH [(121, 0)] [] [] FI FI')) := by
  have rg_a1 := i_rng a1
  have rg_a2 := i_rng a2
  refine hw_aloadn (aX12_variable 0 rfl) rfl ?_
  refine hw_ic (v := (0 : Int32)) (aX12_variable 1 rfl) (by decide) ?_
  refine hv_puti (aX12_variable 2 rfl) wf_RX12_187 (c121 hS) (s121 hS) (by decide) rfl rfl (fun FI1 u2 => ?_)
  have hI3 : g_I FI1 := gU_F hI u2 rfl
  refine xw_iloadn (aX12_variable 3 rfl) rfl ?_
  refine hw_iflt (tgt := 17) (aX12_variable 4 rfl) (by decide) rfl (fun cd4 => ?_) (fun cd4 => ?_)
  · refine hw_ic (v := ((-1) : Int32)) (aX12_variable 9 rfl) (by decide) ?_
    refine xw_iret (aX12_variable 10 rfl) rfl rfl ?_
    have e5 : (((-1) : Int32)).toInt = (-1) := (by decide : ((-1) : Int32).toInt = (-1))
    exact ⟨((-1) : Int32), rfl, FI1, rfl, hI3, (gf_f gf_rf u2 (by decide))⟩
  · refine xw_iloadn (aX12_variable 5 rfl) rfl ?_
    refine hw_aloadn (aX12_variable 6 rfl) rfl ?_
    obtain ⟨x6, h7⟩ : ∃ y, FI1 121 74 = y := ⟨_, rfl⟩
    have h7l := congrArg Int32.toInt h7
    have b8 := gI_121_74 hI3; rw [h7] at b8
    refine hw_get (v := .int (x6)) (aX12_variable 7 rfl) wf_RX12_524 (c121 hS) (s121 hS) (by decide) (congrArg Value.int (show FI1 121 74 = x6 from h7)) ?_
    refine hw_iclt (tgt := 19) (aX12_variable 8 rfl) (by decide) rfl rfl (fun cd9 => ?_) (fun cd9 => ?_)
    · refine hw_ic (v := (0 : Int32)) (aX12_variable 11 rfl) (by decide) ?_
      refine xw_istoren (L2 := [(3, .int ((0 : Int32))), (0, .ref (base + 121)), (1, .int (a1)), (2, .int (a2))]) (aX12_variable 12 rfl) (by decide) rfl ?_
      refine hw_aloadn (aX12_variable 13 rfl) rfl ?_
      refine hw_get (v := .ref (base + 155)) (aX12_variable 14 rfl) wf_RX12_123 (c121 hS) (s121 hS) (by decide) (congrArg (fun r => va_rf (h_rf base r)) (r121_75 hF)) ?_
      refine xw_iloadn (aX12_variable 15 rfl) rfl ?_
      obtain ⟨x10, h11⟩ : ∃ y, FL 155 (a1).toNatClampNeg = y := ⟨_, rfl⟩
      have h11l := congrArg Int64.toInt h11
      have := l_rng x10
      refine hw_lald (v := x10) (aX12_variable 16 rfl) (c155 hS) (s155 hS) (h_in rfl (by omega) (by omega)) (show FL 155 (a1).toNatClampNeg = x10 from h11) ?_
      refine xw_lstore (L2 := [(4, .long (x10)), (3, .int ((0 : Int32))), (0, .ref (base + 121)), (1, .int (a1)), (2, .int (a2))]) (aX12_variable 17 rfl) (by decide) rfl ?_
      have lp13 : ∀ (m : Nat) (y4 : Int64) (y3 : Int32), (0 ≤ (y3).toInt ∧ (y3).toInt ≤ 13) → ((y4).toInt < q37 (13 - (y3).toInt)) → max (y4).toInt 0 < m → hw zk base d none 251 29 [(4, .long (y4)), (3, .int (y3)), (0, .ref (base + 121)), (1, .int (a1)), (2, .int (a2))] [] (n, sl, SH, FI1, FL, FR) (h_I (fun r s => ∃ FI', s = (n, sl, SH, FI', FL, FR) ∧ g_I FI' ∧ g_fr n SH [(121, 0)] [] [] FI FI')) := by
        intro m
        induction m with
        | zero => intro y4 y3 iv12 xi29_0 hm; omega
        | succ m ih =>
          intro y4 y3 iv12 xi29_0 hm
          have rg_y4 := l_rng y4
          have rg_y3 := i_rng y3
          refine xw_lload (aX12_variable 18 rfl) rfl ?_
          refine hw_lc (v := (0 : Int64)) (aX12_variable 19 rfl) (by decide) ?_
          refine hw_lcle (tgt := 51) (aX12_variable 20 rfl) (aX12_variable 21 rfl) (by decide) rfl (by decide : (0 : Int64).toInt = 0) (fun cd14 => ?_) (fun cd14 => ?_)
          · refine xw_iloadn (aX12_variable 31 rfl) rfl ?_
            refine hw_ifne (tgt := 62) (aX12_variable 32 rfl) (by decide) rfl (fun cd15 => ?_) (fun cd15 => ?_)
            · refine xw_iloadn (aX12_variable 38 rfl) rfl ?_
              refine hw_ic (v := (1 : Int32)) (aX12_variable 39 rfl) (by decide) ?_
              refine hw_icne (tgt := 77) (aX12_variable 40 rfl) (by decide) rfl (by decide : (1 : Int32).toInt = 1) (fun cd16 => ?_) (fun cd16 => ?_)
              · refine xw_iloadn (aX12_variable 48 rfl) rfl ?_
                refine hw_ic (v := (2 : Int32)) (aX12_variable 49 rfl) (by decide) ?_
                refine hw_icne (tgt := 84) (aX12_variable 50 rfl) (by decide) rfl (by decide : (2 : Int32).toInt = 2) (fun cd17 => ?_) (fun cd17 => ?_)
                · refine xw_iloadn (aX12_variable 53 rfl) rfl ?_
                  refine hw_sp (v := (1000 : Int32)) (aX12_variable 54 rfl) (by decide) ?_
                  refine hw_iclt (tgt := 167) (aX12_variable 55 rfl) (by decide) rfl (by decide : (1000 : Int32).toInt = 1000) (fun cd18 => ?_) (fun cd18 => ?_)
                  · refine xw_iloadn (aX12_variable 97 rfl) rfl ?_
                    refine hw_bp (v := (100 : Int32)) (aX12_variable 98 rfl) (by decide) ?_
                    refine hw_iclt (tgt := 216) (aX12_variable 99 rfl) (by decide) rfl (by decide : (100 : Int32).toInt = 100) (fun cd19 => ?_) (fun cd19 => ?_)
                    · refine hw_ic (v := ((-1) : Int32)) (aX12_variable 126 rfl) (by decide) ?_
                      refine xw_iret (aX12_variable 127 rfl) rfl rfl ?_
                      have e20 : (((-1) : Int32)).toInt = (-1) := (by decide : ((-1) : Int32).toInt = (-1))
                      exact ⟨((-1) : Int32), rfl, FI1, rfl, hI3, (gf_f gf_rf u2 (by decide))⟩
                    · refine xw_iloadn (aX12_variable 100 rfl) rfl ?_
                      refine hw_sp (v := (1000 : Int32)) (aX12_variable 101 rfl) (by decide) ?_
                      refine hw_icge (tgt := 216) (aX12_variable 102 rfl) (by decide) rfl (by decide : (1000 : Int32).toInt = 1000) (fun cd21 => ?_) (fun cd21 => ?_)
                      · omega
                      · refine xw_iloadn (aX12_variable 103 rfl) rfl ?_
                        refine hw_bp (v := (100 : Int32)) (aX12_variable 104 rfl) (by decide) ?_
                        refine xw_isub (aX12_variable 105 rfl) ?_
                        refine hw_tie (A := ((a2).toInt) - (100)) (i_sub rfl (by decide : (100 : Int32).toInt = 100) (by omega) (by omega)) (fun x22 e23 => ?_)
                        refine hw_aloadn (aX12_variable 106 rfl) rfl ?_
                        refine hw_get (v := .ref (base + 125)) (aX12_variable 107 rfl) wf_RX12_20 (c121 hS) (s121 hS) (by decide) (congrArg (fun r => va_rf (h_rf base r)) (r121_4 hF)) ?_
                        refine hw_bp (v := (20 : Int32)) (aX12_variable 108 rfl) (by decide) ?_
                        refine xw_iloadn (aX12_variable 109 rfl) rfl ?_
                        refine xw_iadd (aX12_variable 110 rfl) ?_
                        refine hw_tie (A := (20) + ((a1).toInt)) (i_add (by decide : (20 : Int32).toInt = 20) rfl (by omega) (by omega)) (fun x24 e25 => ?_)
                        obtain ⟨x26, h27⟩ : ∃ y, FI1 125 (x24).toNatClampNeg = y := ⟨_, rfl⟩
                        have h27l := congrArg Int32.toInt h27
                        have := i_rng x26
                        refine hw_iald (v := x26) (aX12_variable 111 rfl) (c125 hS) (s125 hS) (h_in e25 (by omega) (by omega)) (show FI1 125 (x24).toNatClampNeg = x26 from h27) ?_
                        have b28 := gI_125 hI3 (i_lt (x := x24) e25 (by omega) (by omega)); rw [h27] at b28
                        refine hw_icge (tgt := 216) (aX12_variable 112 rfl) (by decide) e23 rfl (fun cd29 => ?_) (fun cd29 => ?_)
                        · refine hw_ic (v := ((-1) : Int32)) (aX12_variable 126 rfl) (by decide) ?_
                          refine xw_iret (aX12_variable 127 rfl) rfl rfl ?_
                          have e30 : (((-1) : Int32)).toInt = (-1) := (by decide : ((-1) : Int32).toInt = (-1))
                          exact ⟨((-1) : Int32), rfl, FI1, rfl, hI3, (gf_f gf_rf u2 (by decide))⟩
                        · have e31 : 100 ≤ (a2).toInt ∧ (a2).toInt ≤ 999 := by omega
                          refine hw_aloadn (aX12_variable 113 rfl) rfl ?_
                          refine hw_get (v := .ref (base + 124)) (aX12_variable 114 rfl) wf_RX12_17 (c121 hS) (s121 hS) (by decide) (congrArg (fun r => va_rf (h_rf base r)) (r121_3 hF)) ?_
                          refine hw_sp (v := (12000 : Int32)) (aX12_variable 115 rfl) (by decide) ?_
                          refine hw_sp (v := (600 : Int32)) (aX12_variable 116 rfl) (by decide) ?_
                          refine xw_iloadn (aX12_variable 117 rfl) rfl ?_
                          refine xw_imul (aX12_variable 118 rfl) ?_
                          refine hw_tie (A := (600) * ((a1).toInt)) (i_mul (by decide : (600 : Int32).toInt = 600) rfl (by omega) (by omega)) (fun x32 e33 => ?_)
                          refine xw_iadd (aX12_variable 119 rfl) ?_
                          refine hw_tie (A := (12000) + ((600) * ((a1).toInt))) (i_add (by decide : (12000 : Int32).toInt = 12000) e33 (by omega) (by omega)) (fun x34 e35 => ?_)
                          refine xw_iloadn (aX12_variable 120 rfl) rfl ?_
                          refine xw_iadd (aX12_variable 121 rfl) ?_
                          refine hw_tie (A := ((12000) + ((600) * ((a1).toInt))) + ((a2).toInt)) (i_add e35 rfl (by omega) (by omega)) (fun x36 e37 => ?_)
                          refine hw_bp (v := (100 : Int32)) (aX12_variable 122 rfl) (by decide) ?_
                          refine xw_isub (aX12_variable 123 rfl) ?_
                          refine hw_tie (A := (((12000) + ((600) * ((a1).toInt))) + ((a2).toInt)) - (100)) (i_sub e37 (by decide : (100 : Int32).toInt = 100) (by omega) (by omega)) (fun x38 e39 => ?_)
                          obtain ⟨x40, h41⟩ : ∃ y, FI1 124 (x38).toNatClampNeg = y := ⟨_, rfl⟩
                          have h41l := congrArg Int32.toInt h41
                          have := i_rng x40
                          refine hw_iald (v := x40) (aX12_variable 124 rfl) (c124 hS) (s124 hS) (h_in e39 (by omega) (by omega)) (show FI1 124 (x38).toNatClampNeg = x40 from h41) ?_
                          have b42 := gI_124 hI3 (i_lt (x := x38) e39 (by omega) (by omega)); rw [h41] at b42
                          refine xw_iret (aX12_variable 125 rfl) rfl rfl ?_
                          exact ⟨x40, rfl, FI1, rfl, hI3, (gf_f gf_rf u2 (by decide))⟩
                  · refine xw_iloadn (aX12_variable 56 rfl) rfl ?_
                    refine hw_sp (v := (1000 : Int32)) (aX12_variable 57 rfl) (by decide) ?_
                    refine xw_isub (aX12_variable 58 rfl) ?_
                    refine hw_tie (A := ((a2).toInt) - (1000)) (i_sub rfl (by decide : (1000 : Int32).toInt = 1000) (by omega) (by omega)) (fun x43 e44 => ?_)
                    refine xw_iloadn (aX12_variable 59 rfl) rfl ?_
                    refine hw_icge (tgt := 167) (aX12_variable 60 rfl) (by decide) e44 rfl (fun cd45 => ?_) (fun cd45 => ?_)
                    · refine xw_iloadn (aX12_variable 97 rfl) rfl ?_
                      refine hw_bp (v := (100 : Int32)) (aX12_variable 98 rfl) (by decide) ?_
                      refine hw_iclt (tgt := 216) (aX12_variable 99 rfl) (by decide) rfl (by decide : (100 : Int32).toInt = 100) (fun cd46 => ?_) (fun cd46 => ?_)
                      · omega
                      · refine xw_iloadn (aX12_variable 100 rfl) rfl ?_
                        refine hw_sp (v := (1000 : Int32)) (aX12_variable 101 rfl) (by decide) ?_
                        refine hw_icge (tgt := 216) (aX12_variable 102 rfl) (by decide) rfl (by decide : (1000 : Int32).toInt = 1000) (fun cd47 => ?_) (fun cd47 => ?_)
                        · refine hw_ic (v := ((-1) : Int32)) (aX12_variable 126 rfl) (by decide) ?_
                          refine xw_iret (aX12_variable 127 rfl) rfl rfl ?_
                          have e48 : (((-1) : Int32)).toInt = (-1) := (by decide : ((-1) : Int32).toInt = (-1))
                          exact ⟨((-1) : Int32), rfl, FI1, rfl, hI3, (gf_f gf_rf u2 (by decide))⟩
                        · omega
                    · refine hw_aloadn (aX12_variable 61 rfl) rfl ?_
                      refine hw_get (v := .ref (base + 155)) (aX12_variable 62 rfl) wf_RX12_123 (c121 hS) (s121 hS) (by decide) (congrArg (fun r => va_rf (h_rf base r)) (r121_75 hF)) ?_
                      refine xw_iloadn (aX12_variable 63 rfl) rfl ?_
                      refine hw_lald (v := x10) (aX12_variable 64 rfl) (c155 hS) (s155 hS) (h_in rfl (by omega) (by omega)) (show FL 155 (a1).toNatClampNeg = x10 from h11) ?_
                      refine xw_lstore (L2 := [(4, .long (x10)), (3, .int (y3)), (0, .ref (base + 121)), (1, .int (a1)), (2, .int (a2))]) (aX12_variable 65 rfl) (by decide) rfl ?_
                      refine xw_iloadn (aX12_variable 66 rfl) rfl ?_
                      refine hw_sp (v := (1000 : Int32)) (aX12_variable 67 rfl) (by decide) ?_
                      refine xw_isub (aX12_variable 68 rfl) ?_
                      refine hw_tie (A := ((a2).toInt) - (1000)) (i_sub rfl (by decide : (1000 : Int32).toInt = 1000) (by omega) (by omega)) (fun x49 e50 => ?_)
                      refine xw_istore (L2 := [(6, .int (x49)), (4, .long (x10)), (3, .int (y3)), (0, .ref (base + 121)), (1, .int (a1)), (2, .int (a2))]) (aX12_variable 69 rfl) (by decide) rfl ?_
                      have lp52 : ∀ (m : Nat) (y6 : Int32) (y4_51 : Int64), max ((y3).toInt - (y6).toInt) 0 < m → hw zk base d none 251 115 [(6, .int (y6)), (4, .long (y4_51)), (3, .int (y3)), (0, .ref (base + 121))] [] (n, sl, SH, FI1, FL, FR) (h_I (fun r s => ∃ FI', s = (n, sl, SH, FI', FL, FR) ∧ g_I FI' ∧ g_fr n SH [(121, 0)] [] [] FI FI')) := by
                        intro m
                        induction m with
                        | zero => intro y6 y4_51 hm; omega
                        | succ m ih115 =>
                          intro y6 y4_51 hm
                          have rg_y6 := i_rng y6
                          have rg_y4_51 := l_rng y4_51
                          refine xw_iload (aX12_variable 70 rfl) rfl ?_
                          refine xw_iloadn (aX12_variable 71 rfl) rfl ?_
                          refine hw_ic (v := (1 : Int32)) (aX12_variable 72 rfl) (by decide) ?_
                          refine xw_isub (aX12_variable 73 rfl) ?_
                          refine hw_tie (A := ((y3).toInt) - (1)) (i_sub rfl (by decide : (1 : Int32).toInt = 1) (by omega) (by omega)) (fun x53 e54 => ?_)
                          refine hw_icge (tgt := 137) (aX12_variable 74 rfl) (by decide) rfl e54 (fun cd55 => ?_) (fun cd55 => ?_)
                          · refine xw_lload (aX12_variable 81 rfl) rfl ?_
                            refine xw_ldc2 (aX12_variable 82 rfl) wk_RX12_455 ?_
                            refine xw_lrem (aX12_variable 83 rfl) (l_ne0 (by decide : (37 : Int64).toInt = 37) (by omega)) ?_
                            refine hw_tl (fun x56 => ?_)
                            have b57 := l_rng x56
                            refine xw_l2i (aX12_variable 84 rfl) ?_
                            refine hw_ti (fun x58 => ?_)
                            have b59 := i_rng x58
                            refine xw_istore (L2 := [(6, .int (x58)), (4, .long (y4_51)), (3, .int (y3)), (0, .ref (base + 121))]) (aX12_variable 85 rfl) (by decide) rfl ?_
                            refine xw_iload (aX12_variable 86 rfl) rfl ?_
                            refine hw_bp (v := (26 : Int32)) (aX12_variable 87 rfl) (by decide) ?_
                            refine hw_icgt (tgt := 161) (aX12_variable 88 rfl) (by decide) rfl (by decide : (26 : Int32).toInt = 26) (fun cd60 => ?_) (fun cd60 => ?_)
                            · refine xw_iload (aX12_variable 93 rfl) rfl ?_
                              refine hw_bp (v := (21 : Int32)) (aX12_variable 94 rfl) (by decide) ?_
                              refine xw_iadd (aX12_variable 95 rfl) ?_
                              refine hw_ti (fun x61 => ?_)
                              have b62 := i_rng x61
                              refine xw_iret (aX12_variable 96 rfl) rfl rfl ?_
                              exact ⟨x61, rfl, FI1, rfl, hI3, (gf_f gf_rf u2 (by decide))⟩
                            · refine xw_iload (aX12_variable 89 rfl) rfl ?_
                              refine hw_bp (v := (96 : Int32)) (aX12_variable 90 rfl) (by decide) ?_
                              refine xw_iadd (aX12_variable 91 rfl) ?_
                              refine hw_tie (A := ((x58).toInt) + (96)) (i_add rfl (by decide : (96 : Int32).toInt = 96) (by omega) (by omega)) (fun x63 e64 => ?_)
                              refine xw_goto (tgt := 166) (aX12_variable 92 rfl) (by decide) ?_
                              refine xw_iret (aX12_variable 96 rfl) rfl rfl ?_
                              have e65 : (x63).toInt = ((x58).toInt) + (96) := e64
                              exact ⟨x63, rfl, FI1, rfl, hI3, (gf_f gf_rf u2 (by decide))⟩
                          · refine xw_lload (aX12_variable 75 rfl) rfl ?_
                            refine xw_ldc2 (aX12_variable 76 rfl) wk_RX12_455 ?_
                            refine xw_ldiv (aX12_variable 77 rfl) (l_ne0 (by decide : (37 : Int64).toInt = 37) (by omega)) ?_
                            refine hw_tl (fun x66 => ?_)
                            have b67 := l_rng x66
                            refine xw_lstore (L2 := [(4, .long (x66)), (6, .int (y6)), (3, .int (y3)), (0, .ref (base + 121))]) (aX12_variable 78 rfl) (by decide) rfl ?_
                            obtain ⟨x68, q70⟩ : ∃ y : Int32, (y6) + Int32.ofInt (1) = y := ⟨_, rfl⟩
                            have e69 : (x68).toInt = (y6).toInt + (1) := by rw [← q70]; exact i_add rfl (by decide) (by omega) (by omega)
                            refine xw_iinc (L2 := [(6, .int (x68)), (4, .long (x66)), (3, .int (y3)), (0, .ref (base + 121))]) (aX12_variable 79 rfl) rfl (by decide) (by rw [q70]; rfl) ?_
                            refine xw_goto (tgt := 115) (aX12_variable 80 rfl) (by decide) ?_
                            exact hw_L (ih115 (x68) (x66) (by have := (e69 : (x68).toInt = (y6).toInt + (1)); omega)) ⟨rfl, rfl, rfl, rfl, trivial⟩
                      exact hw_L (lp52 ((max ((y3).toInt - (x49).toInt) 0 : Int).toNat + 1) (x49) (x10) (by have := (e50 : (x49).toInt = ((a2).toInt) - (1000)); omega)) ⟨rfl, rfl, rfl, rfl, trivial⟩
                · refine xw_iloadn (aX12_variable 51 rfl) rfl ?_
                  refine xw_iret (aX12_variable 52 rfl) rfl rfl ?_
                  exact ⟨y3, rfl, FI1, rfl, hI3, (gf_f gf_rf u2 (by decide))⟩
              · refine hw_aloadn (aX12_variable 41 rfl) rfl ?_
                refine hw_get (v := .ref (base + 125)) (aX12_variable 42 rfl) wf_RX12_20 (c121 hS) (s121 hS) (by decide) (congrArg (fun r => va_rf (h_rf base r)) (r121_4 hF)) ?_
                refine hw_bp (v := (20 : Int32)) (aX12_variable 43 rfl) (by decide) ?_
                refine xw_iloadn (aX12_variable 44 rfl) rfl ?_
                refine xw_iadd (aX12_variable 45 rfl) ?_
                refine hw_tie (A := (20) + ((a1).toInt)) (i_add (by decide : (20 : Int32).toInt = 20) rfl (by omega) (by omega)) (fun x71 e72 => ?_)
                obtain ⟨x73, h74⟩ : ∃ y, FI1 125 (x71).toNatClampNeg = y := ⟨_, rfl⟩
                have h74l := congrArg Int32.toInt h74
                have := i_rng x73
                refine hw_iald (v := x73) (aX12_variable 46 rfl) (c125 hS) (s125 hS) (h_in e72 (by omega) (by omega)) (show FI1 125 (x71).toNatClampNeg = x73 from h74) ?_
                have b75 := gI_125 hI3 (i_lt (x := x71) e72 (by omega) (by omega)); rw [h74] at b75
                refine xw_iret (aX12_variable 47 rfl) rfl rfl ?_
                exact ⟨x73, rfl, FI1, rfl, hI3, (gf_f gf_rf u2 (by decide))⟩
            · refine hw_aloadn (aX12_variable 33 rfl) rfl ?_
              refine hw_get (v := .ref (base + 156)) (aX12_variable 34 rfl) wf_RX12_126 (c121 hS) (s121 hS) (by decide) (congrArg (fun r => va_rf (h_rf base r)) (r121_76 hF)) ?_
              refine xw_iloadn (aX12_variable 35 rfl) rfl ?_
              obtain ⟨x76, h77⟩ : ∃ y, FI1 156 (a1).toNatClampNeg = y := ⟨_, rfl⟩
              have h77l := congrArg Int32.toInt h77
              have := i_rng x76
              refine hw_iald (v := x76) (aX12_variable 36 rfl) (c156 hS) (s156 hS) (h_in rfl (by omega) (by omega)) (show FI1 156 (a1).toNatClampNeg = x76 from h77) ?_
              have b78 := gI_156 hI3 (i_lt (x := a1) rfl (by omega) (by omega)); rw [h77] at b78
              refine xw_iret (aX12_variable 37 rfl) rfl rfl ?_
              exact ⟨x76, rfl, FI1, rfl, hI3, (gf_f gf_rf u2 (by decide))⟩
          · have h13 : (y3).toInt < 13 := by rcases Int.lt_or_le (y3).toInt 13 with h | h; { exact h }; { have := q37_e xi29_0 h; omega }
            refine xw_iloadn (aX12_variable 22 rfl) rfl ?_
            refine hw_ic (v := (1 : Int32)) (aX12_variable 23 rfl) (by decide) ?_
            refine xw_iadd (aX12_variable 24 rfl) ?_
            refine hw_tie (A := ((y3).toInt) + (1)) (i_add rfl (by decide : (1 : Int32).toInt = 1) (by omega) (by omega)) (fun x79 e80 => ?_)
            refine xw_istoren (L2 := [(3, .int (x79)), (4, .long (y4)), (0, .ref (base + 121)), (1, .int (a1)), (2, .int (a2))]) (aX12_variable 25 rfl) (by decide) rfl ?_
            refine xw_lload (aX12_variable 26 rfl) rfl ?_
            refine xw_ldc2 (aX12_variable 27 rfl) wk_RX12_455 ?_
            refine xw_ldiv (aX12_variable 28 rfl) (l_ne0 (by decide : (37 : Int64).toInt = 37) (by omega)) ?_
            refine hw_tle (A := ((y4).toInt) / (37)) (l_div rfl (by decide : (37 : Int64).toInt = 37) (by omega) (by omega)) (fun x81 e82 => ?_)
            refine xw_lstore (L2 := [(4, .long (x81)), (3, .int (x79)), (0, .ref (base + 121)), (1, .int (a1)), (2, .int (a2))]) (aX12_variable 29 rfl) (by decide) rfl ?_
            refine xw_goto (tgt := 29) (aX12_variable 30 rfl) (by decide) ?_
            exact hw_L (ih (x81) (x79) (by have := (e82 : (x81).toInt = ((y4).toInt) / (37)); have := (e80 : (x79).toInt = ((y3).toInt) + (1)); omega) (show (x81).toInt < q37 (13 - (x79).toInt) from (by have := (e82 : (x81).toInt = ((y4).toInt) / (37)); have := (e80 : (x79).toInt = ((y3).toInt) + (1)); exact (by have e1 := e82; have e2 := e80; rw [show (13 - (x79).toInt : Int) = 13 - ((y3).toInt + 1) by omega, e1]; exact q37_s xi29_0 (by omega) h13))) (by have := (e82 : (x81).toInt = ((y4).toInt) / (37)); have := (e80 : (x79).toInt = ((y3).toInt) + (1)); omega)) ⟨rfl, rfl, rfl, rfl, rfl, trivial⟩
      exact hw_L (lp13 ((max (x10).toInt 0 : Int).toNat + 1) (x10) ((0 : Int32)) (by have := ((by decide : (0 : Int32).toInt = 0) : ((0 : Int32)).toInt = 0); omega) (show (x10).toInt < q37 (13 - 0) from (by have := ((by decide : (0 : Int32).toInt = 0) : ((0 : Int32)).toInt = 0); exact (by rw [show (13 - 0 : Int) = 13 - 0 by omega]; exact q37_0 (by omega)))) (by have := ((by decide : (0 : Int32).toInt = 0) : ((0 : Int32)).toInt = 0); omega)) ⟨rfl, rfl, rfl, rfl, rfl, trivial⟩
    · refine hw_ic (v := ((-1) : Int32)) (aX12_variable 9 rfl) (by decide) ?_
      refine xw_iret (aX12_variable 10 rfl) rfl rfl ?_
      have e83 : (((-1) : Int32)).toInt = (-1) := (by decide : ((-1) : Int32).toInt = (-1))
      exact ⟨((-1) : Int32), rfl, FI1, rfl, hI3, (gf_f gf_rf u2 (by decide))⟩
def nX12_meansBinary : Nat := 0xac049002b560049002b42a2a4402b61c1b2acb02b61c2a
theorem bX12_meansBinary : cX12_meansBinary.data.toList.map UInt8.toNat = x_un nX12_meansBinary 23 := by decide +kernel
def iX12_meansBinary : List (Nat × Jvm.ClassFile.Instr × Nat) := [(0, .aload_n 0, 1), (1, .iload_n 2, 1), (2, .invokevirtual 715, 3), (5, .aload_n 0, 1), (6, .iload_n 1, 1), (7, .iload_n 2, 1), (8, .invokevirtual 580, 3), (11, .aload_n 0, 1), (12, .aload_n 0, 1), (13, .getfield 656, 3), (16, .iconst 1, 1), (17, .iadd, 1), (18, .putfield 656, 3), (21, .iconst 1, 1), (22, .ireturn, 1)]
theorem dX12_meansBinary : x_il nX12_meansBinary 23 iX12_meansBinary = true := by decide +kernel
theorem aX12_meansBinary (k : Nat) {pc : Nat} {i : Jvm.ClassFile.Instr} {len : Nat} (hk : iX12_meansBinary[k]? = some (pc, i, len)) : x_at xMM 266 pc i len yX12_meansBinary 3 (some .boolean) := ⟨cX12_meansBinary, rfl, x_il_ok bX12_meansBinary dX12_meansBinary k hk⟩
set_option maxHeartbeats 4000000 in
set_option maxRecDepth 100000 in
theorem n_meansBinary {zk : xK} {base d n sl : Nat} {SH : Nat → Nat × Nat} {FI : Nat → Nat → Int32} {FL : Nat → Nat → Int64} {FR : Nat → Nat → Option Nat} (hS : h_S n SH) (hF : h_FR FR) (hI : g_I FI) (a1 : Int32) (a2 : Int32) (g0 : (FI 121 90).toInt ≤ 250) (g1 : (FI 121 92).toInt ≤ 1000) (g2 : 1 ≤ (a2).toInt ∧ (a2).toInt ≤ 7) (gg0 : au_ok (sk (FI 166) (FI 121 90).toInt.toNat)) (gg1 : ∀ y r, (sk (FI 166) (FI 121 90).toInt.toNat) = y :: r → y ≠ 9) (gg2 : (FI 121 101).toInt = (au_vc (sk (FI 166) (FI 121 90).toInt.toNat) : Int) + 1) (rel_wm : rl_wm (FI 121 90) (FI 165) (FI 166)) : hw zk base (d + 4) none 266 0 [(0, .ref (base + 121)), (1, .int (a1)), (2, .int (a2))] [] (n, sl, SH, FI, FL, FR) (h_I (fun r s => ∃ FI' FL', s = (n, sl, SH, FI', FL', FR) ∧ g_I FI' ∧ g_fr n SH [(121, 90), (121, 92), (121, 93), (121, 101)] [165, 166] [] FI FI' ∧ g_fr n SH [] [173] [] FL FL' ∧ (r.toInt = 1) ∧ ((FI' 121 92).toInt = (FI 121 92).toInt + 1) ∧ ((FI' 121 90).toInt ≤ (FI 121 90).toInt + 1) ∧ (0 ≤ r.toInt ∧ r.toInt ≤ 1) ∧ ((sk (FI' 166) (FI' 121 90).toInt.toNat) = (a2).toInt :: au_red (a2).toInt (sk (FI 166) (FI 121 90).toInt.toNat)) ∧ ((FI' 121 101).toInt = (au_vc (sk (FI' 166) (FI' 121 90).toInt.toNat) : Int)) ∧ (rl_wm (FI' 121 90) (FI' 165) (FI' 166)))) := by
  have rg_a1 := i_rng a1
  have rg_a2 := i_rng a2
  obtain ⟨x1, h2⟩ : ∃ y, FI 121 90 = y := ⟨_, rfl⟩
  have h2l := congrArg Int32.toInt h2
  have b3 := gI_121_90 hI; rw [h2] at b3
  obtain ⟨x4, h5⟩ : ∃ y, FI 121 92 = y := ⟨_, rfl⟩
  have h5l := congrArg Int32.toInt h5
  have b6 := gI_121_92 hI; rw [h5] at b6
  obtain ⟨x7, h8⟩ : ∃ y, FI 121 101 = y := ⟨_, rfl⟩
  have h8l := congrArg Int32.toInt h8
  have b9 := gI_121_101 hI; rw [h8] at b9
  refine hw_aloadn (aX12_meansBinary 0 rfl) rfl ?_
  refine xw_iloadn (aX12_meansBinary 1 rfl) rfl ?_
  refine hw_callV (Bs := [.int (a2)]) (rest := []) (aX12_meansBinary 2 rfl) wc_RX12_715 (by decide) rfl wi_yX12_meansReduced wv_yX12_meansReduced (c121 hS) (s121 hS) rfl rfl rfl (Nat.le_of_ble_eq_true rfl) (Nat.le_of_ble_eq_true rfl) (n_meansReduced (d := d) hS hF hI (a2) (by omega) (gg0) (gg1) ((by have := gg2; omega)) (show rl_wm (FI 121 90) (FI 165) (FI 166) from rel_wm)) (fun v10 sv11 p12 => ?_)
  have := congrArg Int32.toInt (show FI 121 90 = x1 from h2)
  have := congrArg Int32.toInt (show FI 121 101 = x7 from h8)
  obtain ⟨rfl, FI14, FL15, rfl, hI16, f17, f18, t19, t20, u21, u22, rl23⟩ := p12
  obtain ⟨x24, h25⟩ : ∃ y, FI14 121 90 = y := ⟨_, rfl⟩
  have h25l := congrArg Int32.toInt h25
  have b26 := gI_121_90 hI16; rw [h25] at b26
  obtain ⟨x27, h28⟩ : ∃ y, FI14 121 101 = y := ⟨_, rfl⟩
  have h28l := congrArg Int32.toInt h28
  have b29 := gI_121_101 hI16; rw [h28] at b29
  show hw zk base _ _ _ _ _ [] _ _
  refine hw_aloadn (aX12_meansBinary 3 rfl) rfl ?_
  refine xw_iloadn (aX12_meansBinary 4 rfl) rfl ?_
  refine xw_iloadn (aX12_meansBinary 5 rfl) rfl ?_
  refine hw_callV (Bs := [.int (a1), .int (a2)]) (rest := []) (aX12_meansBinary 6 rfl) wc_RX12_580 (by decide) rfl wi_yX12_later wv_yX12_later (c121 hS) (s121 hS) rfl rfl rfl (Nat.le_of_ble_eq_true rfl) (Nat.le_of_ble_eq_true rfl) (n_laterm (d := d + 3) hS hF hI16 (a1) (a2) (by have := congrArg Int32.toInt (show FI14 121 90 = x24 from h25); omega) (by omega) (show rl_wm (FI14 121 90) (FI14 165) (FI14 166) from rl23)) (fun v30 sv31 p32 => ?_)
  have := congrArg Int32.toInt (show FI14 121 90 = x24 from h25)
  obtain ⟨rfl, FI34, rfl, hI35, f36, t37, u38, u39, rl40⟩ := p32
  obtain ⟨x41, h42⟩ : ∃ y, FI34 121 90 = y := ⟨_, rfl⟩
  have h42l := congrArg Int32.toInt h42
  have b43 := gI_121_90 hI35; rw [h42] at b43
  show hw zk base _ _ _ _ _ [] _ _
  refine hw_aloadn (aX12_meansBinary 7 rfl) rfl ?_
  refine hw_aloadn (aX12_meansBinary 8 rfl) rfl ?_
  refine hw_get (v := .int (x4)) (aX12_meansBinary 9 rfl) wf_RX12_656 (c121 hS) (s121 hS) (by decide) (congrArg Value.int (show FI34 121 92 = x4 from (gf_at f36 (c121 hS) (s121 hS) rfl ((gf_at f17 (c121 hS) (s121 hS) rfl (h5)))))) ?_
  refine hw_ic (v := (1 : Int32)) (aX12_meansBinary 10 rfl) (by decide) ?_
  refine xw_iadd (aX12_meansBinary 11 rfl) ?_
  refine hw_tie (A := ((x4).toInt) + (1)) (i_add rfl (by decide : (1 : Int32).toInt = 1) (by omega) (by omega)) (fun x44 e45 => ?_)
  refine hv_puti (aX12_meansBinary 12 rfl) wf_RX12_656 (c121 hS) (s121 hS) (by decide) rfl rfl (fun FI46 u47 => ?_)
  have rl48 : rl_wm (FI46 121 90) (FI46 165) (FI46 166) := by rw [show FI46 165 = FI34 165 from up_row u47 (by decide) rfl, show FI46 166 = FI34 166 from up_row u47 (by decide) rfl, show FI46 121 90 = FI34 121 90 from up_k u47 (by decide) rfl]; exact rl40
  have hI49 : g_I FI46 := gU_121_92 hI35 u47 (by have := (e45 : (x44).toInt = ((x4).toInt) + (1)); omega) (by have := (e45 : (x44).toInt = ((x4).toInt) + (1)); omega)
  refine hw_ic (v := (1 : Int32)) (aX12_meansBinary 13 rfl) (by decide) ?_
  refine xw_iret (aX12_meansBinary 14 rfl) rfl (by decide) ?_
  have e50 : ((1 : Int32)).toInt = 1 := (by decide : (1 : Int32).toInt = 1)
  exact ⟨(1 : Int32), rfl, FI46, FL15, rfl, hI49, (gf_f (gf_tr ex_rf (gf_tr ex_rf gf_rf f17 rfl rfl rfl) f36 rfl rfl rfl) u47 (by decide)), (gf_tr ex_rf gf_rf f18 rfl rfl rfl), (by have : ((1 : Int32)).toInt = 1 := (by decide); omega), (by have : ((1 : Int32)).toInt = 1 := (by decide); have := congrArg Int32.toInt (show FI46 121 92 = x44 from up_eq u47); have := (e45 : (x44).toInt = ((x4).toInt) + (1)); omega), (by have : ((1 : Int32)).toInt = 1 := (by decide); have := congrArg Int32.toInt (show FI46 121 90 = x41 from (up_k u47 (by decide) (h42))); omega), (by have : ((1 : Int32)).toInt = 1 := (by decide); omega), (by have hm : (sk (FI46 166) (FI46 121 90).toInt.toNat) = (a2).toInt :: au_red (a2).toInt (sk (FI 166) (FI 121 90).toInt.toNat) := (by rw [show FI46 166 = FI34 166 from (up_row u47 (by decide) (rfl)), show FI46 121 90 = FI34 121 90 from ((up_k u47 (by decide) (h42))).trans (h42).symm, u39, show FI14 166 = FI 166 from (gf_row f17 (c166 hS) (s166 hS) rfl (rfl)), u21]); exact hm), (by have hm : (sk (FI46 166) (FI46 121 90).toInt.toNat) = (a2).toInt :: au_red (a2).toInt (sk (FI 166) (FI 121 90).toInt.toNat) := (by rw [show FI46 166 = FI34 166 from (up_row u47 (by decide) (rfl)), show FI46 121 90 = FI34 121 90 from ((up_k u47 (by decide) (h42))).trans (h42).symm, u39, show FI14 166 = FI 166 from (gf_row f17 (c166 hS) (s166 hS) rfl (rfl)), u21]); have hV := u22; rw [u21] at hV; rw [hm]; have := congrArg Int32.toInt (show FI46 121 101 = x27 from (up_k u47 (by decide) ((gf_at f36 (c121 hS) (s121 hS) rfl (h28))))); have := congrArg Int32.toInt (show FI14 121 101 = x27 from h28); rw [show au_vc ((a2).toInt :: au_red (a2).toInt (sk (FI 166) (FI 121 90).toInt.toNat)) = 1 + au_vc (au_red (a2).toInt (sk (FI 166) (FI 121 90).toInt.toNat)) from by simp only [au_vc]; rw [if_pos (Or.inl (by omega))]]; omega), (show rl_wm (FI46 121 90) (FI46 165) (FI46 166) from rl48)⟩
end
section
def nX12_meansOperator : Nat := 0xac03ac044102b5042ac802b62a9002b560049002b42a2a2c02b564042c02b42a2a2200a0022f02b62a2a00999d02b629102aac049002b560049002b42a2aa802b5030400a70407009a3364042c02b42ab800b42a1500993364042c02b42ab500b42a2a4ffd1064042c02b42a9d00b42a4100a0fe102f02b62a4a00999d02b63a102ad102b62aac049002b560049002b42a2aa802b5030400a70407009994092fab02b42ab200b42a150099a802b42a2a54030400a70407009994092fab02b42ab200b42a64042c02b42ab800b42a54a802b42a64042c02b42ab500b42a4402b6fe10032aab02b56404ab02b42a2acb02b6042a7000999d02b63f102aacce02b60421102a0b00999d02b67c102aacce02b60527102a0b00999d02b65e102aacce02b6061a102a0b00999d02b626102aacce02b60704152a0b009f02041504366c02b6201b2aacce02b60804152a0b009f02041504366902b6201b2aacce02b606101c100500a7221008009a945d0214202a19009a948b0214200b0099945d0214202900a0081bacce02b6071004152a0c009f02041504365f02b6201b2a412f9002b42a7500b42a3c2e9002b42a7200b42a
theorem bX12_meansOperator : cX12_meansOperator.data.toList.map UInt8.toNat = x_un nX12_meansOperator 433 := by decide +kernel
def iX12_meansOperator : List (Nat × Jvm.ClassFile.Instr × Nat) := [(0, .aload_n 0, 1), (1, .getfield 114, 3), (4, .aload_n 0, 1), (5, .getfield 656, 3), (8, .iaload, 1), (9, .istore_n 1, 1), (10, .aload_n 0, 1), (11, .getfield 117, 3), (14, .aload_n 0, 1), (15, .getfield 656, 3), (18, .laload, 1), (19, .lstore_n 2, 1), (20, .aload_n 0, 1), (21, .iload_n 1, 1), (22, .lload_n 2, 1), (23, .invokevirtual 607, 3), (26, .istore 4, 2), (28, .iload 4, 2), (30, .iconst (-1), 1), (31, .if_icmp .eq 12, 3), (34, .aload_n 0, 1), (35, .iload 4, 2), (37, .bipush 7, 2), (39, .invokevirtual 718, 3), (42, .ireturn, 1), (43, .iload_n 1, 1), (44, .iconst 5, 1), (45, .if_icmp .ne 41, 3), (48, .lload_n 2, 1), (49, .ldc2_w 605, 3), (52, .lcmp, 1), (53, .ifCond .eq 11, 3), (56, .lload_n 2, 1), (57, .ldc2_w 651, 3), (60, .lcmp, 1), (61, .ifCond .ne 25, 3), (64, .aload_n 0, 1), (65, .lload_n 2, 1), (66, .ldc2_w 605, 3), (69, .lcmp, 1), (70, .ifCond .ne 8, 3), (73, .bipush 34, 2), (75, .goto 5, 3), (78, .bipush 28, 2), (80, .bipush 6, 2), (82, .invokevirtual 718, 3), (85, .ireturn, 1), (86, .aload_n 0, 1), (87, .iload_n 1, 1), (88, .lload_n 2, 1), (89, .invokevirtual 617, 3), (92, .istore 4, 2), (94, .iload 4, 2), (96, .iconst (-1), 1), (97, .if_icmp .eq 11, 3), (100, .aload_n 0, 1), (101, .iload 4, 2), (103, .iconst 5, 1), (104, .invokevirtual 718, 3), (107, .ireturn, 1), (108, .aload_n 0, 1), (109, .iload_n 1, 1), (110, .lload_n 2, 1), (111, .invokevirtual 620, 3), (114, .istore 4, 2), (116, .iload 4, 2), (118, .iconst (-1), 1), (119, .if_icmp .eq 11, 3), (122, .aload_n 0, 1), (123, .iload 4, 2), (125, .iconst 4, 1), (126, .invokevirtual 718, 3), (129, .ireturn, 1), (130, .aload_n 0, 1), (131, .bipush 38, 2), (133, .invokevirtual 669, 3), (136, .ifCond .eq 11, 3), (139, .aload_n 0, 1), (140, .bipush 26, 2), (142, .iconst 3, 1), (143, .invokevirtual 718, 3), (146, .ireturn, 1), (147, .aload_n 0, 1), (148, .bipush 94, 2), (150, .invokevirtual 669, 3), (153, .ifCond .eq 11, 3), (156, .aload_n 0, 1), (157, .bipush 39, 2), (159, .iconst 2, 1), (160, .invokevirtual 718, 3), (163, .ireturn, 1), (164, .aload_n 0, 1), (165, .bipush 124, 2), (167, .invokevirtual 669, 3), (170, .ifCond .eq 11, 3), (173, .aload_n 0, 1), (174, .bipush 33, 2), (176, .iconst 1, 1), (177, .invokevirtual 718, 3), (180, .ireturn, 1), (181, .aload_n 0, 1), (182, .bipush 63, 2), (184, .invokevirtual 669, 3), (187, .ifCond .eq 112, 3), (190, .aload_n 0, 1), (191, .iconst 1, 1), (192, .invokevirtual 715, 3), (195, .aload_n 0, 1), (196, .aload_n 0, 1), (197, .getfield 683, 3), (200, .iconst 1, 1), (201, .isub, 1), (202, .putfield 683, 3), (205, .aload_n 0, 1), (206, .iconst 0, 1), (207, .bipush (-2), 2), (209, .invokevirtual 580, 3), (212, .aload_n 0, 1), (213, .getfield 181, 3), (216, .aload_n 0, 1), (217, .getfield 556, 3), (220, .iconst 1, 1), (221, .isub, 1), (222, .aload_n 0, 1), (223, .getfield 680, 3), (226, .bastore, 1), (227, .aload_n 0, 1), (228, .getfield 184, 3), (231, .aload_n 0, 1), (232, .getfield 556, 3), (235, .iconst 1, 1), (236, .isub, 1), (237, .aload_n 0, 1), (238, .getfield 178, 3), (241, .aload_n 0, 1), (242, .getfield 683, 3), (245, .laload, 1), (246, .lconst 0, 1), (247, .lcmp, 1), (248, .ifCond .eq 7, 3), (251, .iconst 1, 1), (252, .goto 4, 3), (255, .iconst 0, 1), (256, .bastore, 1), (257, .aload_n 0, 1), (258, .aload_n 0, 1), (259, .getfield 680, 3), (262, .ifCond .eq 21, 3), (265, .aload_n 0, 1), (266, .getfield 178, 3), (269, .aload_n 0, 1), (270, .getfield 683, 3), (273, .laload, 1), (274, .lconst 0, 1), (275, .lcmp, 1), (276, .ifCond .eq 7, 3), (279, .iconst 1, 1), (280, .goto 4, 3), (283, .iconst 0, 1), (284, .putfield 680, 3), (287, .aload_n 0, 1), (288, .aload_n 0, 1), (289, .getfield 656, 3), (292, .iconst 1, 1), (293, .iadd, 1), (294, .putfield 656, 3), (297, .iconst 1, 1), (298, .ireturn, 1), (299, .aload_n 0, 1), (300, .invokevirtual 721, 3), (303, .aload_n 0, 1), (304, .bipush 58, 2), (306, .invokevirtual 669, 3), (309, .ifCond .eq 74, 3), (312, .aload_n 0, 1), (313, .invokevirtual 559, 3), (316, .bipush (-2), 2), (318, .if_icmp .ne 65, 3), (321, .aload_n 0, 1), (322, .getfield 157, 3), (325, .aload_n 0, 1), (326, .getfield 556, 3), (329, .iconst 1, 1), (330, .isub, 1), (331, .bipush (-3), 2), (333, .iastore, 1), (334, .aload_n 0, 1), (335, .aload_n 0, 1), (336, .getfield 181, 3), (339, .aload_n 0, 1), (340, .getfield 556, 3), (343, .iconst 1, 1), (344, .isub, 1), (345, .baload, 1), (346, .ifCond .eq 21, 3), (349, .aload_n 0, 1), (350, .getfield 184, 3), (353, .aload_n 0, 1), (354, .getfield 556, 3), (357, .iconst 1, 1), (358, .isub, 1), (359, .baload, 1), (360, .ifCond .ne 7, 3), (363, .iconst 1, 1), (364, .goto 4, 3), (367, .iconst 0, 1), (368, .putfield 680, 3), (371, .aload_n 0, 1), (372, .aload_n 0, 1), (373, .getfield 656, 3), (376, .iconst 1, 1), (377, .iadd, 1), (378, .putfield 656, 3), (381, .iconst 1, 1), (382, .ireturn, 1), (383, .aload_n 0, 1), (384, .bipush 41, 2), (386, .invokevirtual 669, 3), (389, .ifCond .eq 42, 3), (392, .aload_n 0, 1), (393, .invokevirtual 559, 3), (396, .iconst (-1), 1), (397, .if_icmp .ne 34, 3), (400, .aload_n 0, 1), (401, .aload_n 0, 1), (402, .getfield 556, 3), (405, .iconst 1, 1), (406, .isub, 1), (407, .putfield 556, 3), (410, .aload_n 0, 1), (411, .aload_n 0, 1), (412, .getfield 656, 3), (415, .iconst 1, 1), (416, .iadd, 1), (417, .putfield 656, 3), (420, .aload_n 0, 1), (421, .invokevirtual 712, 3), (424, .aload_n 0, 1), (425, .iconst 1, 1), (426, .putfield 577, 3), (429, .iconst 1, 1), (430, .ireturn, 1), (431, .iconst 0, 1), (432, .ireturn, 1)]
theorem dX12_meansOperator : x_il nX12_meansOperator 433 iX12_meansOperator = true := by decide +kernel
theorem aX12_meansOperator (k : Nat) {pc : Nat} {i : Jvm.ClassFile.Instr} {len : Nat} (hk : iX12_meansOperator[k]? = some (pc, i, len)) : x_at xMM 267 pc i len yX12_meansOperator 5 (some .boolean) := ⟨cX12_meansOperator, rfl, x_il_ok bX12_meansOperator dX12_meansOperator k hk⟩
set_option maxHeartbeats 4000000 in
set_option maxRecDepth 100000 in
theorem n_meansOperator {zk : xK} {base d n sl : Nat} {SH : Nat → Nat × Nat} {FI : Nat → Nat → Int32} {FL : Nat → Nat → Int64} {FR : Nat → Nat → Option Nat} (hS : h_S n SH) (hF : h_FR FR) (hI : g_I FI) (g0 : (FI 121 90).toInt ≤ 249) (g1 : (FI 121 92).toInt ≤ 1000) (g2 : (FI 121 91).toInt = 0) (gg0 : au_ok (sk (FI 166) (FI 121 90).toInt.toNat)) (gg1 : ∀ y r, (sk (FI 166) (FI 121 90).toInt.toNat) = y :: r → y ≠ 9) (gg2 : (FI 121 101).toInt = (au_vc (sk (FI 166) (FI 121 90).toInt.toNat) : Int) + 1) (rel_wm : rl_wm (FI 121 90) (FI 165) (FI 166)) : hw zk base (d + 5) none 267 0 [(0, .ref (base + 121))] [] (n, sl, SH, FI, FL, FR) (h_I (fun r s => ∃ FI' FL', s = (n, sl, SH, FI', FL', FR) ∧ g_I FI' ∧ g_fr n SH [(121, 90), (121, 91), (121, 92), (121, 93), (121, 101), (121, 104)] [165, 166, 174, 175] [] FI FI' ∧ g_fr n SH [] [173] [] FL FL' ∧ (0 ≤ r.toInt ∧ r.toInt ≤ 1) ∧ (∀ q b m, au_st (kf (FI 152)) (wf (FL 153)) (FI 121 92).toInt.toNat false (sk (FI 166) (FI 121 90).toInt.toNat) q b m → r.toInt = 1 ∧ (FI' 121 92).toInt.toNat = q ∧ (sk (FI' 166) (FI' 121 90).toInt.toNat) = m ∧ (FI' 121 101).toInt = (au_vc m : Int) + (if b then 0 else 1) ∧ (FI' 121 91).toInt = (if b then 0 else 1)) ∧ (co_end (kf (FI 152)) (wf (FL 153)) (FI 121 92).toInt.toNat (sk (FI 166) (FI 121 90).toInt.toNat) → r.toInt = 0 ∧ (FI' 121 92).toInt.toNat = (FI 121 92).toInt.toNat) ∧ (rl_wm (FI' 121 90) (FI' 165) (FI' 166)))) := by
  obtain ⟨x1, h2⟩ : ∃ y, FI 121 90 = y := ⟨_, rfl⟩
  have h2l := congrArg Int32.toInt h2
  have b3 := gI_121_90 hI; rw [h2] at b3
  obtain ⟨x4, h5⟩ : ∃ y, FI 121 92 = y := ⟨_, rfl⟩
  have h5l := congrArg Int32.toInt h5
  have b6 := gI_121_92 hI; rw [h5] at b6
  obtain ⟨x7, h8⟩ : ∃ y, FI 121 91 = y := ⟨_, rfl⟩
  have h8l := congrArg Int32.toInt h8
  have b9 := gI_121_91 hI; rw [h8] at b9
  obtain ⟨x10, h11⟩ : ∃ y, FI 121 101 = y := ⟨_, rfl⟩
  have h11l := congrArg Int32.toInt h11
  have b12 := gI_121_101 hI; rw [h11] at b12
  refine hw_aloadn (aX12_meansOperator 0 rfl) rfl ?_
  refine hw_get (v := .ref (base + 152)) (aX12_meansOperator 1 rfl) wf_RX12_114 (c121 hS) (s121 hS) (by decide) (congrArg (fun r => va_rf (h_rf base r)) (r121_65 hF)) ?_
  refine hw_aloadn (aX12_meansOperator 2 rfl) rfl ?_
  refine hw_get (v := .int (x4)) (aX12_meansOperator 3 rfl) wf_RX12_656 (c121 hS) (s121 hS) (by decide) (congrArg Value.int (show FI 121 92 = x4 from h5)) ?_
  obtain ⟨x13, h14⟩ : ∃ y, FI 152 (x4).toNatClampNeg = y := ⟨_, rfl⟩
  have h14l := congrArg Int32.toInt h14
  have := i_rng x13
  refine hw_iald (v := x13) (aX12_meansOperator 4 rfl) (c152 hS) (s152 hS) (h_in rfl (by omega) (by omega)) (show FI 152 (x4).toNatClampNeg = x13 from h14) ?_
  refine xw_istoren (L2 := [(1, .int (x13)), (0, .ref (base + 121))]) (aX12_meansOperator 5 rfl) (by decide) rfl ?_
  refine hw_aloadn (aX12_meansOperator 6 rfl) rfl ?_
  refine hw_get (v := .ref (base + 153)) (aX12_meansOperator 7 rfl) wf_RX12_117 (c121 hS) (s121 hS) (by decide) (congrArg (fun r => va_rf (h_rf base r)) (r121_66 hF)) ?_
  refine hw_aloadn (aX12_meansOperator 8 rfl) rfl ?_
  refine hw_get (v := .int (x4)) (aX12_meansOperator 9 rfl) wf_RX12_656 (c121 hS) (s121 hS) (by decide) (congrArg Value.int (show FI 121 92 = x4 from h5)) ?_
  obtain ⟨x15, h16⟩ : ∃ y, FL 153 (x4).toNatClampNeg = y := ⟨_, rfl⟩
  have h16l := congrArg Int64.toInt h16
  have := l_rng x15
  refine hw_lald (v := x15) (aX12_meansOperator 10 rfl) (c153 hS) (s153 hS) (h_in rfl (by omega) (by omega)) (show FL 153 (x4).toNatClampNeg = x15 from h16) ?_
  refine xw_lstoren (L2 := [(2, .long (x15)), (1, .int (x13)), (0, .ref (base + 121))]) (aX12_meansOperator 11 rfl) (by decide) rfl ?_
  have ee1 : (FI 121 92).toInt.toNat = (x4).toNatClampNeg := (i_cl (congrArg Int32.toInt (h5)).symm).symm
  have hk1 : kf (FI 152) (FI 121 92).toInt.toNat = (x13).toInt := by unfold kf; rw [ee1, show FI 152 (x4).toNatClampNeg = x13 from h14]
  have hw1 : wf (FL 153) (FI 121 92).toInt.toNat = (x15).toInt := by unfold wf; rw [ee1, show FL 153 (x4).toNatClampNeg = x15 from h16]
  refine hw_aloadn (aX12_meansOperator 12 rfl) rfl ?_
  refine xw_iloadn (aX12_meansOperator 13 rfl) rfl ?_
  refine xw_lloadn (aX12_meansOperator 14 rfl) rfl ?_
  refine hw_callV (Bs := [.int (x13), .long (x15)]) (rest := []) (aX12_meansOperator 15 rfl) wc_RX12_607 (by decide) rfl wi_yX12_multiplies wv_yX12_multiplies (c121 hS) (s121 hS) rfl rfl rfl (Nat.le_of_ble_eq_true rfl) (Nat.le_of_ble_eq_true rfl) (n_multiplies (d := d + 4) hS hF hI (x13) (x15) ) (fun v17 sv18 p19 => ?_)
  obtain ⟨r20, rfl, rfl, t22, t23, t24⟩ := p19
  have rg_r20 := i_rng r20
  show hw zk base _ _ _ _ _ [.int (r20)] _ _
  refine xw_istore (L2 := [(4, .int (r20)), (2, .long (x15)), (1, .int (x13)), (0, .ref (base + 121))]) (aX12_meansOperator 16 rfl) (by decide) rfl ?_
  refine xw_iload (aX12_meansOperator 17 rfl) rfl ?_
  refine hw_ic (v := ((-1) : Int32)) (aX12_meansOperator 18 rfl) (by decide) ?_
  refine hw_iceq (tgt := 43) (aX12_meansOperator 19 rfl) (by decide) rfl (by decide : ((-1) : Int32).toInt = (-1)) (fun cd25 => ?_) (fun cd25 => ?_)
  · have nb7 : hid (au_bn (kf (FI 152) (FI 121 92).toInt.toNat) (wf (FL 153) (FI 121 92).toInt.toNat) ≠ 7) := hid_i (fun h => by rw [hk1, hw1] at h; exact absurd (hid_e t24 (au_bn_7.mp h)) (by omega))
    refine xw_iloadn (aX12_meansOperator 25 rfl) rfl ?_
    refine hw_ic (v := (5 : Int32)) (aX12_meansOperator 26 rfl) (by decide) ?_
    have j431 : (hid (au_bn (kf (FI 152) (FI 121 92).toInt.toNat) (wf (FL 153) (FI 121 92).toInt.toNat) ≠ 6)) → hw zk base (d + 5) none 267 86 [(0, .ref (base + 121)), (1, .int (x13)), (2, .long (x15))] [] (n, sl, SH, FI, FL, FR) (h_I (fun r s => ∃ FI' FL', s = (n, sl, SH, FI', FL', FR) ∧ g_I FI' ∧ g_fr n SH [(121, 90), (121, 91), (121, 92), (121, 93), (121, 101), (121, 104)] [165, 166, 174, 175] [] FI FI' ∧ g_fr n SH [] [173] [] FL FL' ∧ (0 ≤ r.toInt ∧ r.toInt ≤ 1) ∧ (∀ q b m, au_st (kf (FI 152)) (wf (FL 153)) (FI 121 92).toInt.toNat false (sk (FI 166) (FI 121 90).toInt.toNat) q b m → r.toInt = 1 ∧ (FI' 121 92).toInt.toNat = q ∧ (sk (FI' 166) (FI' 121 90).toInt.toNat) = m ∧ (FI' 121 101).toInt = (au_vc m : Int) + (if b then 0 else 1) ∧ (FI' 121 91).toInt = (if b then 0 else 1)) ∧ (co_end (kf (FI 152)) (wf (FL 153)) (FI 121 92).toInt.toNat (sk (FI 166) (FI 121 90).toInt.toNat) → r.toInt = 0 ∧ (FI' 121 92).toInt.toNat = (FI 121 92).toInt.toNat) ∧ (rl_wm (FI' 121 90) (FI' 165) (FI' 166)))) := by
      intro fc86_0
      refine hw_aloadn (aX12_meansOperator 47 rfl) rfl ?_
      refine xw_iloadn (aX12_meansOperator 48 rfl) rfl ?_
      refine xw_lloadn (aX12_meansOperator 49 rfl) rfl ?_
      refine hw_callV (Bs := [.int (x13), .long (x15)]) (rest := []) (aX12_meansOperator 50 rfl) wc_RX12_617 (by decide) rfl wi_yX12_shifts wv_yX12_shifts (c121 hS) (s121 hS) rfl rfl rfl (Nat.le_of_ble_eq_true rfl) (Nat.le_of_ble_eq_true rfl) (n_shifts (d := d + 4) hS hF hI (x13) (x15) ) (fun v432 sv433 p434 => ?_)
      obtain ⟨r435, rfl, rfl, t437, t438, t439⟩ := p434
      have rg_r435 := i_rng r435
      show hw zk base _ _ _ _ _ [.int (r435)] _ _
      refine xw_istore (L2 := [(4, .int (r435)), (0, .ref (base + 121)), (1, .int (x13)), (2, .long (x15))]) (aX12_meansOperator 51 rfl) (by decide) rfl ?_
      refine xw_iload (aX12_meansOperator 52 rfl) rfl ?_
      refine hw_ic (v := ((-1) : Int32)) (aX12_meansOperator 53 rfl) (by decide) ?_
      refine hw_iceq (tgt := 108) (aX12_meansOperator 54 rfl) (by decide) rfl (by decide : ((-1) : Int32).toInt = (-1)) (fun cd440 => ?_) (fun cd440 => ?_)
      · have nb5 : hid (au_bn (kf (FI 152) (FI 121 92).toInt.toNat) (wf (FL 153) (FI 121 92).toInt.toNat) ≠ 5) := hid_i (fun h => by rw [hk1, hw1] at h; exact absurd (hid_e t439 (au_bn_5.mp h)) (by omega))
        refine hw_aloadn (aX12_meansOperator 60 rfl) rfl ?_
        refine xw_iloadn (aX12_meansOperator 61 rfl) rfl ?_
        refine xw_lloadn (aX12_meansOperator 62 rfl) rfl ?_
        refine hw_callV (Bs := [.int (x13), .long (x15)]) (rest := []) (aX12_meansOperator 63 rfl) wc_RX12_620 (by decide) rfl wi_yX12_compares wv_yX12_compares (c121 hS) (s121 hS) rfl rfl rfl (Nat.le_of_ble_eq_true rfl) (Nat.le_of_ble_eq_true rfl) (n_compares (d := d + 4) hS hF hI (x13) (x15) ) (fun v441 sv442 p443 => ?_)
        obtain ⟨r444, rfl, rfl, t446, t447, t448⟩ := p443
        have rg_r444 := i_rng r444
        show hw zk base _ _ _ _ _ [.int (r444)] _ _
        refine xw_istore (L2 := [(4, .int (r444)), (0, .ref (base + 121)), (1, .int (x13)), (2, .long (x15))]) (aX12_meansOperator 64 rfl) (by decide) rfl ?_
        refine xw_iload (aX12_meansOperator 65 rfl) rfl ?_
        refine hw_ic (v := ((-1) : Int32)) (aX12_meansOperator 66 rfl) (by decide) ?_
        refine hw_iceq (tgt := 130) (aX12_meansOperator 67 rfl) (by decide) rfl (by decide : ((-1) : Int32).toInt = (-1)) (fun cd449 => ?_) (fun cd449 => ?_)
        · have nb4 : hid (au_bn (kf (FI 152) (FI 121 92).toInt.toNat) (wf (FL 153) (FI 121 92).toInt.toNat) ≠ 4) := hid_i (fun h => by rw [hk1, hw1] at h; exact absurd (hid_e t448 (au_bn_4.mp h)) (by omega))
          refine hw_aloadn (aX12_meansOperator 73 rfl) rfl ?_
          refine hw_bp (v := (38 : Int32)) (aX12_meansOperator 74 rfl) (by decide) ?_
          refine hw_callV (Bs := [.int ((38 : Int32))]) (rest := []) (aX12_meansOperator 75 rfl) wc_RX12_669 (by decide) rfl wi_yX12_keepsSign wv_yX12_keepsSign (c121 hS) (s121 hS) rfl rfl rfl (Nat.le_of_ble_eq_true rfl) (Nat.le_of_ble_eq_true rfl) (n_keepsSign (d := d + 4) hS hF hI ((38 : Int32)) ) (fun v450 sv451 p452 => ?_)
          obtain ⟨r453, rfl, rfl, t455, u456⟩ := p452
          show hw zk base _ _ _ _ _ [.int (r453)] _ _
          replace u456 := hid_i u456
          refine hw_ifeq (tgt := 147) (aX12_meansOperator 76 rfl) (by decide) rfl (fun cd457 => ?_) (fun cd457 => ?_)
          · have nb3 : hid (au_bn (kf (FI 152) (FI 121 92).toInt.toNat) (wf (FL 153) (FI 121 92).toInt.toNat) ≠ 3) := hid_i (fun h => by have hh := au_bn_3.mp h; have := (hid_e u456).mpr (by rw [show ((38 : Int32)).toInt = (38 : Int) from by decide]; exact hh); omega)
            refine hw_aloadn (aX12_meansOperator 82 rfl) rfl ?_
            refine hw_bp (v := (94 : Int32)) (aX12_meansOperator 83 rfl) (by decide) ?_
            refine hw_callV (Bs := [.int ((94 : Int32))]) (rest := []) (aX12_meansOperator 84 rfl) wc_RX12_669 (by decide) rfl wi_yX12_keepsSign wv_yX12_keepsSign (c121 hS) (s121 hS) rfl rfl rfl (Nat.le_of_ble_eq_true rfl) (Nat.le_of_ble_eq_true rfl) (n_keepsSign (d := d + 4) hS hF hI ((94 : Int32)) ) (fun v458 sv459 p460 => ?_)
            obtain ⟨r461, rfl, rfl, t463, u464⟩ := p460
            show hw zk base _ _ _ _ _ [.int (r461)] _ _
            replace u464 := hid_i u464
            refine hw_ifeq (tgt := 164) (aX12_meansOperator 85 rfl) (by decide) rfl (fun cd465 => ?_) (fun cd465 => ?_)
            · have nb2 : hid (au_bn (kf (FI 152) (FI 121 92).toInt.toNat) (wf (FL 153) (FI 121 92).toInt.toNat) ≠ 2) := hid_i (fun h => by have hh := au_bn_2.mp h; have := (hid_e u464).mpr (by rw [show ((94 : Int32)).toInt = (94 : Int) from by decide]; exact hh); omega)
              refine hw_aloadn (aX12_meansOperator 91 rfl) rfl ?_
              refine hw_bp (v := (124 : Int32)) (aX12_meansOperator 92 rfl) (by decide) ?_
              refine hw_callV (Bs := [.int ((124 : Int32))]) (rest := []) (aX12_meansOperator 93 rfl) wc_RX12_669 (by decide) rfl wi_yX12_keepsSign wv_yX12_keepsSign (c121 hS) (s121 hS) rfl rfl rfl (Nat.le_of_ble_eq_true rfl) (Nat.le_of_ble_eq_true rfl) (n_keepsSign (d := d + 4) hS hF hI ((124 : Int32)) ) (fun v466 sv467 p468 => ?_)
              obtain ⟨r469, rfl, rfl, t471, u472⟩ := p468
              show hw zk base _ _ _ _ _ [.int (r469)] _ _
              replace u472 := hid_i u472
              refine hw_ifeq (tgt := 181) (aX12_meansOperator 94 rfl) (by decide) rfl (fun cd473 => ?_) (fun cd473 => ?_)
              · have nb1 : hid (au_bn (kf (FI 152) (FI 121 92).toInt.toNat) (wf (FL 153) (FI 121 92).toInt.toNat) ≠ 1) := hid_i (fun h => by have hh := au_bn_1.mp h; have := (hid_e u472).mpr (by rw [show ((124 : Int32)).toInt = (124 : Int) from by decide]; exact hh); omega)
                refine hw_aloadn (aX12_meansOperator 100 rfl) rfl ?_
                refine hw_bp (v := (63 : Int32)) (aX12_meansOperator 101 rfl) (by decide) ?_
                refine hw_callV (Bs := [.int ((63 : Int32))]) (rest := []) (aX12_meansOperator 102 rfl) wc_RX12_669 (by decide) rfl wi_yX12_keepsSign wv_yX12_keepsSign (c121 hS) (s121 hS) rfl rfl rfl (Nat.le_of_ble_eq_true rfl) (Nat.le_of_ble_eq_true rfl) (n_keepsSign (d := d + 4) hS hF hI ((63 : Int32)) ) (fun v474 sv475 p476 => ?_)
                obtain ⟨r477, rfl, rfl, t479, u480⟩ := p476
                show hw zk base _ _ _ _ _ [.int (r477)] _ _
                replace u480 := hid_i u480
                refine hw_ifeq (tgt := 299) (aX12_meansOperator 103 rfl) (by decide) rfl (fun cd481 => ?_) (fun cd481 => ?_)
                · have hb := hid_i (au_bn_0 (hid_e nb7) (hid_e fc86_0) (hid_e nb5) (hid_e nb4) (hid_e nb3) (hid_e nb2) (hid_e nb1))
                  have hnq : hid (¬ (kf (FI 152) (FI 121 92).toInt.toNat = 5 ∧ wf (FL 153) (FI 121 92).toInt.toNat = 63)) := hid_i (fun h => by have := (hid_e u480).mpr (by rw [show ((63 : Int32)).toInt = (63 : Int) from by decide]; exact h); omega)
                  refine hw_aloadn (aX12_meansOperator 168 rfl) rfl ?_
                  refine hw_callV (Bs := []) (rest := []) (aX12_meansOperator 169 rfl) wc_RX12_721 (by decide) rfl wi_yX12_meansReducedAll wv_yX12_meansReducedAll (c121 hS) (s121 hS) rfl rfl rfl (Nat.le_of_ble_eq_true rfl) (Nat.le_of_ble_eq_true rfl) (n_meansReducedAll (d := d) hS hF hI (gg0) (gg1) ((by have := gg2; omega)) (show rl_wm (FI 121 90) (FI 165) (FI 166) from rel_wm)) (fun v482 sv483 p484 => ?_)
                  have := congrArg Int32.toInt (show FI 121 90 = x1 from h2)
                  have := congrArg Int32.toInt (show FI 121 101 = x10 from h11)
                  obtain ⟨rfl, FI486, FL487, rfl, hI488, f489, f490, t491, t492, u493, u494, rl495⟩ := p484
                  obtain ⟨x496, h497⟩ : ∃ y, FI486 121 90 = y := ⟨_, rfl⟩
                  have h497l := congrArg Int32.toInt h497
                  have b498 := gI_121_90 hI488; rw [h497] at b498
                  obtain ⟨x499, h500⟩ : ∃ y, FI486 121 101 = y := ⟨_, rfl⟩
                  have h500l := congrArg Int32.toInt h500
                  have b501 := gI_121_101 hI488; rw [h500] at b501
                  show hw zk base _ _ _ _ _ [] _ _
                  refine hw_aloadn (aX12_meansOperator 170 rfl) rfl ?_
                  refine hw_bp (v := (58 : Int32)) (aX12_meansOperator 171 rfl) (by decide) ?_
                  refine hw_callV (Bs := [.int ((58 : Int32))]) (rest := []) (aX12_meansOperator 172 rfl) wc_RX12_669 (by decide) rfl wi_yX12_keepsSign wv_yX12_keepsSign (c121 hS) (s121 hS) rfl rfl rfl (Nat.le_of_ble_eq_true rfl) (Nat.le_of_ble_eq_true rfl) (n_keepsSign (d := d + 4) hS hF hI488 ((58 : Int32)) ) (fun v502 sv503 p504 => ?_)
                  obtain ⟨r505, rfl, rfl, t507, u508⟩ := p504
                  show hw zk base _ _ _ _ _ [.int (r505)] _ _
                  replace u508 := hid_i u508
                  have j600 : (hid (¬ ((kf (FI 152) (FI 121 92).toInt.toNat = 5 ∧ wf (FL 153) (FI 121 92).toInt.toNat = 58) ∧ ∃ r, au_all (sk (FI 166) (FI 121 90).toInt.toNat) = -2 :: r))) → hw zk base (d + 5) none 267 383 [(0, .ref (base + 121))] [] (n, sl, SH, FI486, FL487, FR) (h_I (fun r s => ∃ FI' FL', s = (n, sl, SH, FI', FL', FR) ∧ g_I FI' ∧ g_fr n SH [(121, 90), (121, 91), (121, 92), (121, 93), (121, 101), (121, 104)] [165, 166, 174, 175] [] FI FI' ∧ g_fr n SH [] [173] [] FL FL' ∧ (0 ≤ r.toInt ∧ r.toInt ≤ 1) ∧ (∀ q b m, au_st (kf (FI 152)) (wf (FL 153)) (FI 121 92).toInt.toNat false (sk (FI 166) (FI 121 90).toInt.toNat) q b m → r.toInt = 1 ∧ (FI' 121 92).toInt.toNat = q ∧ (sk (FI' 166) (FI' 121 90).toInt.toNat) = m ∧ (FI' 121 101).toInt = (au_vc m : Int) + (if b then 0 else 1) ∧ (FI' 121 91).toInt = (if b then 0 else 1)) ∧ (co_end (kf (FI 152)) (wf (FL 153)) (FI 121 92).toInt.toNat (sk (FI 166) (FI 121 90).toInt.toNat) → r.toInt = 0 ∧ (FI' 121 92).toInt.toNat = (FI 121 92).toInt.toNat) ∧ (rl_wm (FI' 121 90) (FI' 165) (FI' 166)))) := by
                    intro fc383_0
                    refine hw_aloadn (aX12_meansOperator 215 rfl) rfl ?_
                    refine hw_bp (v := (41 : Int32)) (aX12_meansOperator 216 rfl) (by decide) ?_
                    refine hw_callV (Bs := [.int ((41 : Int32))]) (rest := []) (aX12_meansOperator 217 rfl) wc_RX12_669 (by decide) rfl wi_yX12_keepsSign wv_yX12_keepsSign (c121 hS) (s121 hS) rfl rfl rfl (Nat.le_of_ble_eq_true rfl) (Nat.le_of_ble_eq_true rfl) (n_keepsSign (d := d + 4) hS hF hI488 ((41 : Int32)) ) (fun v601 sv602 p603 => ?_)
                    obtain ⟨r604, rfl, rfl, t606, u607⟩ := p603
                    show hw zk base _ _ _ _ _ [.int (r604)] _ _
                    replace u607 := hid_i u607
                    have j652 : (hid (¬ ((kf (FI 152) (FI 121 92).toInt.toNat = 5 ∧ wf (FL 153) (FI 121 92).toInt.toNat = 41) ∧ ∃ r, au_all (sk (FI 166) (FI 121 90).toInt.toNat) = -1 :: r))) → hw zk base (d + 5) none 267 431 [(0, .ref (base + 121))] [] (n, sl, SH, FI486, FL487, FR) (h_I (fun r s => ∃ FI' FL', s = (n, sl, SH, FI', FL', FR) ∧ g_I FI' ∧ g_fr n SH [(121, 90), (121, 91), (121, 92), (121, 93), (121, 101), (121, 104)] [165, 166, 174, 175] [] FI FI' ∧ g_fr n SH [] [173] [] FL FL' ∧ (0 ≤ r.toInt ∧ r.toInt ≤ 1) ∧ (∀ q b m, au_st (kf (FI 152)) (wf (FL 153)) (FI 121 92).toInt.toNat false (sk (FI 166) (FI 121 90).toInt.toNat) q b m → r.toInt = 1 ∧ (FI' 121 92).toInt.toNat = q ∧ (sk (FI' 166) (FI' 121 90).toInt.toNat) = m ∧ (FI' 121 101).toInt = (au_vc m : Int) + (if b then 0 else 1) ∧ (FI' 121 91).toInt = (if b then 0 else 1)) ∧ (co_end (kf (FI 152)) (wf (FL 153)) (FI 121 92).toInt.toNat (sk (FI 166) (FI 121 90).toInt.toNat) → r.toInt = 0 ∧ (FI' 121 92).toInt.toNat = (FI 121 92).toInt.toNat) ∧ (rl_wm (FI' 121 90) (FI' 165) (FI' 166)))) := by
                      intro fc431_0
                      refine hw_ic (v := (0 : Int32)) (aX12_meansOperator 242 rfl) (by decide) ?_
                      refine xw_iret (aX12_meansOperator 243 rfl) rfl (by decide) ?_
                      have e653 : ((0 : Int32)).toInt = 0 := (by decide : (0 : Int32).toInt = 0)
                      exact ⟨(0 : Int32), rfl, FI486, FL487, rfl, hI488, (gf_tr ex_rf gf_rf f489 rfl rfl rfl), (gf_tr ex_rf gf_rf f490 rfl rfl rfl), (by have : ((0 : Int32)).toInt = 0 := (by decide); omega), (by intro q b m hst; have hn := au_st_no hst (hid_e hb) (hid_e hnq); exfalso; rcases hn with ⟨g1, g2⟩ | ⟨g1, g2⟩; { obtain ⟨r9, e0, -⟩ := au_st_co hst g1 g2; exact (hid_e fc383_0) ⟨⟨g1, g2⟩, r9, e0⟩ }; { obtain ⟨r9, e0, -⟩ := au_st_rp hst g1 g2; exact (hid_e fc431_0) ⟨⟨g1, g2⟩, r9, e0⟩ }), (by have := congrArg Int32.toInt (show FI486 121 92 = x4 from (gf_at f489 (c121 hS) (s121 hS) rfl (h5))); have hz : (((0 : Int32))).toInt = 0 := (by decide : (0 : Int32).toInt = 0); exact fun _ => ⟨by omega, by omega⟩), (show rl_wm (FI486 121 90) (FI486 165) (FI486 166) from rl495)⟩
                    refine hw_ifeq (tgt := 431) (aX12_meansOperator 218 rfl) (by decide) rfl (fun cd654 => ?_) (fun cd654 => ?_)
                    · exact hw_L (j652 (show hid (¬ ((kf (FI 152) (FI 121 92).toInt.toNat = 5 ∧ wf (FL 153) (FI 121 92).toInt.toNat = 41) ∧ ∃ r, au_all (sk (FI 166) (FI 121 90).toInt.toNat) = -1 :: r)) from hid_i (by { rintro ⟨h, -⟩; have := (hid_e u607).mpr (by { rw [show ((41 : Int32)).toInt = (41 : Int) from by decide, show FI486 152 = FI 152 from (gf_row f489 (c152 hS) (s152 hS) rfl (rfl)), show FI486 121 92 = FI 121 92 from ((gf_at f489 (c121 hS) (s121 hS) rfl (h5))).trans (h5).symm, show FL487 153 = FL 153 from (gf_row f490 (c153 hS) (s153 hS) rfl (rfl))]; exact h }); omega }))) ⟨rfl, trivial⟩
                    · refine hw_aloadn (aX12_meansOperator 219 rfl) rfl ?_
                      refine hw_callV (Bs := []) (rest := []) (aX12_meansOperator 220 rfl) wc_RX12_559 (by decide) rfl wi_yX12_tops wv_yX12_tops (c121 hS) (s121 hS) rfl rfl rfl (Nat.le_of_ble_eq_true rfl) (Nat.le_of_ble_eq_true rfl) (n_tops (d := d + 4) hS hF hI488 ) (fun v655 sv656 p657 => ?_)
                      have := congrArg Int32.toInt (show FI486 121 90 = x496 from h497)
                      obtain ⟨r658, rfl, rfl, t660, u661, u662⟩ := p657
                      have rg_r658 := i_rng r658
                      show hw zk base _ _ _ _ _ [.int (r658)] _ _
                      refine hw_ic (v := ((-1) : Int32)) (aX12_meansOperator 221 rfl) (by decide) ?_
                      refine hw_icne (tgt := 431) (aX12_meansOperator 222 rfl) (by decide) rfl (by decide : ((-1) : Int32).toInt = (-1)) (fun cd663 => ?_) (fun cd663 => ?_)
                      · exact hw_L (j652 (show hid (¬ ((kf (FI 152) (FI 121 92).toInt.toNat = 5 ∧ wf (FL 153) (FI 121 92).toInt.toNat = 41) ∧ ∃ r, au_all (sk (FI 166) (FI 121 90).toInt.toNat) = -1 :: r)) from hid_i (by { rintro ⟨-, r, h⟩; have := congrArg Int32.toInt (show FI486 121 90 = x496 from h497); rcases Int.lt_or_le 0 (FI486 121 90).toInt with h0 | h0; { have hh := u661 (by omega); rw [show FI486 166 = FI 166 from (gf_row f489 (c166 hS) (s166 hS) rfl (rfl)), show FI486 121 90 = FI486 121 90 from (h497).trans (h497).symm, u493, h] at hh; have h9 := (List.cons.inj hh).1; omega }; { rw [← u493, show (FI486 121 90).toInt.toNat = 0 by omega] at h; cases h } }))) ⟨rfl, trivial⟩
                      · have hrp := (hid_e u607).mp (by omega); rw [show ((41 : Int32)).toInt = (41 : Int) from by decide, show FI486 152 = FI 152 from (gf_row f489 (c152 hS) (s152 hS) rfl (rfl)), show FI486 121 92 = FI 121 92 from ((gf_at f489 (c121 hS) (s121 hS) rfl (h5))).trans (h5).symm, show FL487 153 = FL 153 from (gf_row f490 (c153 hS) (s153 hS) rfl (rfl))] at hrp
                        have := congrArg Int32.toInt (show FI486 121 90 = x496 from h497); have := congrArg Int32.toInt (show FI486 121 101 = x499 from h500)
                        have hh := u661 (by omega); rw [show FI486 166 = FI 166 from (gf_row f489 (c166 hS) (s166 hS) rfl (rfl)), show FI486 121 90 = FI486 121 90 from (h497).trans (h497).symm, u493, show (r658).toInt = (-1 : Int) by omega] at hh
                        have hV := u494; rw [u493, hh, show au_vc (-1 :: sk (FI 166) ((FI486 121 90).toInt - 1).toNat) = au_vc (sk (FI 166) ((FI486 121 90).toInt - 1).toNat) from (by simp [au_vc])] at hV; have hgv := gg2
                        refine hw_aloadn (aX12_meansOperator 223 rfl) rfl ?_
                        refine hw_aloadn (aX12_meansOperator 224 rfl) rfl ?_
                        refine hw_get (v := .int (x496)) (aX12_meansOperator 225 rfl) wf_RX12_556 (c121 hS) (s121 hS) (by decide) (congrArg Value.int (show FI486 121 90 = x496 from h497)) ?_
                        refine hw_ic (v := (1 : Int32)) (aX12_meansOperator 226 rfl) (by decide) ?_
                        refine xw_isub (aX12_meansOperator 227 rfl) ?_
                        refine hw_tie (A := ((x496).toInt) - (1)) (i_sub rfl (by decide : (1 : Int32).toInt = 1) (by omega) (by omega)) (fun x664 e665 => ?_)
                        refine hv_puti (aX12_meansOperator 228 rfl) wf_RX12_556 (c121 hS) (s121 hS) (by decide) rfl rfl (fun FI666 u667 => ?_)
                        have rl668 : rl_wm (FI666 121 90) (FI666 165) (FI666 166) := by have z0 := congrArg Int32.toInt (show FI486 121 90 = x496 from h497); have z1 := congrArg Int32.toInt (show FI666 121 90 = x664 from up_eq u667); have := (e665 : (x664).toInt = ((x496).toInt) - (1)); rw [show FI666 165 = FI486 165 from up_row u667 (by decide) rfl, show FI666 166 = FI486 166 from up_row u667 (by decide) rfl]; exact rl_wm_mono rl495 (by omega)
                        have hI669 : g_I FI666 := gU_121_90 hI488 u667 (by have := (e665 : (x664).toInt = ((x496).toInt) - (1)); omega) (by have := (e665 : (x664).toInt = ((x496).toInt) - (1)); omega)
                        refine hw_aloadn (aX12_meansOperator 229 rfl) rfl ?_
                        refine hw_aloadn (aX12_meansOperator 230 rfl) rfl ?_
                        refine hw_get (v := .int (x4)) (aX12_meansOperator 231 rfl) wf_RX12_656 (c121 hS) (s121 hS) (by decide) (congrArg Value.int (show FI666 121 92 = x4 from (up_k u667 (by decide) ((gf_at f489 (c121 hS) (s121 hS) rfl (h5)))))) ?_
                        refine hw_ic (v := (1 : Int32)) (aX12_meansOperator 232 rfl) (by decide) ?_
                        refine xw_iadd (aX12_meansOperator 233 rfl) ?_
                        refine hw_tie (A := ((x4).toInt) + (1)) (i_add rfl (by decide : (1 : Int32).toInt = 1) (by omega) (by omega)) (fun x670 e671 => ?_)
                        refine hv_puti (aX12_meansOperator 234 rfl) wf_RX12_656 (c121 hS) (s121 hS) (by decide) rfl rfl (fun FI672 u673 => ?_)
                        have rl674 : rl_wm (FI672 121 90) (FI672 165) (FI672 166) := by rw [show FI672 165 = FI666 165 from up_row u673 (by decide) rfl, show FI672 166 = FI666 166 from up_row u673 (by decide) rfl, show FI672 121 90 = FI666 121 90 from up_k u673 (by decide) rfl]; exact rl668
                        have hI675 : g_I FI672 := gU_121_92 hI669 u673 (by have := (e671 : (x670).toInt = ((x4).toInt) + (1)); omega) (by have := (e671 : (x670).toInt = ((x4).toInt) + (1)); omega)
                        refine hw_aloadn (aX12_meansOperator 235 rfl) rfl ?_
                        refine hw_callV (Bs := []) (rest := []) (aX12_meansOperator 236 rfl) wc_RX12_712 (by decide) rfl wi_yX12_meansFinished wv_yX12_meansFinished (c121 hS) (s121 hS) rfl rfl rfl (Nat.le_of_ble_eq_true rfl) (Nat.le_of_ble_eq_true rfl) (n_meansFinished (d := d + 3) hS hF hI675 (by have := congrArg Int32.toInt (show FI672 121 101 = x499 from (up_k u673 (by decide) ((up_k u667 (by decide) (h500))))); omega) (show rl_wm (FI672 121 90) (FI672 165) (FI672 166) from rl674)) (fun v676 sv677 p678 => ?_)
                        have := congrArg Int32.toInt (show FI672 121 90 = x664 from (up_k u673 (by decide) (up_eq u667)))
                        have := (e665 : (x664).toInt = ((x496).toInt) - (1))
                        have := congrArg Int32.toInt (show FI672 121 101 = x499 from (up_k u673 (by decide) ((up_k u667 (by decide) (h500)))))
                        obtain ⟨rfl, FI680, FL681, rfl, hI682, f683, f684, t685, t686, u687, rl688⟩ := p678
                        obtain ⟨x689, h690⟩ : ∃ y, FI680 121 90 = y := ⟨_, rfl⟩
                        have h690l := congrArg Int32.toInt h690
                        have b691 := gI_121_90 hI682; rw [h690] at b691
                        have := congrArg Int32.toInt (show FI680 121 101 = x499 from (gf_at f683 (c121 hS) (s121 hS) rfl ((up_k u673 (by decide) ((up_k u667 (by decide) (h500)))))))
                        show hw zk base _ _ _ _ _ [] _ _
                        refine hw_aloadn (aX12_meansOperator 237 rfl) rfl ?_
                        refine hw_ic (v := (1 : Int32)) (aX12_meansOperator 238 rfl) (by decide) ?_
                        refine hv_putz (aX12_meansOperator 239 rfl) wf_RX12_577 (c121 hS) (s121 hS) (by decide) rfl rfl (by decide) (fun FI692 u693 => ?_)
                        have rl694 : rl_wm (FI692 121 90) (FI692 165) (FI692 166) := by rw [show FI692 165 = FI680 165 from up_row u693 (by decide) rfl, show FI692 166 = FI680 166 from up_row u693 (by decide) rfl, show FI692 121 90 = FI680 121 90 from up_k u693 (by decide) rfl]; exact rl688
                        have hI695 : g_I FI692 := gU_121_91 hI682 u693 (by have := ((by decide : (1 : Int32).toInt = 1) : ((1 : Int32)).toInt = 1); omega) (by have := ((by decide : (1 : Int32).toInt = 1) : ((1 : Int32)).toInt = 1); omega)
                        refine hw_ic (v := (1 : Int32)) (aX12_meansOperator 240 rfl) (by decide) ?_
                        refine xw_iret (aX12_meansOperator 241 rfl) rfl (by decide) ?_
                        have e696 : ((1 : Int32)).toInt = 1 := (by decide : (1 : Int32).toInt = 1)
                        exact ⟨(1 : Int32), rfl, FI692, FL681, rfl, hI695, (gf_f (gf_tr ex_rf (gf_f (gf_f (gf_tr ex_rf gf_rf f489 rfl rfl rfl) u667 (by decide)) u673 (by decide)) f683 rfl rfl rfl) u693 (by decide)), (gf_tr ex_rf (gf_tr ex_rf gf_rf f490 rfl rfl rfl) f684 rfl rfl rfl), (by have : ((1 : Int32)).toInt = 1 := (by decide); omega), (by have := congrArg Int32.toInt (show FI692 121 92 = x670 from (up_k u693 (by decide) ((gf_at f683 (c121 hS) (s121 hS) rfl (up_eq u673))))); have := (e671 : (x670).toInt = ((x4).toInt) + (1)); have := congrArg Int32.toInt (show FI692 121 91 = (1 : Int32) from up_eq u693); have := ((by decide : (1 : Int32).toInt = 1) : ((1 : Int32)).toInt = 1); have := congrArg Int32.toInt (show FI692 121 101 = x499 from (up_k u693 (by decide) ((gf_at f683 (c121 hS) (s121 hS) rfl ((up_k u673 (by decide) ((up_k u667 (by decide) (h500))))))))); have hz : (((1 : Int32))).toInt = 1 := (by decide : (1 : Int32).toInt = 1); intro q b m hst; have := congrArg Int32.toInt (show FI672 121 90 = x664 from (up_k u673 (by decide) (up_eq u667))); have := (e665 : (x664).toInt = ((x496).toInt) - (1)); have h4 := u687; rw [show FI672 166 = FI 166 from (up_row u673 (by decide) ((up_row u667 (by decide) ((gf_row f489 (c166 hS) (s166 hS) rfl (rfl)))))), show (FI672 121 90).toInt.toNat = ((FI486 121 90).toInt - 1).toNat by omega] at h4; have hm : (sk (FI692 166) (FI692 121 90).toInt.toNat) = au_fin (sk (FI 166) ((FI486 121 90).toInt - 1).toNat) := (by rw [show FI692 166 = FI 166 from (up_row u693 (by decide) ((gf_row f683 (c166 hS) (s166 hS) rfl ((up_row u673 (by decide) ((up_row u667 (by decide) ((gf_row f489 (c166 hS) (s166 hS) rfl (rfl)))))))))), show FI692 121 90 = FI680 121 90 from ((up_k u693 (by decide) (h690))).trans (h690).symm, h4]); obtain ⟨r9, e0, e1, e2, e3⟩ := au_st_rp hst hrp.1 hrp.2; subst e2; rw [hh] at e0; cases e0; refine ⟨by omega, by omega, by rw [e3]; exact hm, ?_, ?_⟩; { rw [e3, au_vc_fin, if_neg (by decide)]; omega }; { simp; omega }), (by intro he; have h9 := he.2.2; rw [hh] at h9; cases h9), (show rl_wm (FI692 121 90) (FI692 165) (FI692 166) from rl694)⟩
                  refine hw_ifeq (tgt := 383) (aX12_meansOperator 173 rfl) (by decide) rfl (fun cd697 => ?_) (fun cd697 => ?_)
                  · exact hw_L (j600 (show hid (¬ ((kf (FI 152) (FI 121 92).toInt.toNat = 5 ∧ wf (FL 153) (FI 121 92).toInt.toNat = 58) ∧ ∃ r, au_all (sk (FI 166) (FI 121 90).toInt.toNat) = -2 :: r)) from hid_i (by { rintro ⟨h, -⟩; have := (hid_e u508).mpr (by { rw [show ((58 : Int32)).toInt = (58 : Int) from by decide, show FI486 152 = FI 152 from (gf_row f489 (c152 hS) (s152 hS) rfl (rfl)), show FI486 121 92 = FI 121 92 from ((gf_at f489 (c121 hS) (s121 hS) rfl (h5))).trans (h5).symm, show FL487 153 = FL 153 from (gf_row f490 (c153 hS) (s153 hS) rfl (rfl))]; exact h }); omega }))) ⟨rfl, trivial⟩
                  · refine hw_aloadn (aX12_meansOperator 174 rfl) rfl ?_
                    refine hw_callV (Bs := []) (rest := []) (aX12_meansOperator 175 rfl) wc_RX12_559 (by decide) rfl wi_yX12_tops wv_yX12_tops (c121 hS) (s121 hS) rfl rfl rfl (Nat.le_of_ble_eq_true rfl) (Nat.le_of_ble_eq_true rfl) (n_tops (d := d + 4) hS hF hI488 ) (fun v698 sv699 p700 => ?_)
                    have := congrArg Int32.toInt (show FI486 121 90 = x496 from h497)
                    obtain ⟨r701, rfl, rfl, t703, u704, u705⟩ := p700
                    have rg_r701 := i_rng r701
                    show hw zk base _ _ _ _ _ [.int (r701)] _ _
                    refine hw_bp (v := ((-2) : Int32)) (aX12_meansOperator 176 rfl) (by decide) ?_
                    refine hw_icne (tgt := 383) (aX12_meansOperator 177 rfl) (by decide) rfl (by decide : ((-2) : Int32).toInt = (-2)) (fun cd706 => ?_) (fun cd706 => ?_)
                    · exact hw_L (j600 (show hid (¬ ((kf (FI 152) (FI 121 92).toInt.toNat = 5 ∧ wf (FL 153) (FI 121 92).toInt.toNat = 58) ∧ ∃ r, au_all (sk (FI 166) (FI 121 90).toInt.toNat) = -2 :: r)) from hid_i (by { rintro ⟨-, r, h⟩; have := congrArg Int32.toInt (show FI486 121 90 = x496 from h497); rcases Int.lt_or_le 0 (FI486 121 90).toInt with h0 | h0; { have hh := u704 (by omega); rw [show FI486 166 = FI 166 from (gf_row f489 (c166 hS) (s166 hS) rfl (rfl)), show FI486 121 90 = FI486 121 90 from (h497).trans (h497).symm, u493, h] at hh; have h9 := (List.cons.inj hh).1; omega }; { rw [← u493, show (FI486 121 90).toInt.toNat = 0 by omega] at h; cases h } }))) ⟨rfl, trivial⟩
                    · have hco := (hid_e u508).mp (by omega); rw [show ((58 : Int32)).toInt = (58 : Int) from by decide, show FI486 152 = FI 152 from (gf_row f489 (c152 hS) (s152 hS) rfl (rfl)), show FI486 121 92 = FI 121 92 from ((gf_at f489 (c121 hS) (s121 hS) rfl (h5))).trans (h5).symm, show FL487 153 = FL 153 from (gf_row f490 (c153 hS) (s153 hS) rfl (rfl))] at hco
                      have := congrArg Int32.toInt (show FI486 121 90 = x496 from h497); have := congrArg Int32.toInt (show FI486 121 101 = x499 from h500)
                      have hh := u704 (by omega); rw [show FI486 166 = FI 166 from (gf_row f489 (c166 hS) (s166 hS) rfl (rfl)), show FI486 121 90 = FI486 121 90 from (h497).trans (h497).symm, u493, show (r701).toInt = (-2 : Int) by omega] at hh
                      have hV := u494; rw [u493, hh, show au_vc (-2 :: sk (FI 166) ((FI486 121 90).toInt - 1).toNat) = au_vc (sk (FI 166) ((FI486 121 90).toInt - 1).toNat) from (by simp [au_vc])] at hV; have hgv := gg2
                      refine hw_aloadn (aX12_meansOperator 178 rfl) rfl ?_
                      refine hw_get (v := .ref (base + 166)) (aX12_meansOperator 179 rfl) wf_RX12_157 (c121 hS) (s121 hS) (by decide) (congrArg (fun r => va_rf (h_rf base r)) (r121_87 hF)) ?_
                      refine hw_aloadn (aX12_meansOperator 180 rfl) rfl ?_
                      refine hw_get (v := .int (x496)) (aX12_meansOperator 181 rfl) wf_RX12_556 (c121 hS) (s121 hS) (by decide) (congrArg Value.int (show FI486 121 90 = x496 from h497)) ?_
                      refine hw_ic (v := (1 : Int32)) (aX12_meansOperator 182 rfl) (by decide) ?_
                      refine xw_isub (aX12_meansOperator 183 rfl) ?_
                      refine hw_tie (A := ((x496).toInt) - (1)) (i_sub rfl (by decide : (1 : Int32).toInt = 1) (by omega) (by omega)) (fun x707 e708 => ?_)
                      refine hw_bp (v := ((-3) : Int32)) (aX12_meansOperator 184 rfl) (by decide) ?_
                      refine hv_iast (k := (x707).toNatClampNeg) (aX12_meansOperator 185 rfl) (c166 hS) (s166 hS) (h_in e708 (by omega) (by omega)) rfl (fun FI709 u710 => ?_)
                      have hI711 : g_I FI709 := gU_F hI488 u710 rfl
                      have rl712 : rl_wm (FI709 121 90) (FI709 165) (FI709 166) := by rw [show FI709 166 = va_up (FI486 166) ((x707).toNatClampNeg) (((-3) : Int32)) from (up_va u710 (rfl)), show FI709 165 = FI486 165 from (up_row u710 (by decide) (rfl)), show FI709 121 90 = FI486 121 90 from up_c u710 (by decide) rfl]; exact rl_wm_b rl495 (by decide)
                      refine hw_aloadn (aX12_meansOperator 186 rfl) rfl ?_
                      refine hw_aloadn (aX12_meansOperator 187 rfl) rfl ?_
                      refine hw_get (v := .ref (base + 174)) (aX12_meansOperator 188 rfl) wf_RX12_181 (c121 hS) (s121 hS) (by decide) (congrArg (fun r => va_rf (h_rf base r)) (r121_102 hF)) ?_
                      refine hw_aloadn (aX12_meansOperator 189 rfl) rfl ?_
                      refine hw_get (v := .int (x496)) (aX12_meansOperator 190 rfl) wf_RX12_556 (c121 hS) (s121 hS) (by decide) (congrArg Value.int (show FI709 121 90 = x496 from (up_c u710 (by decide) (h497)))) ?_
                      refine hw_ic (v := (1 : Int32)) (aX12_meansOperator 191 rfl) (by decide) ?_
                      refine xw_isub (aX12_meansOperator 192 rfl) ?_
                      refine hw_tie (A := ((x496).toInt) - (1)) (i_sub rfl (by decide : (1 : Int32).toInt = 1) (by omega) (by omega)) (fun x713 e714 => ?_)
                      obtain ⟨x715, h716⟩ : ∃ y, FI709 174 (x713).toNatClampNeg = y := ⟨_, rfl⟩
                      have h716l := congrArg Int32.toInt h716
                      have := i_rng x715
                      refine hw_zald (v := x715) (aX12_meansOperator 193 rfl) (c174 hS) (s174 hS) (h_in e714 (by omega) (by omega)) (show FI709 174 (x713).toNatClampNeg = x715 from h716) ?_
                      have b717 := gI_174 hI711 (i_lt (x := x713) e714 (by omega) (by omega)); rw [h716] at b717
                      have j737 : ∀ (g725 : Int32), (0 ≤ (g725).toInt ∧ (g725).toInt ≤ 1) → hw zk base (d + 5) none 267 368 [(0, .ref (base + 121))] [.int (g725), .ref (base + 121)] (n, sl, SH, FI709, FL487, FR) (h_I (fun r s => ∃ FI' FL', s = (n, sl, SH, FI', FL', FR) ∧ g_I FI' ∧ g_fr n SH [(121, 90), (121, 91), (121, 92), (121, 93), (121, 101), (121, 104)] [165, 166, 174, 175] [] FI FI' ∧ g_fr n SH [] [173] [] FL FL' ∧ (0 ≤ r.toInt ∧ r.toInt ≤ 1) ∧ (∀ q b m, au_st (kf (FI 152)) (wf (FL 153)) (FI 121 92).toInt.toNat false (sk (FI 166) (FI 121 90).toInt.toNat) q b m → r.toInt = 1 ∧ (FI' 121 92).toInt.toNat = q ∧ (sk (FI' 166) (FI' 121 90).toInt.toNat) = m ∧ (FI' 121 101).toInt = (au_vc m : Int) + (if b then 0 else 1) ∧ (FI' 121 91).toInt = (if b then 0 else 1)) ∧ (co_end (kf (FI 152)) (wf (FL 153)) (FI 121 92).toInt.toNat (sk (FI 166) (FI 121 90).toInt.toNat) → r.toInt = 0 ∧ (FI' 121 92).toInt.toNat = (FI 121 92).toInt.toNat) ∧ (rl_wm (FI' 121 90) (FI' 165) (FI' 166)))) := by
                        intro g725 q738
                        have rg_g725 := i_rng g725
                        refine hv_putz (aX12_meansOperator 206 rfl) wf_RX12_680 (c121 hS) (s121 hS) (by decide) rfl rfl (i_01 rfl (by omega) (by omega)) (fun FI739 u740 => ?_)
                        have rl741 : rl_wm (FI739 121 90) (FI739 165) (FI739 166) := by rw [show FI739 165 = FI709 165 from up_row u740 (by decide) rfl, show FI739 166 = FI709 166 from up_row u740 (by decide) rfl, show FI739 121 90 = FI709 121 90 from up_k u740 (by decide) rfl]; exact rl712
                        have hI742 : g_I FI739 := gU_121_104 hI711 u740 (by omega) (by omega)
                        refine hw_aloadn (aX12_meansOperator 207 rfl) rfl ?_
                        refine hw_aloadn (aX12_meansOperator 208 rfl) rfl ?_
                        refine hw_get (v := .int (x4)) (aX12_meansOperator 209 rfl) wf_RX12_656 (c121 hS) (s121 hS) (by decide) (congrArg Value.int (show FI739 121 92 = x4 from (up_k u740 (by decide) ((up_c u710 (by decide) ((gf_at f489 (c121 hS) (s121 hS) rfl (h5)))))))) ?_
                        refine hw_ic (v := (1 : Int32)) (aX12_meansOperator 210 rfl) (by decide) ?_
                        refine xw_iadd (aX12_meansOperator 211 rfl) ?_
                        refine hw_tie (A := ((x4).toInt) + (1)) (i_add rfl (by decide : (1 : Int32).toInt = 1) (by omega) (by omega)) (fun x743 e744 => ?_)
                        refine hv_puti (aX12_meansOperator 212 rfl) wf_RX12_656 (c121 hS) (s121 hS) (by decide) rfl rfl (fun FI745 u746 => ?_)
                        have rl747 : rl_wm (FI745 121 90) (FI745 165) (FI745 166) := by rw [show FI745 165 = FI739 165 from up_row u746 (by decide) rfl, show FI745 166 = FI739 166 from up_row u746 (by decide) rfl, show FI745 121 90 = FI739 121 90 from up_k u746 (by decide) rfl]; exact rl741
                        have hI748 : g_I FI745 := gU_121_92 hI742 u746 (by have := (e744 : (x743).toInt = ((x4).toInt) + (1)); omega) (by have := (e744 : (x743).toInt = ((x4).toInt) + (1)); omega)
                        refine hw_ic (v := (1 : Int32)) (aX12_meansOperator 213 rfl) (by decide) ?_
                        refine xw_iret (aX12_meansOperator 214 rfl) rfl (by decide) ?_
                        have e749 : ((1 : Int32)).toInt = 1 := (by decide : (1 : Int32).toInt = 1)
                        exact ⟨(1 : Int32), rfl, FI745, FL487, rfl, hI748, (gf_f (gf_f (gf_a (gf_tr ex_rf gf_rf f489 rfl rfl rfl) u710 (by decide)) u740 (by decide)) u746 (by decide)), (gf_tr ex_rf gf_rf f490 rfl rfl rfl), (by have : ((1 : Int32)).toInt = 1 := (by decide); omega), (by have := congrArg Int32.toInt (show FI745 121 92 = x743 from up_eq u746); have := (e744 : (x743).toInt = ((x4).toInt) + (1)); have := congrArg Int32.toInt (show FI745 121 91 = x7 from (up_k u746 (by decide) ((up_k u740 (by decide) ((up_c u710 (by decide) ((gf_at f489 (c121 hS) (s121 hS) rfl (h8))))))))); have := congrArg Int32.toInt (show FI745 121 101 = x499 from (up_k u746 (by decide) ((up_k u740 (by decide) ((up_c u710 (by decide) (h500))))))); have hz : (((1 : Int32))).toInt = 1 := (by decide : (1 : Int32).toInt = 1); intro q b m hst; have hm : (sk (FI745 166) (FI745 121 90).toInt.toNat) = -3 :: sk (FI 166) ((FI486 121 90).toInt - 1).toNat := (by rw [show FI745 166 = va_up (FI 166) ((x707).toNatClampNeg) (((-3) : Int32)) from (up_row u746 (by decide) ((up_row u740 (by decide) ((up_va u710 ((gf_row f489 (c166 hS) (s166 hS) rfl (rfl)))))))), show FI745 121 90 = x496 from (up_k u746 (by decide) ((up_k u740 (by decide) ((up_c u710 (by decide) (h497)))))), sk_pop (w := x496) (i := x707) (by omega) (by omega)]; rw [i_cl (x := x707) (A := (x496).toInt - 1) (by omega), sk_up (Nat.le_refl _), show FI486 121 90 = x496 from h497]; simp [va_up]); obtain ⟨r9, e0, e1, e2, e3⟩ := au_st_co hst hco.1 hco.2; subst e2; rw [hh] at e0; cases e0; refine ⟨by omega, by omega, by rw [e3]; exact hm, ?_, ?_⟩; { rw [e3, show au_vc (-3 :: sk (FI 166) ((FI486 121 90).toInt - 1).toNat) = 1 + au_vc (sk (FI 166) ((FI486 121 90).toInt - 1).toNat) from (by simp [au_vc])]; simp only [if_true]; omega }; { simp; omega }), (by intro he; have h9 := he.2.2; rw [hh] at h9; cases h9), (show rl_wm (FI745 121 90) (FI745 165) (FI745 166) from rl747)⟩
                      refine hw_ifeq (tgt := 367) (aX12_meansOperator 194 rfl) (by decide) rfl (fun cd750 => ?_) (fun cd750 => ?_)
                      · refine hw_ic (v := (0 : Int32)) (aX12_meansOperator 205 rfl) (by decide) ?_
                        exact hw_L (j737 ((0 : Int32)) (by have := ((by decide : (0 : Int32).toInt = 0) : ((0 : Int32)).toInt = 0); show 0 ≤ ((0 : Int32)).toInt ∧ ((0 : Int32)).toInt ≤ 1; omega)) ⟨rfl, trivial⟩
                      · refine hw_aloadn (aX12_meansOperator 195 rfl) rfl ?_
                        refine hw_get (v := .ref (base + 175)) (aX12_meansOperator 196 rfl) wf_RX12_184 (c121 hS) (s121 hS) (by decide) (congrArg (fun r => va_rf (h_rf base r)) (r121_103 hF)) ?_
                        refine hw_aloadn (aX12_meansOperator 197 rfl) rfl ?_
                        refine hw_get (v := .int (x496)) (aX12_meansOperator 198 rfl) wf_RX12_556 (c121 hS) (s121 hS) (by decide) (congrArg Value.int (show FI709 121 90 = x496 from (up_c u710 (by decide) (h497)))) ?_
                        refine hw_ic (v := (1 : Int32)) (aX12_meansOperator 199 rfl) (by decide) ?_
                        refine xw_isub (aX12_meansOperator 200 rfl) ?_
                        refine hw_tie (A := ((x496).toInt) - (1)) (i_sub rfl (by decide : (1 : Int32).toInt = 1) (by omega) (by omega)) (fun x751 e752 => ?_)
                        obtain ⟨x753, h754⟩ : ∃ y, FI709 175 (x751).toNatClampNeg = y := ⟨_, rfl⟩
                        have h754l := congrArg Int32.toInt h754
                        have := i_rng x753
                        refine hw_zald (v := x753) (aX12_meansOperator 201 rfl) (c175 hS) (s175 hS) (h_in e752 (by omega) (by omega)) (show FI709 175 (x751).toNatClampNeg = x753 from h754) ?_
                        have b755 := gI_175 hI711 (i_lt (x := x751) e752 (by omega) (by omega)); rw [h754] at b755
                        refine hw_ifne (tgt := 367) (aX12_meansOperator 202 rfl) (by decide) rfl (fun cd756 => ?_) (fun cd756 => ?_)
                        · refine hw_ic (v := (0 : Int32)) (aX12_meansOperator 205 rfl) (by decide) ?_
                          exact hw_L (j737 ((0 : Int32)) (by have := ((by decide : (0 : Int32).toInt = 0) : ((0 : Int32)).toInt = 0); show 0 ≤ ((0 : Int32)).toInt ∧ ((0 : Int32)).toInt ≤ 1; omega)) ⟨rfl, trivial⟩
                        · refine hw_ic (v := (1 : Int32)) (aX12_meansOperator 203 rfl) (by decide) ?_
                          refine xw_goto (tgt := 368) (aX12_meansOperator 204 rfl) (by decide) ?_
                          exact hw_L (j737 ((1 : Int32)) (by have := ((by decide : (1 : Int32).toInt = 1) : ((1 : Int32)).toInt = 1); show 0 ≤ ((1 : Int32)).toInt ∧ ((1 : Int32)).toInt ≤ 1; omega)) ⟨rfl, trivial⟩
                · have hqm := (hid_e u480).mp (by omega); rw [show ((63 : Int32)).toInt = (63 : Int) from by decide] at hqm; have hb : au_bn (kf (FI 152) (FI 121 92).toInt.toNat) (wf (FL 153) (FI 121 92).toInt.toNat) = 0 := (by rw [hqm.1, hqm.2]; decide)
                  refine hw_aloadn (aX12_meansOperator 104 rfl) rfl ?_
                  refine hw_ic (v := (1 : Int32)) (aX12_meansOperator 105 rfl) (by decide) ?_
                  refine hw_callV (Bs := [.int ((1 : Int32))]) (rest := []) (aX12_meansOperator 106 rfl) wc_RX12_715 (by decide) rfl wi_yX12_meansReduced wv_yX12_meansReduced (c121 hS) (s121 hS) rfl rfl rfl (Nat.le_of_ble_eq_true rfl) (Nat.le_of_ble_eq_true rfl) (n_meansReduced (d := d + 1) hS hF hI ((1 : Int32)) (by have := ((by decide : (1 : Int32).toInt = 1) : ((1 : Int32)).toInt = 1); have := ((by decide : (1 : Int32).toInt = 1) : ((1 : Int32)).toInt = 1); omega) (gg0) (gg1) ((by have := gg2; omega)) (show rl_wm (FI 121 90) (FI 165) (FI 166) from rel_wm)) (fun v757 sv758 p759 => ?_)
                  have := congrArg Int32.toInt (show FI 121 90 = x1 from h2)
                  have := congrArg Int32.toInt (show FI 121 101 = x10 from h11)
                  obtain ⟨rfl, FI761, FL762, rfl, hI763, f764, f765, t766, t767, u768, u769, rl770⟩ := p759
                  obtain ⟨x771, h772⟩ : ∃ y, FI761 121 90 = y := ⟨_, rfl⟩
                  have h772l := congrArg Int32.toInt h772
                  have b773 := gI_121_90 hI763; rw [h772] at b773
                  obtain ⟨x774, h775⟩ : ∃ y, FI761 121 101 = y := ⟨_, rfl⟩
                  have h775l := congrArg Int32.toInt h775
                  have b776 := gI_121_101 hI763; rw [h775] at b776
                  show hw zk base _ _ _ _ _ [] _ _
                  refine hw_aloadn (aX12_meansOperator 107 rfl) rfl ?_
                  refine hw_aloadn (aX12_meansOperator 108 rfl) rfl ?_
                  refine hw_get (v := .int (x774)) (aX12_meansOperator 109 rfl) wf_RX12_683 (c121 hS) (s121 hS) (by decide) (congrArg Value.int (show FI761 121 101 = x774 from h775)) ?_
                  refine hw_ic (v := (1 : Int32)) (aX12_meansOperator 110 rfl) (by decide) ?_
                  refine xw_isub (aX12_meansOperator 111 rfl) ?_
                  refine hw_tie (A := ((x774).toInt) - (1)) (i_sub rfl (by decide : (1 : Int32).toInt = 1) (by omega) (by omega)) (fun x777 e778 => ?_)
                  refine hv_puti (aX12_meansOperator 112 rfl) wf_RX12_683 (c121 hS) (s121 hS) (by decide) rfl rfl (fun FI779 u780 => ?_)
                  have rl781 : rl_wm (FI779 121 90) (FI779 165) (FI779 166) := by rw [show FI779 165 = FI761 165 from up_row u780 (by decide) rfl, show FI779 166 = FI761 166 from up_row u780 (by decide) rfl, show FI779 121 90 = FI761 121 90 from up_k u780 (by decide) rfl]; exact rl770
                  have hI782 : g_I FI779 := gU_121_101 hI763 u780 (by have := (e778 : (x777).toInt = ((x774).toInt) - (1)); omega) (by have := (e778 : (x777).toInt = ((x774).toInt) - (1)); omega)
                  refine hw_aloadn (aX12_meansOperator 113 rfl) rfl ?_
                  refine hw_ic (v := (0 : Int32)) (aX12_meansOperator 114 rfl) (by decide) ?_
                  refine hw_bp (v := ((-2) : Int32)) (aX12_meansOperator 115 rfl) (by decide) ?_
                  refine hw_callV (Bs := [.int ((0 : Int32)), .int (((-2) : Int32))]) (rest := []) (aX12_meansOperator 116 rfl) wc_RX12_580 (by decide) rfl wi_yX12_later wv_yX12_later (c121 hS) (s121 hS) rfl rfl rfl (Nat.le_of_ble_eq_true rfl) (Nat.le_of_ble_eq_true rfl) (n_laterm (d := d + 4) hS hF hI782 ((0 : Int32)) (((-2) : Int32)) (by have := congrArg Int32.toInt (show FI779 121 90 = x771 from (up_k u780 (by decide) (h772))); omega) (by have := ((by decide : ((-2) : Int32).toInt = (-2)) : (((-2) : Int32)).toInt = (-2)); have := ((by decide : (0 : Int32).toInt = 0) : ((0 : Int32)).toInt = 0); have := ((by decide : (0 : Int32).toInt = 0) : ((0 : Int32)).toInt = 0); have := ((by decide : (0 : Int32).toInt = 0) : ((0 : Int32)).toInt = 0); have := ((by decide : (0 : Int32).toInt = 0) : ((0 : Int32)).toInt = 0); have := ((by decide : (0 : Int32).toInt = 0) : ((0 : Int32)).toInt = 0); omega) (show rl_wm (FI779 121 90) (FI779 165) (FI779 166) from rl781)) (fun v783 sv784 p785 => ?_)
                  have := congrArg Int32.toInt (show FI779 121 90 = x771 from (up_k u780 (by decide) (h772)))
                  obtain ⟨rfl, FI787, rfl, hI788, f789, t790, u791, u792, rl793⟩ := p785
                  obtain ⟨x794, h795⟩ : ∃ y, FI787 121 90 = y := ⟨_, rfl⟩
                  have h795l := congrArg Int32.toInt h795
                  have b796 := gI_121_90 hI788; rw [h795] at b796
                  show hw zk base _ _ _ _ _ [] _ _
                  refine hw_aloadn (aX12_meansOperator 117 rfl) rfl ?_
                  refine hw_get (v := .ref (base + 174)) (aX12_meansOperator 118 rfl) wf_RX12_181 (c121 hS) (s121 hS) (by decide) (congrArg (fun r => va_rf (h_rf base r)) (r121_102 hF)) ?_
                  refine hw_aloadn (aX12_meansOperator 119 rfl) rfl ?_
                  refine hw_get (v := .int (x794)) (aX12_meansOperator 120 rfl) wf_RX12_556 (c121 hS) (s121 hS) (by decide) (congrArg Value.int (show FI787 121 90 = x794 from h795)) ?_
                  refine hw_ic (v := (1 : Int32)) (aX12_meansOperator 121 rfl) (by decide) ?_
                  refine xw_isub (aX12_meansOperator 122 rfl) ?_
                  refine hw_tie (A := ((x794).toInt) - (1)) (i_sub rfl (by decide : (1 : Int32).toInt = 1) (by omega) (by omega)) (fun x797 e798 => ?_)
                  refine hw_aloadn (aX12_meansOperator 123 rfl) rfl ?_
                  obtain ⟨x799, h800⟩ : ∃ y, FI787 121 104 = y := ⟨_, rfl⟩
                  have h800l := congrArg Int32.toInt h800
                  have b801 := gI_121_104 hI788; rw [h800] at b801
                  refine hw_get (v := .int (x799)) (aX12_meansOperator 124 rfl) wf_RX12_680 (c121 hS) (s121 hS) (by decide) (congrArg Value.int (show FI787 121 104 = x799 from h800)) ?_
                  obtain ⟨x804, h805, g806⟩ := i_nb (x := x799)
                  have : 0 ≤ (x804).toInt ∧ (x804).toInt ≤ 1 := by rcases g806 with rfl | rfl <;> decide
                  refine hv_zast (w := x804) (k := (x797).toNatClampNeg) (aX12_meansOperator 125 rfl) (c174 hS) (s174 hS) (h_in e798 (by omega) (by omega)) rfl h805 (fun FI802 u803 => ?_)
                  have rl807 : rl_wm (FI802 121 90) (FI802 165) (FI802 166) := by rw [show FI802 165 = FI787 165 from up_row u803 (by decide) rfl, show FI802 166 = FI787 166 from up_row u803 (by decide) rfl, show FI802 121 90 = FI787 121 90 from up_c u803 (by decide) rfl]; exact rl793
                  have hI808 : g_I FI802 := gU_174 hI788 u803 (by omega) (by omega)
                  refine hw_aloadn (aX12_meansOperator 126 rfl) rfl ?_
                  refine hw_get (v := .ref (base + 175)) (aX12_meansOperator 127 rfl) wf_RX12_184 (c121 hS) (s121 hS) (by decide) (congrArg (fun r => va_rf (h_rf base r)) (r121_103 hF)) ?_
                  refine hw_aloadn (aX12_meansOperator 128 rfl) rfl ?_
                  refine hw_get (v := .int (x794)) (aX12_meansOperator 129 rfl) wf_RX12_556 (c121 hS) (s121 hS) (by decide) (congrArg Value.int (show FI802 121 90 = x794 from (up_c u803 (by decide) (h795)))) ?_
                  refine hw_ic (v := (1 : Int32)) (aX12_meansOperator 130 rfl) (by decide) ?_
                  refine xw_isub (aX12_meansOperator 131 rfl) ?_
                  refine hw_tie (A := ((x794).toInt) - (1)) (i_sub rfl (by decide : (1 : Int32).toInt = 1) (by omega) (by omega)) (fun x809 e810 => ?_)
                  refine hw_aloadn (aX12_meansOperator 132 rfl) rfl ?_
                  refine hw_get (v := .ref (base + 173)) (aX12_meansOperator 133 rfl) wf_RX12_178 (c121 hS) (s121 hS) (by decide) (congrArg (fun r => va_rf (h_rf base r)) (r121_100 hF)) ?_
                  refine hw_aloadn (aX12_meansOperator 134 rfl) rfl ?_
                  refine hw_get (v := .int (x777)) (aX12_meansOperator 135 rfl) wf_RX12_683 (c121 hS) (s121 hS) (by decide) (congrArg Value.int (show FI802 121 101 = x777 from (up_c u803 (by decide) ((gf_at f789 (c121 hS) (s121 hS) rfl (up_eq u780)))))) ?_
                  obtain ⟨x811, h812⟩ : ∃ y, FL762 173 (x777).toNatClampNeg = y := ⟨_, rfl⟩
                  have h812l := congrArg Int64.toInt h812
                  have := l_rng x811
                  refine hw_lald (v := x811) (aX12_meansOperator 136 rfl) (c173 hS) (s173 hS) (h_in e778 (by omega) (by omega)) (show FL762 173 (x777).toNatClampNeg = x811 from h812) ?_
                  refine hw_lc (v := (0 : Int64)) (aX12_meansOperator 137 rfl) (by decide) ?_
                  have j836 : ∀ (g814 : Int32), (0 ≤ (g814).toInt ∧ (g814).toInt ≤ 1) → hw zk base (d + 5) none 267 256 [(0, .ref (base + 121))] [.int (g814), .int (x809), .ref (base + 175)] (n, sl, SH, FI802, FL762, FR) (h_I (fun r s => ∃ FI' FL', s = (n, sl, SH, FI', FL', FR) ∧ g_I FI' ∧ g_fr n SH [(121, 90), (121, 91), (121, 92), (121, 93), (121, 101), (121, 104)] [165, 166, 174, 175] [] FI FI' ∧ g_fr n SH [] [173] [] FL FL' ∧ (0 ≤ r.toInt ∧ r.toInt ≤ 1) ∧ (∀ q b m, au_st (kf (FI 152)) (wf (FL 153)) (FI 121 92).toInt.toNat false (sk (FI 166) (FI 121 90).toInt.toNat) q b m → r.toInt = 1 ∧ (FI' 121 92).toInt.toNat = q ∧ (sk (FI' 166) (FI' 121 90).toInt.toNat) = m ∧ (FI' 121 101).toInt = (au_vc m : Int) + (if b then 0 else 1) ∧ (FI' 121 91).toInt = (if b then 0 else 1)) ∧ (co_end (kf (FI 152)) (wf (FL 153)) (FI 121 92).toInt.toNat (sk (FI 166) (FI 121 90).toInt.toNat) → r.toInt = 0 ∧ (FI' 121 92).toInt.toNat = (FI 121 92).toInt.toNat) ∧ (rl_wm (FI' 121 90) (FI' 165) (FI' 166)))) := by
                    intro g814 q837
                    have rg_g814 := i_rng g814
                    obtain ⟨x840, h841, g842⟩ := i_nb (x := g814)
                    have : 0 ≤ (x840).toInt ∧ (x840).toInt ≤ 1 := by rcases g842 with rfl | rfl <;> decide
                    refine hv_zast (w := x840) (k := (x809).toNatClampNeg) (aX12_meansOperator 143 rfl) (c175 hS) (s175 hS) (h_in e810 (by omega) (by omega)) rfl h841 (fun FI838 u839 => ?_)
                    have rl843 : rl_wm (FI838 121 90) (FI838 165) (FI838 166) := by rw [show FI838 165 = FI802 165 from up_row u839 (by decide) rfl, show FI838 166 = FI802 166 from up_row u839 (by decide) rfl, show FI838 121 90 = FI802 121 90 from up_c u839 (by decide) rfl]; exact rl807
                    have hI844 : g_I FI838 := gU_175 hI808 u839 (by omega) (by omega)
                    refine hw_aloadn (aX12_meansOperator 144 rfl) rfl ?_
                    refine hw_aloadn (aX12_meansOperator 145 rfl) rfl ?_
                    refine hw_get (v := .int (x799)) (aX12_meansOperator 146 rfl) wf_RX12_680 (c121 hS) (s121 hS) (by decide) (congrArg Value.int (show FI838 121 104 = x799 from (up_c u839 (by decide) ((up_c u803 (by decide) (h800)))))) ?_
                    have j859 : ∀ (g847 : Int32), (0 ≤ (g847).toInt ∧ (g847).toInt ≤ 1) → hw zk base (d + 5) none 267 284 [(0, .ref (base + 121))] [.int (g847), .ref (base + 121)] (n, sl, SH, FI838, FL762, FR) (h_I (fun r s => ∃ FI' FL', s = (n, sl, SH, FI', FL', FR) ∧ g_I FI' ∧ g_fr n SH [(121, 90), (121, 91), (121, 92), (121, 93), (121, 101), (121, 104)] [165, 166, 174, 175] [] FI FI' ∧ g_fr n SH [] [173] [] FL FL' ∧ (0 ≤ r.toInt ∧ r.toInt ≤ 1) ∧ (∀ q b m, au_st (kf (FI 152)) (wf (FL 153)) (FI 121 92).toInt.toNat false (sk (FI 166) (FI 121 90).toInt.toNat) q b m → r.toInt = 1 ∧ (FI' 121 92).toInt.toNat = q ∧ (sk (FI' 166) (FI' 121 90).toInt.toNat) = m ∧ (FI' 121 101).toInt = (au_vc m : Int) + (if b then 0 else 1) ∧ (FI' 121 91).toInt = (if b then 0 else 1)) ∧ (co_end (kf (FI 152)) (wf (FL 153)) (FI 121 92).toInt.toNat (sk (FI 166) (FI 121 90).toInt.toNat) → r.toInt = 0 ∧ (FI' 121 92).toInt.toNat = (FI 121 92).toInt.toNat) ∧ (rl_wm (FI' 121 90) (FI' 165) (FI' 166)))) := by
                      intro g847 q860
                      have rg_g847 := i_rng g847
                      refine hv_putz (aX12_meansOperator 159 rfl) wf_RX12_680 (c121 hS) (s121 hS) (by decide) rfl rfl (i_01 rfl (by omega) (by omega)) (fun FI861 u862 => ?_)
                      have rl863 : rl_wm (FI861 121 90) (FI861 165) (FI861 166) := by rw [show FI861 165 = FI838 165 from up_row u862 (by decide) rfl, show FI861 166 = FI838 166 from up_row u862 (by decide) rfl, show FI861 121 90 = FI838 121 90 from up_k u862 (by decide) rfl]; exact rl843
                      have hI864 : g_I FI861 := gU_121_104 hI844 u862 (by omega) (by omega)
                      refine hw_aloadn (aX12_meansOperator 160 rfl) rfl ?_
                      refine hw_aloadn (aX12_meansOperator 161 rfl) rfl ?_
                      refine hw_get (v := .int (x4)) (aX12_meansOperator 162 rfl) wf_RX12_656 (c121 hS) (s121 hS) (by decide) (congrArg Value.int (show FI861 121 92 = x4 from (up_k u862 (by decide) ((up_c u839 (by decide) ((up_c u803 (by decide) ((gf_at f789 (c121 hS) (s121 hS) rfl ((up_k u780 (by decide) ((gf_at f764 (c121 hS) (s121 hS) rfl (h5)))))))))))))) ?_
                      refine hw_ic (v := (1 : Int32)) (aX12_meansOperator 163 rfl) (by decide) ?_
                      refine xw_iadd (aX12_meansOperator 164 rfl) ?_
                      refine hw_tie (A := ((x4).toInt) + (1)) (i_add rfl (by decide : (1 : Int32).toInt = 1) (by omega) (by omega)) (fun x865 e866 => ?_)
                      refine hv_puti (aX12_meansOperator 165 rfl) wf_RX12_656 (c121 hS) (s121 hS) (by decide) rfl rfl (fun FI867 u868 => ?_)
                      have rl869 : rl_wm (FI867 121 90) (FI867 165) (FI867 166) := by rw [show FI867 165 = FI861 165 from up_row u868 (by decide) rfl, show FI867 166 = FI861 166 from up_row u868 (by decide) rfl, show FI867 121 90 = FI861 121 90 from up_k u868 (by decide) rfl]; exact rl863
                      have hI870 : g_I FI867 := gU_121_92 hI864 u868 (by have := (e866 : (x865).toInt = ((x4).toInt) + (1)); omega) (by have := (e866 : (x865).toInt = ((x4).toInt) + (1)); omega)
                      refine hw_ic (v := (1 : Int32)) (aX12_meansOperator 166 rfl) (by decide) ?_
                      refine xw_iret (aX12_meansOperator 167 rfl) rfl (by decide) ?_
                      have e871 : ((1 : Int32)).toInt = 1 := (by decide : (1 : Int32).toInt = 1)
                      exact ⟨(1 : Int32), rfl, FI867, FL762, rfl, hI870, (gf_f (gf_f (gf_a (gf_a (gf_tr ex_rf (gf_f (gf_tr ex_rf gf_rf f764 rfl rfl rfl) u780 (by decide)) f789 rfl rfl rfl) u803 (by decide)) u839 (by decide)) u862 (by decide)) u868 (by decide)), (gf_tr ex_rf gf_rf f765 rfl rfl rfl), (by have : ((1 : Int32)).toInt = 1 := (by decide); omega), (by have := congrArg Int32.toInt (show FI867 121 92 = x865 from up_eq u868); have := (e866 : (x865).toInt = ((x4).toInt) + (1)); have := congrArg Int32.toInt (show FI867 121 91 = x7 from (up_k u868 (by decide) ((up_k u862 (by decide) ((up_c u839 (by decide) ((up_c u803 (by decide) ((gf_at f789 (c121 hS) (s121 hS) rfl ((up_k u780 (by decide) ((gf_at f764 (c121 hS) (s121 hS) rfl (h8))))))))))))))); have := congrArg Int32.toInt (show FI867 121 101 = x777 from (up_k u868 (by decide) ((up_k u862 (by decide) ((up_c u839 (by decide) ((up_c u803 (by decide) ((gf_at f789 (c121 hS) (s121 hS) rfl (up_eq u780))))))))))); have := (e778 : (x777).toInt = ((x774).toInt) - (1)); have hz : (((1 : Int32))).toInt = 1 := (by decide : (1 : Int32).toInt = 1); intro q b m hst; have hH := u768; rw [show ((1 : Int32)).toInt = (1 : Int) from by decide] at hH; have hm : (sk (FI867 166) (FI867 121 90).toInt.toNat) = -2 :: au_red 1 (sk (FI 166) (FI 121 90).toInt.toNat) := (by rw [show FI867 166 = FI787 166 from (up_row u868 (by decide) ((up_row u862 (by decide) ((up_row u839 (by decide) ((up_row u803 (by decide) (rfl)))))))), show FI867 121 90 = FI787 121 90 from ((up_k u868 (by decide) ((up_k u862 (by decide) ((up_c u839 (by decide) ((up_c u803 (by decide) (h795))))))))).trans (h795).symm, u792, show FI779 166 = FI 166 from (up_row u780 (by decide) ((gf_row f764 (c166 hS) (s166 hS) rfl (rfl)))), show FI779 121 90 = FI761 121 90 from ((up_k u780 (by decide) (h772))).trans (h772).symm, hH, show ((-2 : Int32)).toInt = (-2 : Int) from by decide]); have hV := u769; rw [hH] at hV; have := congrArg Int32.toInt (show FI761 121 101 = x774 from h775); have hgv := gg2; obtain ⟨e1, e2, e3⟩ := au_st_qm hst hqm.1 hqm.2; subst e2; refine ⟨by omega, by omega, by rw [e3]; exact hm, ?_, ?_⟩; { rw [e3, show au_vc (-2 :: au_red 1 (sk (FI 166) (FI 121 90).toInt.toNat)) = au_vc (au_red 1 (sk (FI 166) (FI 121 90).toInt.toNat)) from (by simp [au_vc])]; simp only [if_true]; omega }; { simp; omega }), (by intro he; exact absurd hqm he.2.1), (show rl_wm (FI867 121 90) (FI867 165) (FI867 166) from rl869)⟩
                    refine hw_ifeq (tgt := 283) (aX12_meansOperator 147 rfl) (by decide) rfl (fun cd872 => ?_) (fun cd872 => ?_)
                    · refine hw_ic (v := (0 : Int32)) (aX12_meansOperator 158 rfl) (by decide) ?_
                      exact hw_L (j859 ((0 : Int32)) (by have := ((by decide : (0 : Int32).toInt = 0) : ((0 : Int32)).toInt = 0); show 0 ≤ ((0 : Int32)).toInt ∧ ((0 : Int32)).toInt ≤ 1; omega)) ⟨rfl, trivial⟩
                    · refine hw_aloadn (aX12_meansOperator 148 rfl) rfl ?_
                      refine hw_get (v := .ref (base + 173)) (aX12_meansOperator 149 rfl) wf_RX12_178 (c121 hS) (s121 hS) (by decide) (congrArg (fun r => va_rf (h_rf base r)) (r121_100 hF)) ?_
                      refine hw_aloadn (aX12_meansOperator 150 rfl) rfl ?_
                      refine hw_get (v := .int (x777)) (aX12_meansOperator 151 rfl) wf_RX12_683 (c121 hS) (s121 hS) (by decide) (congrArg Value.int (show FI838 121 101 = x777 from (up_c u839 (by decide) ((up_c u803 (by decide) ((gf_at f789 (c121 hS) (s121 hS) rfl (up_eq u780)))))))) ?_
                      refine hw_lald (v := x811) (aX12_meansOperator 152 rfl) (c173 hS) (s173 hS) (h_in e778 (by omega) (by omega)) (show FL762 173 (x777).toNatClampNeg = x811 from h812) ?_
                      refine hw_lc (v := (0 : Int64)) (aX12_meansOperator 153 rfl) (by decide) ?_
                      refine hw_lceq (tgt := 283) (aX12_meansOperator 154 rfl) (aX12_meansOperator 155 rfl) (by decide) rfl (by decide : (0 : Int64).toInt = 0) (fun cd873 => ?_) (fun cd873 => ?_)
                      · refine hw_ic (v := (0 : Int32)) (aX12_meansOperator 158 rfl) (by decide) ?_
                        exact hw_L (j859 ((0 : Int32)) (by have := ((by decide : (0 : Int32).toInt = 0) : ((0 : Int32)).toInt = 0); show 0 ≤ ((0 : Int32)).toInt ∧ ((0 : Int32)).toInt ≤ 1; omega)) ⟨rfl, trivial⟩
                      · refine hw_ic (v := (1 : Int32)) (aX12_meansOperator 156 rfl) (by decide) ?_
                        refine xw_goto (tgt := 284) (aX12_meansOperator 157 rfl) (by decide) ?_
                        exact hw_L (j859 ((1 : Int32)) (by have := ((by decide : (1 : Int32).toInt = 1) : ((1 : Int32)).toInt = 1); show 0 ≤ ((1 : Int32)).toInt ∧ ((1 : Int32)).toInt ≤ 1; omega)) ⟨rfl, trivial⟩
                  refine hw_lceq (tgt := 255) (aX12_meansOperator 138 rfl) (aX12_meansOperator 139 rfl) (by decide) rfl (by decide : (0 : Int64).toInt = 0) (fun cd874 => ?_) (fun cd874 => ?_)
                  · refine hw_ic (v := (0 : Int32)) (aX12_meansOperator 142 rfl) (by decide) ?_
                    exact hw_L (j836 ((0 : Int32)) (by have := ((by decide : (0 : Int32).toInt = 0) : ((0 : Int32)).toInt = 0); show 0 ≤ ((0 : Int32)).toInt ∧ ((0 : Int32)).toInt ≤ 1; omega)) ⟨rfl, trivial⟩
                  · refine hw_ic (v := (1 : Int32)) (aX12_meansOperator 140 rfl) (by decide) ?_
                    refine xw_goto (tgt := 256) (aX12_meansOperator 141 rfl) (by decide) ?_
                    exact hw_L (j836 ((1 : Int32)) (by have := ((by decide : (1 : Int32).toInt = 1) : ((1 : Int32)).toInt = 1); show 0 ≤ ((1 : Int32)).toInt ∧ ((1 : Int32)).toInt ≤ 1; omega)) ⟨rfl, trivial⟩
              · have hq := (hid_e u472).mp (by omega); rw [show ((124 : Int32)).toInt = (124 : Int) from by decide] at hq; have hb : au_bn (kf (FI 152) (FI 121 92).toInt.toNat) (wf (FL 153) (FI 121 92).toInt.toNat) = 1 := au_bn_1.mpr hq
                refine hw_aloadn (aX12_meansOperator 95 rfl) rfl ?_
                refine hw_bp (v := (33 : Int32)) (aX12_meansOperator 96 rfl) (by decide) ?_
                refine hw_ic (v := (1 : Int32)) (aX12_meansOperator 97 rfl) (by decide) ?_
                refine hw_callV (Bs := [.int ((33 : Int32)), .int ((1 : Int32))]) (rest := []) (aX12_meansOperator 98 rfl) wc_RX12_718 (by decide) rfl wi_yX12_meansBinary wv_yX12_meansBinary (c121 hS) (s121 hS) rfl rfl rfl (Nat.le_of_ble_eq_true rfl) (Nat.le_of_ble_eq_true rfl) (n_meansBinary (d := d) hS hF hI ((33 : Int32)) ((1 : Int32)) (by have := congrArg Int32.toInt (show FI 121 90 = x1 from h2); omega) (by have := congrArg Int32.toInt (show FI 121 92 = x4 from h5); omega) (by have := ((by decide : (1 : Int32).toInt = 1) : ((1 : Int32)).toInt = 1); have := ((by decide : (1 : Int32).toInt = 1) : ((1 : Int32)).toInt = 1); omega) (gg0) (gg1) (gg2) (show rl_wm (FI 121 90) (FI 165) (FI 166) from rel_wm)) (fun v875 sv876 p877 => ?_)
                have := congrArg Int32.toInt (show FI 121 92 = x4 from h5)
                have := congrArg Int32.toInt (show FI 121 90 = x1 from h2)
                obtain ⟨r878, rfl, FI879, FL880, rfl, hI881, f882, f883, t884, t885, t886, t887, u888, u889, rl890⟩ := p877
                obtain ⟨x891, h892⟩ : ∃ y, FI879 121 92 = y := ⟨_, rfl⟩
                have h892l := congrArg Int32.toInt h892
                have b893 := gI_121_92 hI881; rw [h892] at b893
                obtain ⟨x894, h895⟩ : ∃ y, FI879 121 90 = y := ⟨_, rfl⟩
                have h895l := congrArg Int32.toInt h895
                have b896 := gI_121_90 hI881; rw [h895] at b896
                show hw zk base _ _ _ _ _ [.int (r878)] _ _
                refine xw_iret (aX12_meansOperator 99 rfl) rfl (i_nz rfl (by omega) (by omega)) ?_
                exact ⟨r878, rfl, FI879, FL880, rfl, hI881, (gf_tr ex_rf gf_rf f882 rfl rfl rfl), (gf_tr ex_rf gf_rf f883 rfl rfl rfl), (by omega), (by have := congrArg Int32.toInt (show FI879 121 92 = x891 from h892); have := congrArg Int32.toInt (show FI879 121 91 = x7 from (gf_at f882 (c121 hS) (s121 hS) rfl (h8))); have hz : ((r878)).toInt = (r878).toInt := rfl; intro q b m hst; obtain ⟨e1, e2, e3⟩ := au_st_bin hst hb (by decide); subst e2; have hm := u888; rw [show ((1 : Int32)).toInt = (1 : Int) from by decide] at hm; refine ⟨by omega, by omega, by rw [e3]; exact hm, ?_, ?_⟩; { have hV := u889; rw [hm] at hV; rw [e3]; simpa using hV }; { simp; omega }), (by intro he; exact absurd he.1 (by rw [hb]; decide)), (show rl_wm (FI879 121 90) (FI879 165) (FI879 166) from rl890)⟩
            · have hq := (hid_e u464).mp (by omega); rw [show ((94 : Int32)).toInt = (94 : Int) from by decide] at hq; have hb : au_bn (kf (FI 152) (FI 121 92).toInt.toNat) (wf (FL 153) (FI 121 92).toInt.toNat) = 2 := au_bn_2.mpr hq
              refine hw_aloadn (aX12_meansOperator 86 rfl) rfl ?_
              refine hw_bp (v := (39 : Int32)) (aX12_meansOperator 87 rfl) (by decide) ?_
              refine hw_ic (v := (2 : Int32)) (aX12_meansOperator 88 rfl) (by decide) ?_
              refine hw_callV (Bs := [.int ((39 : Int32)), .int ((2 : Int32))]) (rest := []) (aX12_meansOperator 89 rfl) wc_RX12_718 (by decide) rfl wi_yX12_meansBinary wv_yX12_meansBinary (c121 hS) (s121 hS) rfl rfl rfl (Nat.le_of_ble_eq_true rfl) (Nat.le_of_ble_eq_true rfl) (n_meansBinary (d := d) hS hF hI ((39 : Int32)) ((2 : Int32)) (by have := congrArg Int32.toInt (show FI 121 90 = x1 from h2); omega) (by have := congrArg Int32.toInt (show FI 121 92 = x4 from h5); omega) (by have := ((by decide : (2 : Int32).toInt = 2) : ((2 : Int32)).toInt = 2); have := ((by decide : (2 : Int32).toInt = 2) : ((2 : Int32)).toInt = 2); omega) (gg0) (gg1) (gg2) (show rl_wm (FI 121 90) (FI 165) (FI 166) from rel_wm)) (fun v897 sv898 p899 => ?_)
              have := congrArg Int32.toInt (show FI 121 92 = x4 from h5)
              have := congrArg Int32.toInt (show FI 121 90 = x1 from h2)
              obtain ⟨r900, rfl, FI901, FL902, rfl, hI903, f904, f905, t906, t907, t908, t909, u910, u911, rl912⟩ := p899
              obtain ⟨x913, h914⟩ : ∃ y, FI901 121 92 = y := ⟨_, rfl⟩
              have h914l := congrArg Int32.toInt h914
              have b915 := gI_121_92 hI903; rw [h914] at b915
              obtain ⟨x916, h917⟩ : ∃ y, FI901 121 90 = y := ⟨_, rfl⟩
              have h917l := congrArg Int32.toInt h917
              have b918 := gI_121_90 hI903; rw [h917] at b918
              show hw zk base _ _ _ _ _ [.int (r900)] _ _
              refine xw_iret (aX12_meansOperator 90 rfl) rfl (i_nz rfl (by omega) (by omega)) ?_
              exact ⟨r900, rfl, FI901, FL902, rfl, hI903, (gf_tr ex_rf gf_rf f904 rfl rfl rfl), (gf_tr ex_rf gf_rf f905 rfl rfl rfl), (by omega), (by have := congrArg Int32.toInt (show FI901 121 92 = x913 from h914); have := congrArg Int32.toInt (show FI901 121 91 = x7 from (gf_at f904 (c121 hS) (s121 hS) rfl (h8))); have hz : ((r900)).toInt = (r900).toInt := rfl; intro q b m hst; obtain ⟨e1, e2, e3⟩ := au_st_bin hst hb (by decide); subst e2; have hm := u910; rw [show ((2 : Int32)).toInt = (2 : Int) from by decide] at hm; refine ⟨by omega, by omega, by rw [e3]; exact hm, ?_, ?_⟩; { have hV := u911; rw [hm] at hV; rw [e3]; simpa using hV }; { simp; omega }), (by intro he; exact absurd he.1 (by rw [hb]; decide)), (show rl_wm (FI901 121 90) (FI901 165) (FI901 166) from rl912)⟩
          · have hq := (hid_e u456).mp (by omega); rw [show ((38 : Int32)).toInt = (38 : Int) from by decide] at hq; have hb : au_bn (kf (FI 152) (FI 121 92).toInt.toNat) (wf (FL 153) (FI 121 92).toInt.toNat) = 3 := au_bn_3.mpr hq
            refine hw_aloadn (aX12_meansOperator 77 rfl) rfl ?_
            refine hw_bp (v := (26 : Int32)) (aX12_meansOperator 78 rfl) (by decide) ?_
            refine hw_ic (v := (3 : Int32)) (aX12_meansOperator 79 rfl) (by decide) ?_
            refine hw_callV (Bs := [.int ((26 : Int32)), .int ((3 : Int32))]) (rest := []) (aX12_meansOperator 80 rfl) wc_RX12_718 (by decide) rfl wi_yX12_meansBinary wv_yX12_meansBinary (c121 hS) (s121 hS) rfl rfl rfl (Nat.le_of_ble_eq_true rfl) (Nat.le_of_ble_eq_true rfl) (n_meansBinary (d := d) hS hF hI ((26 : Int32)) ((3 : Int32)) (by have := congrArg Int32.toInt (show FI 121 90 = x1 from h2); omega) (by have := congrArg Int32.toInt (show FI 121 92 = x4 from h5); omega) (by have := ((by decide : (3 : Int32).toInt = 3) : ((3 : Int32)).toInt = 3); have := ((by decide : (3 : Int32).toInt = 3) : ((3 : Int32)).toInt = 3); omega) (gg0) (gg1) (gg2) (show rl_wm (FI 121 90) (FI 165) (FI 166) from rel_wm)) (fun v919 sv920 p921 => ?_)
            have := congrArg Int32.toInt (show FI 121 92 = x4 from h5)
            have := congrArg Int32.toInt (show FI 121 90 = x1 from h2)
            obtain ⟨r922, rfl, FI923, FL924, rfl, hI925, f926, f927, t928, t929, t930, t931, u932, u933, rl934⟩ := p921
            obtain ⟨x935, h936⟩ : ∃ y, FI923 121 92 = y := ⟨_, rfl⟩
            have h936l := congrArg Int32.toInt h936
            have b937 := gI_121_92 hI925; rw [h936] at b937
            obtain ⟨x938, h939⟩ : ∃ y, FI923 121 90 = y := ⟨_, rfl⟩
            have h939l := congrArg Int32.toInt h939
            have b940 := gI_121_90 hI925; rw [h939] at b940
            show hw zk base _ _ _ _ _ [.int (r922)] _ _
            refine xw_iret (aX12_meansOperator 81 rfl) rfl (i_nz rfl (by omega) (by omega)) ?_
            exact ⟨r922, rfl, FI923, FL924, rfl, hI925, (gf_tr ex_rf gf_rf f926 rfl rfl rfl), (gf_tr ex_rf gf_rf f927 rfl rfl rfl), (by omega), (by have := congrArg Int32.toInt (show FI923 121 92 = x935 from h936); have := congrArg Int32.toInt (show FI923 121 91 = x7 from (gf_at f926 (c121 hS) (s121 hS) rfl (h8))); have hz : ((r922)).toInt = (r922).toInt := rfl; intro q b m hst; obtain ⟨e1, e2, e3⟩ := au_st_bin hst hb (by decide); subst e2; have hm := u932; rw [show ((3 : Int32)).toInt = (3 : Int) from by decide] at hm; refine ⟨by omega, by omega, by rw [e3]; exact hm, ?_, ?_⟩; { have hV := u933; rw [hm] at hV; rw [e3]; simpa using hV }; { simp; omega }), (by intro he; exact absurd he.1 (by rw [hb]; decide)), (show rl_wm (FI923 121 90) (FI923 165) (FI923 166) from rl934)⟩
        · have hb : au_bn (kf (FI 152) (FI 121 92).toInt.toNat) (wf (FL 153) (FI 121 92).toInt.toNat) = 4 := by rw [hk1, hw1]; exact au_bn_4.mpr (hid_e t447 (by omega))
          refine hw_aloadn (aX12_meansOperator 68 rfl) rfl ?_
          refine xw_iload (aX12_meansOperator 69 rfl) rfl ?_
          refine hw_ic (v := (4 : Int32)) (aX12_meansOperator 70 rfl) (by decide) ?_
          refine hw_callV (Bs := [.int (r444), .int ((4 : Int32))]) (rest := []) (aX12_meansOperator 71 rfl) wc_RX12_718 (by decide) rfl wi_yX12_meansBinary wv_yX12_meansBinary (c121 hS) (s121 hS) rfl rfl rfl (Nat.le_of_ble_eq_true rfl) (Nat.le_of_ble_eq_true rfl) (n_meansBinary (d := d) hS hF hI (r444) ((4 : Int32)) (by have := congrArg Int32.toInt (show FI 121 90 = x1 from h2); omega) (by have := congrArg Int32.toInt (show FI 121 92 = x4 from h5); omega) (by have := ((by decide : (4 : Int32).toInt = 4) : ((4 : Int32)).toInt = 4); have := ((by decide : (4 : Int32).toInt = 4) : ((4 : Int32)).toInt = 4); omega) (gg0) (gg1) (gg2) (show rl_wm (FI 121 90) (FI 165) (FI 166) from rel_wm)) (fun v941 sv942 p943 => ?_)
          have := congrArg Int32.toInt (show FI 121 92 = x4 from h5)
          have := congrArg Int32.toInt (show FI 121 90 = x1 from h2)
          obtain ⟨r944, rfl, FI945, FL946, rfl, hI947, f948, f949, t950, t951, t952, t953, u954, u955, rl956⟩ := p943
          obtain ⟨x957, h958⟩ : ∃ y, FI945 121 92 = y := ⟨_, rfl⟩
          have h958l := congrArg Int32.toInt h958
          have b959 := gI_121_92 hI947; rw [h958] at b959
          obtain ⟨x960, h961⟩ : ∃ y, FI945 121 90 = y := ⟨_, rfl⟩
          have h961l := congrArg Int32.toInt h961
          have b962 := gI_121_90 hI947; rw [h961] at b962
          show hw zk base _ _ _ _ _ [.int (r944)] _ _
          refine xw_iret (aX12_meansOperator 72 rfl) rfl (i_nz rfl (by omega) (by omega)) ?_
          exact ⟨r944, rfl, FI945, FL946, rfl, hI947, (gf_tr ex_rf gf_rf f948 rfl rfl rfl), (gf_tr ex_rf gf_rf f949 rfl rfl rfl), (by omega), (by have := congrArg Int32.toInt (show FI945 121 92 = x957 from h958); have := congrArg Int32.toInt (show FI945 121 91 = x7 from (gf_at f948 (c121 hS) (s121 hS) rfl (h8))); have hz : ((r944)).toInt = (r944).toInt := rfl; intro q b m hst; obtain ⟨e1, e2, e3⟩ := au_st_bin hst hb (by decide); subst e2; have hm := u954; rw [show ((4 : Int32)).toInt = (4 : Int) from by decide] at hm; refine ⟨by omega, by omega, by rw [e3]; exact hm, ?_, ?_⟩; { have hV := u955; rw [hm] at hV; rw [e3]; simpa using hV }; { simp; omega }), (by intro he; exact absurd he.1 (by rw [hb]; decide)), (show rl_wm (FI945 121 90) (FI945 165) (FI945 166) from rl956)⟩
      · have hb : au_bn (kf (FI 152) (FI 121 92).toInt.toNat) (wf (FL 153) (FI 121 92).toInt.toNat) = 5 := by rw [hk1, hw1]; exact au_bn_5.mpr (hid_e t438 (by omega))
        refine hw_aloadn (aX12_meansOperator 55 rfl) rfl ?_
        refine xw_iload (aX12_meansOperator 56 rfl) rfl ?_
        refine hw_ic (v := (5 : Int32)) (aX12_meansOperator 57 rfl) (by decide) ?_
        refine hw_callV (Bs := [.int (r435), .int ((5 : Int32))]) (rest := []) (aX12_meansOperator 58 rfl) wc_RX12_718 (by decide) rfl wi_yX12_meansBinary wv_yX12_meansBinary (c121 hS) (s121 hS) rfl rfl rfl (Nat.le_of_ble_eq_true rfl) (Nat.le_of_ble_eq_true rfl) (n_meansBinary (d := d) hS hF hI (r435) ((5 : Int32)) (by have := congrArg Int32.toInt (show FI 121 90 = x1 from h2); omega) (by have := congrArg Int32.toInt (show FI 121 92 = x4 from h5); omega) (by have := ((by decide : (5 : Int32).toInt = 5) : ((5 : Int32)).toInt = 5); have := ((by decide : (5 : Int32).toInt = 5) : ((5 : Int32)).toInt = 5); omega) (gg0) (gg1) (gg2) (show rl_wm (FI 121 90) (FI 165) (FI 166) from rel_wm)) (fun v963 sv964 p965 => ?_)
        have := congrArg Int32.toInt (show FI 121 92 = x4 from h5)
        have := congrArg Int32.toInt (show FI 121 90 = x1 from h2)
        obtain ⟨r966, rfl, FI967, FL968, rfl, hI969, f970, f971, t972, t973, t974, t975, u976, u977, rl978⟩ := p965
        obtain ⟨x979, h980⟩ : ∃ y, FI967 121 92 = y := ⟨_, rfl⟩
        have h980l := congrArg Int32.toInt h980
        have b981 := gI_121_92 hI969; rw [h980] at b981
        obtain ⟨x982, h983⟩ : ∃ y, FI967 121 90 = y := ⟨_, rfl⟩
        have h983l := congrArg Int32.toInt h983
        have b984 := gI_121_90 hI969; rw [h983] at b984
        show hw zk base _ _ _ _ _ [.int (r966)] _ _
        refine xw_iret (aX12_meansOperator 59 rfl) rfl (i_nz rfl (by omega) (by omega)) ?_
        exact ⟨r966, rfl, FI967, FL968, rfl, hI969, (gf_tr ex_rf gf_rf f970 rfl rfl rfl), (gf_tr ex_rf gf_rf f971 rfl rfl rfl), (by omega), (by have := congrArg Int32.toInt (show FI967 121 92 = x979 from h980); have := congrArg Int32.toInt (show FI967 121 91 = x7 from (gf_at f970 (c121 hS) (s121 hS) rfl (h8))); have hz : ((r966)).toInt = (r966).toInt := rfl; intro q b m hst; obtain ⟨e1, e2, e3⟩ := au_st_bin hst hb (by decide); subst e2; have hm := u976; rw [show ((5 : Int32)).toInt = (5 : Int) from by decide] at hm; refine ⟨by omega, by omega, by rw [e3]; exact hm, ?_, ?_⟩; { have hV := u977; rw [hm] at hV; rw [e3]; simpa using hV }; { simp; omega }), (by intro he; exact absurd he.1 (by rw [hb]; decide)), (show rl_wm (FI967 121 90) (FI967 165) (FI967 166) from rl978)⟩
    refine hw_icne (tgt := 86) (aX12_meansOperator 27 rfl) (by decide) rfl (by decide : (5 : Int32).toInt = 5) (fun cd985 => ?_) (fun cd985 => ?_)
    · exact hw_L (j431 (show hid (au_bn (kf (FI 152) (FI 121 92).toInt.toNat) (wf (FL 153) (FI 121 92).toInt.toNat) ≠ 6) from hid_i (fun h => by { have hh := au_bn_6.mp h; rw [hk1, hw1] at hh; omega }))) ⟨rfl, rfl, rfl, trivial⟩
    · refine xw_lloadn (aX12_meansOperator 28 rfl) rfl ?_
      refine xw_ldc2 (aX12_meansOperator 29 rfl) wk_RX12_605 ?_
      have j1033 : (43 ≤ (x15).toInt ∧ (x15).toInt ≤ 45) → ((x13).toInt = 5 ∧ ((x15).toInt = 43 ∨ (x15).toInt = 45)) → hw zk base (d + 5) none 267 64 [(0, .ref (base + 121)), (1, .int (x13)), (2, .long (x15))] [] (n, sl, SH, FI, FL, FR) (h_I (fun r s => ∃ FI' FL', s = (n, sl, SH, FI', FL', FR) ∧ g_I FI' ∧ g_fr n SH [(121, 90), (121, 91), (121, 92), (121, 93), (121, 101), (121, 104)] [165, 166, 174, 175] [] FI FI' ∧ g_fr n SH [] [173] [] FL FL' ∧ (0 ≤ r.toInt ∧ r.toInt ≤ 1) ∧ (∀ q b m, au_st (kf (FI 152)) (wf (FL 153)) (FI 121 92).toInt.toNat false (sk (FI 166) (FI 121 90).toInt.toNat) q b m → r.toInt = 1 ∧ (FI' 121 92).toInt.toNat = q ∧ (sk (FI' 166) (FI' 121 90).toInt.toNat) = m ∧ (FI' 121 101).toInt = (au_vc m : Int) + (if b then 0 else 1) ∧ (FI' 121 91).toInt = (if b then 0 else 1)) ∧ (co_end (kf (FI 152)) (wf (FL 153)) (FI 121 92).toInt.toNat (sk (FI 166) (FI 121 90).toInt.toNat) → r.toInt = 0 ∧ (FI' 121 92).toInt.toNat = (FI 121 92).toInt.toNat) ∧ (rl_wm (FI' 121 90) (FI' 165) (FI' 166)))) := by
        intro q1034 fc64_0
        have hb : au_bn (kf (FI 152) (FI 121 92).toInt.toNat) (wf (FL 153) (FI 121 92).toInt.toNat) = 6 := by rw [hk1, hw1]; exact au_bn_6.mpr ⟨by omega, by omega⟩
        refine hw_aloadn (aX12_meansOperator 36 rfl) rfl ?_
        refine xw_lloadn (aX12_meansOperator 37 rfl) rfl ?_
        refine xw_ldc2 (aX12_meansOperator 38 rfl) wk_RX12_605 ?_
        refine hw_lcne (tgt := 78) (aX12_meansOperator 39 rfl) (aX12_meansOperator 40 rfl) (by decide) rfl (by decide : (43 : Int64).toInt = 43) (fun cd1035 => ?_) (fun cd1035 => ?_)
        · refine hw_bp (v := (28 : Int32)) (aX12_meansOperator 43 rfl) (by decide) ?_
          refine hw_bp (v := (6 : Int32)) (aX12_meansOperator 44 rfl) (by decide) ?_
          refine hw_callV (Bs := [.int ((28 : Int32)), .int ((6 : Int32))]) (rest := []) (aX12_meansOperator 45 rfl) wc_RX12_718 (by decide) rfl wi_yX12_meansBinary wv_yX12_meansBinary (c121 hS) (s121 hS) rfl rfl rfl (Nat.le_of_ble_eq_true rfl) (Nat.le_of_ble_eq_true rfl) (n_meansBinary (d := d) hS hF hI ((28 : Int32)) ((6 : Int32)) (by have := congrArg Int32.toInt (show FI 121 90 = x1 from h2); omega) (by have := congrArg Int32.toInt (show FI 121 92 = x4 from h5); omega) (by have := ((by decide : (6 : Int32).toInt = 6) : ((6 : Int32)).toInt = 6); have := ((by decide : (6 : Int32).toInt = 6) : ((6 : Int32)).toInt = 6); omega) (gg0) (gg1) (gg2) (show rl_wm (FI 121 90) (FI 165) (FI 166) from rel_wm)) (fun v1036 sv1037 p1038 => ?_)
          have := congrArg Int32.toInt (show FI 121 92 = x4 from h5)
          have := congrArg Int32.toInt (show FI 121 90 = x1 from h2)
          obtain ⟨r1039, rfl, FI1040, FL1041, rfl, hI1042, f1043, f1044, t1045, t1046, t1047, t1048, u1049, u1050, rl1051⟩ := p1038
          obtain ⟨x1052, h1053⟩ : ∃ y, FI1040 121 92 = y := ⟨_, rfl⟩
          have h1053l := congrArg Int32.toInt h1053
          have b1054 := gI_121_92 hI1042; rw [h1053] at b1054
          obtain ⟨x1055, h1056⟩ : ∃ y, FI1040 121 90 = y := ⟨_, rfl⟩
          have h1056l := congrArg Int32.toInt h1056
          have b1057 := gI_121_90 hI1042; rw [h1056] at b1057
          show hw zk base _ _ _ _ _ [.int (r1039)] _ _
          refine xw_iret (aX12_meansOperator 46 rfl) rfl (i_nz rfl (by omega) (by omega)) ?_
          exact ⟨r1039, rfl, FI1040, FL1041, rfl, hI1042, (gf_tr ex_rf gf_rf f1043 rfl rfl rfl), (gf_tr ex_rf gf_rf f1044 rfl rfl rfl), (by omega), (by have := congrArg Int32.toInt (show FI1040 121 92 = x1052 from h1053); have := congrArg Int32.toInt (show FI1040 121 91 = x7 from (gf_at f1043 (c121 hS) (s121 hS) rfl (h8))); have hz : ((r1039)).toInt = (r1039).toInt := rfl; intro q b m hst; obtain ⟨e1, e2, e3⟩ := au_st_bin hst hb (by decide); subst e2; have hm := u1049; rw [show ((6 : Int32)).toInt = (6 : Int) from by decide] at hm; refine ⟨by omega, by omega, by rw [e3]; exact hm, ?_, ?_⟩; { have hV := u1050; rw [hm] at hV; rw [e3]; simpa using hV }; { simp; omega }), (by intro he; exact absurd he.1 (by rw [hb]; decide)), (show rl_wm (FI1040 121 90) (FI1040 165) (FI1040 166) from rl1051)⟩
        · refine hw_bp (v := (34 : Int32)) (aX12_meansOperator 41 rfl) (by decide) ?_
          refine xw_goto (tgt := 80) (aX12_meansOperator 42 rfl) (by decide) ?_
          refine hw_bp (v := (6 : Int32)) (aX12_meansOperator 44 rfl) (by decide) ?_
          refine hw_callV (Bs := [.int ((34 : Int32)), .int ((6 : Int32))]) (rest := []) (aX12_meansOperator 45 rfl) wc_RX12_718 (by decide) rfl wi_yX12_meansBinary wv_yX12_meansBinary (c121 hS) (s121 hS) rfl rfl rfl (Nat.le_of_ble_eq_true rfl) (Nat.le_of_ble_eq_true rfl) (n_meansBinary (d := d) hS hF hI ((34 : Int32)) ((6 : Int32)) (by have := congrArg Int32.toInt (show FI 121 90 = x1 from h2); omega) (by have := congrArg Int32.toInt (show FI 121 92 = x4 from h5); omega) (by have := ((by decide : (6 : Int32).toInt = 6) : ((6 : Int32)).toInt = 6); have := ((by decide : (6 : Int32).toInt = 6) : ((6 : Int32)).toInt = 6); omega) (gg0) (gg1) (gg2) (show rl_wm (FI 121 90) (FI 165) (FI 166) from rel_wm)) (fun v1058 sv1059 p1060 => ?_)
          have := congrArg Int32.toInt (show FI 121 92 = x4 from h5)
          have := congrArg Int32.toInt (show FI 121 90 = x1 from h2)
          obtain ⟨r1061, rfl, FI1062, FL1063, rfl, hI1064, f1065, f1066, t1067, t1068, t1069, t1070, u1071, u1072, rl1073⟩ := p1060
          obtain ⟨x1074, h1075⟩ : ∃ y, FI1062 121 92 = y := ⟨_, rfl⟩
          have h1075l := congrArg Int32.toInt h1075
          have b1076 := gI_121_92 hI1064; rw [h1075] at b1076
          obtain ⟨x1077, h1078⟩ : ∃ y, FI1062 121 90 = y := ⟨_, rfl⟩
          have h1078l := congrArg Int32.toInt h1078
          have b1079 := gI_121_90 hI1064; rw [h1078] at b1079
          show hw zk base _ _ _ _ _ [.int (r1061)] _ _
          refine xw_iret (aX12_meansOperator 46 rfl) rfl (i_nz rfl (by omega) (by omega)) ?_
          exact ⟨r1061, rfl, FI1062, FL1063, rfl, hI1064, (gf_tr ex_rf gf_rf f1065 rfl rfl rfl), (gf_tr ex_rf gf_rf f1066 rfl rfl rfl), (by omega), (by have := congrArg Int32.toInt (show FI1062 121 92 = x1074 from h1075); have := congrArg Int32.toInt (show FI1062 121 91 = x7 from (gf_at f1065 (c121 hS) (s121 hS) rfl (h8))); have hz : ((r1061)).toInt = (r1061).toInt := rfl; intro q b m hst; obtain ⟨e1, e2, e3⟩ := au_st_bin hst hb (by decide); subst e2; have hm := u1071; rw [show ((6 : Int32)).toInt = (6 : Int) from by decide] at hm; refine ⟨by omega, by omega, by rw [e3]; exact hm, ?_, ?_⟩; { have hV := u1072; rw [hm] at hV; rw [e3]; simpa using hV }; { simp; omega }), (by intro he; exact absurd he.1 (by rw [hb]; decide)), (show rl_wm (FI1062 121 90) (FI1062 165) (FI1062 166) from rl1073)⟩
      refine hw_lceq (tgt := 64) (aX12_meansOperator 30 rfl) (aX12_meansOperator 31 rfl) (by decide) rfl (by decide : (43 : Int64).toInt = 43) (fun cd1080 => ?_) (fun cd1080 => ?_)
      · exact hw_L (j1033 (by omega) (by show (x13).toInt = 5 ∧ ((x15).toInt = 43 ∨ (x15).toInt = 45); omega)) ⟨rfl, rfl, rfl, trivial⟩
      · refine xw_lloadn (aX12_meansOperator 32 rfl) rfl ?_
        refine xw_ldc2 (aX12_meansOperator 33 rfl) wk_RX12_651 ?_
        refine hw_lcne (tgt := 86) (aX12_meansOperator 34 rfl) (aX12_meansOperator 35 rfl) (by decide) rfl (by decide : (45 : Int64).toInt = 45) (fun cd1081 => ?_) (fun cd1081 => ?_)
        · exact hw_L (j431 (show hid (au_bn (kf (FI 152) (FI 121 92).toInt.toNat) (wf (FL 153) (FI 121 92).toInt.toNat) ≠ 6) from hid_i (fun h => by { have hh := au_bn_6.mp h; rw [hk1, hw1] at hh; omega }))) ⟨rfl, rfl, rfl, trivial⟩
        · exact hw_L (j1033 (by omega) (by show (x13).toInt = 5 ∧ ((x15).toInt = 43 ∨ (x15).toInt = 45); omega)) ⟨rfl, rfl, rfl, trivial⟩
  · have hb : au_bn (kf (FI 152) (FI 121 92).toInt.toNat) (wf (FL 153) (FI 121 92).toInt.toNat) = 7 := by rw [hk1, hw1]; exact au_bn_7.mpr (hid_e t23 (by omega))
    refine hw_aloadn (aX12_meansOperator 20 rfl) rfl ?_
    refine xw_iload (aX12_meansOperator 21 rfl) rfl ?_
    refine hw_bp (v := (7 : Int32)) (aX12_meansOperator 22 rfl) (by decide) ?_
    refine hw_callV (Bs := [.int (r20), .int ((7 : Int32))]) (rest := []) (aX12_meansOperator 23 rfl) wc_RX12_718 (by decide) rfl wi_yX12_meansBinary wv_yX12_meansBinary (c121 hS) (s121 hS) rfl rfl rfl (Nat.le_of_ble_eq_true rfl) (Nat.le_of_ble_eq_true rfl) (n_meansBinary (d := d) hS hF hI (r20) ((7 : Int32)) (by have := congrArg Int32.toInt (show FI 121 90 = x1 from h2); omega) (by have := congrArg Int32.toInt (show FI 121 92 = x4 from h5); omega) (by have := ((by decide : (7 : Int32).toInt = 7) : ((7 : Int32)).toInt = 7); have := ((by decide : (7 : Int32).toInt = 7) : ((7 : Int32)).toInt = 7); omega) (gg0) (gg1) (gg2) (show rl_wm (FI 121 90) (FI 165) (FI 166) from rel_wm)) (fun v1082 sv1083 p1084 => ?_)
    have := congrArg Int32.toInt (show FI 121 92 = x4 from h5)
    have := congrArg Int32.toInt (show FI 121 90 = x1 from h2)
    obtain ⟨r1085, rfl, FI1086, FL1087, rfl, hI1088, f1089, f1090, t1091, t1092, t1093, t1094, u1095, u1096, rl1097⟩ := p1084
    obtain ⟨x1098, h1099⟩ : ∃ y, FI1086 121 92 = y := ⟨_, rfl⟩
    have h1099l := congrArg Int32.toInt h1099
    have b1100 := gI_121_92 hI1088; rw [h1099] at b1100
    obtain ⟨x1101, h1102⟩ : ∃ y, FI1086 121 90 = y := ⟨_, rfl⟩
    have h1102l := congrArg Int32.toInt h1102
    have b1103 := gI_121_90 hI1088; rw [h1102] at b1103
    show hw zk base _ _ _ _ _ [.int (r1085)] _ _
    refine xw_iret (aX12_meansOperator 24 rfl) rfl (i_nz rfl (by omega) (by omega)) ?_
    exact ⟨r1085, rfl, FI1086, FL1087, rfl, hI1088, (gf_tr ex_rf gf_rf f1089 rfl rfl rfl), (gf_tr ex_rf gf_rf f1090 rfl rfl rfl), (by omega), (by have := congrArg Int32.toInt (show FI1086 121 92 = x1098 from h1099); have := congrArg Int32.toInt (show FI1086 121 91 = x7 from (gf_at f1089 (c121 hS) (s121 hS) rfl (h8))); have hz : ((r1085)).toInt = (r1085).toInt := rfl; intro q b m hst; obtain ⟨e1, e2, e3⟩ := au_st_bin hst hb (by decide); subst e2; have hm := u1095; rw [show ((7 : Int32)).toInt = (7 : Int) from by decide] at hm; refine ⟨by omega, by omega, by rw [e3]; exact hm, ?_, ?_⟩; { have hV := u1096; rw [hm] at hV; rw [e3]; simpa using hV }; { simp; omega }), (by intro he; exact absurd he.1 (by rw [hb]; decide)), (show rl_wm (FI1086 121 90) (FI1086 165) (FI1086 166) from rl1097)⟩
end
section
/-! One step of the walk where an operand is wanted, by the token that stands there. -/
section AUE
variable {K W : Nat → Int} {p q : Nat} {b : Bool} {l m : List Int}
theorem au_st_un (h : au_st K W p true l q b m) (hu : au_un (K p) (W p)) : q = p + 1 ∧ b = true ∧ m = 9 :: l := by
  unfold au_un at hu
  rcases au_st_t h with ⟨-, h⟩ | ⟨h1, h2, -⟩ | ⟨h1, -⟩ | ⟨h1, h2, -⟩
  · exact h
  · omega
  · omega
  · omega
theorem au_st_lp (h : au_st K W p true l q b m) (hk : K p = 5) (hw : W p = 40) : q = p + 1 ∧ b = true ∧ m = -1 :: l := by
  rcases au_st_t h with ⟨h1, -⟩ | ⟨-, -, h⟩ | ⟨h1, -⟩ | ⟨h1, h2, -⟩
  · unfold au_un at h1; omega
  · exact h
  · omega
  · omega
theorem au_st_v (h : au_st K W p true l q b m) (hu : ¬ au_un (K p) (W p)) (hk : K p ≠ 5) : q = p + 1 ∧ b = false ∧ m = au_fin l := by
  rcases au_st_t h with ⟨h1, -⟩ | ⟨h1, -⟩ | ⟨-, h⟩ | ⟨h1, h2, -⟩
  · exact absurd h1 hu
  · omega
  · exact h
  · omega
theorem au_st_rg (h : au_st K W p true l q b m) (hu : ¬ au_un (K p) (W p)) (hk : K p = 5) (hw : W p ≠ 40) : K (p + 1) = 3 ∧ W (p + 1) ≤ 31 ∧ q = p + 2 ∧ b = false ∧ m = au_fin l := by
  rcases au_st_t h with ⟨h1, -⟩ | ⟨-, h1, -⟩ | ⟨h1, -⟩ | ⟨-, -, h⟩
  · exact absurd h1 hu
  · omega
  · omega
  · exact h
end AUE
theorem au_vc_le : ∀ {l : List Int}, au_vc l ≤ l.length
  | [] => Nat.le_refl _
  | x :: l => by
    have := au_vc_le (l := l)
    simp only [au_vc, List.length_cons]
    split <;> omega
end
section
def nX12_bases : Nat := 0xb18d02b57801b6602e1700b42a1400b42a681700b42a580211681700b42a580211042a2a7501b6e803112ab18d02b50b102a0a00a0021700b42a
theorem bX12_bases : cX12_bases.data.toList.map UInt8.toNat = x_un nX12_bases 58 := by decide +kernel
def iX12_bases : List (Nat × Jvm.ClassFile.Instr × Nat) := [(0, .aload_n 0, 1), (1, .getfield 23, 3), (4, .iconst (-1), 1), (5, .if_icmp .ne 10, 3), (8, .aload_n 0, 1), (9, .bipush 11, 2), (11, .putfield 653, 3), (14, .return_, 1), (15, .aload_n 0, 1), (16, .sipush 1000, 3), (19, .invokevirtual 373, 3), (22, .aload_n 0, 1), (23, .aload_n 0, 1), (24, .iconst 1, 1), (25, .sipush 600, 3), (28, .aload_n 0, 1), (29, .getfield 23, 3), (32, .imul, 1), (33, .sipush 600, 3), (36, .aload_n 0, 1), (37, .getfield 23, 3), (40, .imul, 1), (41, .aload_n 0, 1), (42, .getfield 20, 3), (45, .aload_n 0, 1), (46, .getfield 23, 3), (49, .iaload, 1), (50, .iadd, 1), (51, .invokevirtual 376, 3), (54, .putfield 653, 3), (57, .return_, 1)]
theorem dX12_bases : x_il nX12_bases 58 iX12_bases = true := by decide +kernel
theorem aX12_bases (k : Nat) {pc : Nat} {i : Jvm.ClassFile.Instr} {len : Nat} (hk : iX12_bases[k]? = some (pc, i, len)) : x_at xMM 262 pc i len yX12_bases 1 none := ⟨cX12_bases, rfl, x_il_ok bX12_bases dX12_bases k hk⟩
set_option maxHeartbeats 4000000 in
set_option maxRecDepth 100000 in
theorem n_bases {zk : xK} {base d n sl : Nat} {SH : Nat → Nat × Nat} {FI : Nat → Nat → Int32} {FL : Nat → Nat → Int64} {FR : Nat → Nat → Option Nat} (hS : h_S n SH) (hF : h_FR FR) (hI : g_I FI) (rel_hold : rl_h 2 (FI 136) (FL 137) (FI 138)) (rel_piece : rl_h 32 (FI 130) (FL 131) (FI 134)) (rel_back : rl_b (FI 139) (FI 140) (FI 141)) : hw zk base (d + 5) none 262 0 [(0, .ref (base + 121))] [] (n, sl, SH, FI, FL, FR) (h_V (fun s => ∃ FI' FL', s = (n, sl, SH, FI', FL', FR) ∧ g_I FI' ∧ g_fr n SH [(121, 29), (121, 30), (121, 31), (121, 32), (121, 33), (121, 34), (121, 37), (121, 38), (121, 93)] [128, 129, 130, 132, 133, 134, 135, 136, 138, 139, 140, 141, 142] [] FI FI' ∧ g_fr n SH [(121, 35), (121, 36), (121, 39)] [127, 131, 137] [] FL FL' ∧ (rl_h 2 (FI' 136) (FL' 137) (FI' 138)) ∧ (rl_h 32 (FI' 130) (FL' 131) (FI' 134)) ∧ (rl_b (FI' 139) (FI' 140) (FI' 141)))) := by
  refine hw_aloadn (aX12_bases 0 rfl) rfl ?_
  obtain ⟨x1, h2⟩ : ∃ y, FI 121 5 = y := ⟨_, rfl⟩
  have h2l := congrArg Int32.toInt h2
  have b3 := gI_121_5 hI; rw [h2] at b3
  refine hw_get (v := .int (x1)) (aX12_bases 1 rfl) wf_RX12_23 (c121 hS) (s121 hS) (by decide) (congrArg Value.int (show FI 121 5 = x1 from h2)) ?_
  refine hw_ic (v := ((-1) : Int32)) (aX12_bases 2 rfl) (by decide) ?_
  refine hw_icne (tgt := 15) (aX12_bases 3 rfl) (by decide) rfl (by decide : ((-1) : Int32).toInt = (-1)) (fun cd4 => ?_) (fun cd4 => ?_)
  · refine hw_aloadn (aX12_bases 8 rfl) rfl ?_
    refine hw_sp (v := (1000 : Int32)) (aX12_bases 9 rfl) (by decide) ?_
    refine hw_callV (Bs := [.int ((1000 : Int32))]) (rest := []) (aX12_bases 10 rfl) wc_RX12_373 (by decide) rfl wi_yX12_begins wv_yX12_begins (c121 hS) (s121 hS) rfl rfl rfl (Nat.le_of_ble_eq_true rfl) (Nat.le_of_ble_eq_true rfl) (m_begins (d := d + 4) hS hF ((1000 : Int32)) ) (fun v5 sv6 p7 => ?_)
    have := ((by decide : (1000 : Int32).toInt = 1000) : ((1000 : Int32)).toInt = 1000)
    obtain ⟨rfl, FI9, FL10, rfl, f11, rfl, t13, t14⟩ := p7
    have f15 : g_fr n SH [(121, 29), (121, 30), (121, 31), (121, 32), (121, 33)] [] [] FI FI9 := gf_old f11
    have rl16 : rl_h 2 (FI9 136) (FL 137) (FI9 138) := by rw [show FI9 136 = FI 136 from f11.2 136 (by decide) (by decide), show FI9 138 = FI 138 from f11.2 138 (by decide) (by decide)]; exact rel_hold
    have rl17 : rl_h 32 (FI9 130) (FL 131) (FI9 134) := by rw [show FI9 130 = FI 130 from f11.2 130 (by decide) (by decide), show FI9 134 = FI 134 from f11.2 134 (by decide) (by decide)]; exact rel_piece
    have rl18 : rl_b (FI9 139) (FI9 140) (FI9 141) := by rw [show FI9 139 = FI 139 from f11.2 139 (by decide) (by decide), show FI9 140 = FI 140 from f11.2 140 (by decide) (by decide), show FI9 141 = FI 141 from f11.2 141 (by decide) (by decide)]; exact rel_back
    have hI19 : g_I FI9 := g_old hI f11 (g_kc (P := fun k => (g_r 121 k).1 ≤ (FI9 121 k).toInt ∧ (FI9 121 k).toInt ≤ (g_r 121 k).2) (g_full rfl) (g_kc (P := fun k => (g_r 121 k).1 ≤ (FI9 121 k).toInt ∧ (FI9 121 k).toInt ≤ (g_r 121 k).2) (g_full rfl) (g_kc (P := fun k => (g_r 121 k).1 ≤ (FI9 121 k).toInt ∧ (FI9 121 k).toInt ≤ (g_r 121 k).2) (g_full rfl) (g_kc (P := fun k => (g_r 121 k).1 ≤ (FI9 121 k).toInt ∧ (FI9 121 k).toInt ≤ (g_r 121 k).2) (g_full rfl) (g_kc (P := fun k => (g_r 121 k).1 ≤ (FI9 121 k).toInt ∧ (FI9 121 k).toInt ≤ (g_r 121 k).2) (g_full rfl) g_k0))))) g_k0
    obtain ⟨x20, h21⟩ : ∃ y, FI9 121 30 = y := ⟨_, rfl⟩
    have h21l := congrArg Int32.toInt h21
    have := i_rng x20
    obtain ⟨x22, h23⟩ : ∃ y, FI9 121 29 = y := ⟨_, rfl⟩
    have h23l := congrArg Int32.toInt h23
    have := i_rng x22
    show hw zk base _ _ _ _ _ [] _ _
    refine hw_aloadn (aX12_bases 11 rfl) rfl ?_
    refine hw_aloadn (aX12_bases 12 rfl) rfl ?_
    refine hw_ic (v := (1 : Int32)) (aX12_bases 13 rfl) (by decide) ?_
    refine hw_sp (v := (600 : Int32)) (aX12_bases 14 rfl) (by decide) ?_
    refine hw_aloadn (aX12_bases 15 rfl) rfl ?_
    refine hw_get (v := .int (x1)) (aX12_bases 16 rfl) wf_RX12_23 (c121 hS) (s121 hS) (by decide) (congrArg Value.int (show FI9 121 5 = x1 from (gf_at f15 (c121 hS) (s121 hS) rfl (h2)))) ?_
    refine xw_imul (aX12_bases 17 rfl) ?_
    refine hw_tie (A := (600) * ((x1).toInt)) (i_mul (by decide : (600 : Int32).toInt = 600) rfl (by omega) (by omega)) (fun x24 e25 => ?_)
    refine hw_sp (v := (600 : Int32)) (aX12_bases 18 rfl) (by decide) ?_
    refine hw_aloadn (aX12_bases 19 rfl) rfl ?_
    refine hw_get (v := .int (x1)) (aX12_bases 20 rfl) wf_RX12_23 (c121 hS) (s121 hS) (by decide) (congrArg Value.int (show FI9 121 5 = x1 from (gf_at f15 (c121 hS) (s121 hS) rfl (h2)))) ?_
    refine xw_imul (aX12_bases 21 rfl) ?_
    refine hw_tie (A := (600) * ((x1).toInt)) (i_mul (by decide : (600 : Int32).toInt = 600) rfl (by omega) (by omega)) (fun x26 e27 => ?_)
    refine hw_aloadn (aX12_bases 22 rfl) rfl ?_
    refine hw_get (v := .ref (base + 125)) (aX12_bases 23 rfl) wf_RX12_20 (c121 hS) (s121 hS) (by decide) (congrArg (fun r => va_rf (h_rf base r)) (r121_4 hF)) ?_
    refine hw_aloadn (aX12_bases 24 rfl) rfl ?_
    refine hw_get (v := .int (x1)) (aX12_bases 25 rfl) wf_RX12_23 (c121 hS) (s121 hS) (by decide) (congrArg Value.int (show FI9 121 5 = x1 from (gf_at f15 (c121 hS) (s121 hS) rfl (h2)))) ?_
    obtain ⟨x28, h29⟩ : ∃ y, FI9 125 (x1).toNatClampNeg = y := ⟨_, rfl⟩
    have h29l := congrArg Int32.toInt h29
    have := i_rng x28
    refine hw_iald (v := x28) (aX12_bases 26 rfl) (c125 hS) (s125 hS) (h_in rfl (by omega) (by omega)) (show FI9 125 (x1).toNatClampNeg = x28 from h29) ?_
    have b30 := gI_125 hI19 (i_lt (x := x1) rfl (by omega) (by omega)); rw [h29] at b30
    refine xw_iadd (aX12_bases 27 rfl) ?_
    refine hw_tie (A := ((600) * ((x1).toInt)) + ((x28).toInt)) (i_add e27 rfl (by omega) (by omega)) (fun x31 e32 => ?_)
    refine hw_callV (Bs := [.int ((1 : Int32)), .int (x24), .int (x31)]) (rest := [.ref (base + 121)]) (aX12_bases 28 rfl) wc_RX12_376 (by decide) rfl wi_yX12_exec wv_yX12_exec (c121 hS) (s121 hS) rfl rfl rfl (Nat.le_of_ble_eq_true rfl) (Nat.le_of_ble_eq_true rfl) (n_exec1 (d := d) hS hF hI19 (x24) (x31) (by have := (e25 : (x24).toInt = (600) * ((x1).toInt)); have := (e32 : (x31).toInt = ((600) * ((x1).toInt)) + ((x28).toInt)); omega) (by have := (e32 : (x31).toInt = ((600) * ((x1).toInt)) + ((x28).toInt)); have := (e25 : (x24).toInt = (600) * ((x1).toInt)); omega) (by have := congrArg Int32.toInt (show FI9 121 29 = x22 from h23); omega) (by have := congrArg Int32.toInt (show FI9 121 30 = x20 from h21); have := congrArg Int32.toInt (show FI9 121 30 = x20 from h21); omega) (by have := (e25 : (x24).toInt = (600) * ((x1).toInt)); have := (e25 : (x24).toInt = (600) * ((x1).toInt)); omega) (by have := (e32 : (x31).toInt = ((600) * ((x1).toInt)) + ((x28).toInt)); have := (e32 : (x31).toInt = ((600) * ((x1).toInt)) + ((x28).toInt)); omega) (show rl_h 2 (FI9 136) (FL 137) (FI9 138) from rl16) (show rl_h 32 (FI9 130) (FL 131) (FI9 134) from rl17) (show rl_b (FI9 139) (FI9 140) (FI9 141) from rl18)) (fun v33 sv34 p35 => ?_)
    obtain ⟨r36, rfl, FI37, FL38, rfl, hI39, f40, f41, rl42, rl43, rl44⟩ := p35
    have rg_r36 := i_rng r36
    show hw zk base _ _ _ _ _ [.int (r36), .ref (base + 121)] _ _
    refine hv_puti (aX12_bases 29 rfl) wf_RX12_653 (c121 hS) (s121 hS) (by decide) rfl rfl (fun FI45 u46 => ?_)
    have rl47 : rl_h 2 (FI45 136) (FL38 137) (FI45 138) := by rw [show FI45 136 = FI37 136 from up_row u46 (by decide) rfl, show FI45 138 = FI37 138 from up_row u46 (by decide) rfl]; exact rl42
    have rl48 : rl_h 32 (FI45 130) (FL38 131) (FI45 134) := by rw [show FI45 130 = FI37 130 from up_row u46 (by decide) rfl, show FI45 134 = FI37 134 from up_row u46 (by decide) rfl]; exact rl43
    have rl49 : rl_b (FI45 139) (FI45 140) (FI45 141) := by rw [show FI45 139 = FI37 139 from up_row u46 (by decide) rfl, show FI45 140 = FI37 140 from up_row u46 (by decide) rfl, show FI45 141 = FI37 141 from up_row u46 (by decide) rfl]; exact rl44
    have hI50 : g_I FI45 := gU_F hI39 u46 rfl
    refine xw_vret (aX12_bases 30 rfl) rfl ?_
    exact ⟨rfl, FI45, FL38, rfl, hI50, (gf_f (gf_tr ex_rf (gf_tr ex_rf gf_rf f15 rfl rfl rfl) f40 rfl rfl rfl) u46 (by decide)), (gf_tr ex_rf gf_rf f41 rfl rfl rfl), (show rl_h 2 (FI45 136) (FL38 137) (FI45 138) from rl47), (show rl_h 32 (FI45 130) (FL38 131) (FI45 134) from rl48), (show rl_b (FI45 139) (FI45 140) (FI45 141) from rl49)⟩
  · refine hw_aloadn (aX12_bases 4 rfl) rfl ?_
    refine hw_bp (v := (11 : Int32)) (aX12_bases 5 rfl) (by decide) ?_
    refine hv_puti (aX12_bases 6 rfl) wf_RX12_653 (c121 hS) (s121 hS) (by decide) rfl rfl (fun FI51 u52 => ?_)
    have rl53 : rl_h 2 (FI51 136) (FL 137) (FI51 138) := by rw [show FI51 136 = FI 136 from up_row u52 (by decide) rfl, show FI51 138 = FI 138 from up_row u52 (by decide) rfl]; exact rel_hold
    have rl54 : rl_h 32 (FI51 130) (FL 131) (FI51 134) := by rw [show FI51 130 = FI 130 from up_row u52 (by decide) rfl, show FI51 134 = FI 134 from up_row u52 (by decide) rfl]; exact rel_piece
    have rl55 : rl_b (FI51 139) (FI51 140) (FI51 141) := by rw [show FI51 139 = FI 139 from up_row u52 (by decide) rfl, show FI51 140 = FI 140 from up_row u52 (by decide) rfl, show FI51 141 = FI 141 from up_row u52 (by decide) rfl]; exact rel_back
    have hI56 : g_I FI51 := gU_F hI u52 rfl
    refine xw_vret (aX12_bases 7 rfl) rfl ?_
    exact ⟨rfl, FI51, FL, rfl, hI56, (gf_f gf_rf u52 (by decide)), gf_rf, (show rl_h 2 (FI51 136) (FL 137) (FI51 138) from rl53), (show rl_h 32 (FI51 130) (FL 131) (FI51 134) from rl54), (show rl_b (FI51 139) (FI51 140) (FI51 141) from rl55)⟩
end
