def nX12_meantLocation : Nat := 0xb19602b5042a9302b51c2ab104009a1bb6ffa79002b560049002b42a2a3e9d02b62c102a3d60041c9002b560049002b42a2a4f68882f9002b42a7500b42a08101cac00b42a1600991b9002b560049002b42a2aa002b61c1b2a4c00991d3e049002b560049002b42a2a3d03b1a002b6031b2a0a009a9d02b67b102a
theorem bX12_meantLocation : cX12_meantLocation.data.toList.map UInt8.toNat = x_un nX12_meantLocation 123 := by decide +kernel
def iX12_meantLocation : List (Nat × Jvm.ClassFile.Instr × Nat) := [(0, .aload_n 0, 1), (1, .bipush 123, 2), (3, .invokevirtual 669, 3), (6, .ifCond .ne 10, 3), (9, .aload_n 0, 1), (10, .iload_n 1, 1), (11, .iconst 0, 1), (12, .invokevirtual 672, 3), (15, .return_, 1), (16, .iconst 0, 1), (17, .istore_n 2, 1), (18, .aload_n 0, 1), (19, .aload_n 0, 1), (20, .getfield 656, 3), (23, .iconst 1, 1), (24, .iadd, 1), (25, .putfield 656, 3), (28, .iconst 1, 1), (29, .istore_n 3, 1), (30, .iload_n 3, 1), (31, .ifCond .eq 76, 3), (34, .aload_n 0, 1), (35, .iload_n 1, 1), (36, .iload_n 2, 1), (37, .invokevirtual 672, 3), (40, .aload_n 0, 1), (41, .aload_n 0, 1), (42, .getfield 656, 3), (45, .iconst 1, 1), (46, .iadd, 1), (47, .putfield 656, 3), (50, .iload_n 1, 1), (51, .ifCond .eq 22, 3), (54, .aload_n 0, 1), (55, .getfield 172, 3), (58, .iload_n 2, 1), (59, .bipush 8, 2), (61, .aload_n 0, 1), (62, .getfield 117, 3), (65, .aload_n 0, 1), (66, .getfield 656, 3), (69, .laload, 1), (70, .l2i, 1), (71, .imul, 1), (72, .iastore, 1), (73, .aload_n 0, 1), (74, .aload_n 0, 1), (75, .getfield 656, 3), (78, .iconst 1, 1), (79, .iadd, 1), (80, .putfield 656, 3), (83, .iload_n 2, 1), (84, .iconst 1, 1), (85, .iadd, 1), (86, .istore_n 2, 1), (87, .aload_n 0, 1), (88, .bipush 44, 2), (90, .invokevirtual 669, 3), (93, .istore_n 3, 1), (94, .aload_n 0, 1), (95, .aload_n 0, 1), (96, .getfield 656, 3), (99, .iconst 1, 1), (100, .iadd, 1), (101, .putfield 656, 3), (104, .goto (-74), 3), (107, .iload_n 1, 1), (108, .ifCond .ne 4, 3), (111, .return_, 1), (112, .aload_n 0, 1), (113, .iload_n 2, 1), (114, .putfield 659, 3), (117, .aload_n 0, 1), (118, .iconst 1, 1), (119, .putfield 662, 3), (122, .return_, 1)]
theorem dX12_meantLocation : x_il nX12_meantLocation 123 iX12_meantLocation = true := by decide +kernel
theorem aX12_meantLocation (k : Nat) {pc : Nat} {i : Jvm.ClassFile.Instr} {len : Nat} (hk : iX12_meantLocation[k]? = some (pc, i, len)) : x_at xMM 256 pc i len yX12_meantLocation 4 none := ⟨cX12_meantLocation, rfl, x_il_ok bX12_meantLocation dX12_meantLocation k hk⟩
set_option maxHeartbeats 4000000 in
set_option maxRecDepth 100000 in
theorem n_meantLocation {base d n sl : Nat} {SH : Nat → Nat × Nat} {FI : Nat → Nat → Int32} {FL : Nat → Nat → Int64} {FR : Nat → Nat → Option Nat} (hS : h_S n SH) (hF : h_FR FR) (hI : g_I FI) (a1 : Int32) (q : Nat) (g0 : 0 ≤ (a1).toInt ∧ (a1).toInt ≤ 1) (gg0 : gr_loc (kf (FI 152)) (wf (FL 153)) (FI 121 92).toInt.toNat q) (gg1 : q ≤ 1000) (rel_kept : rl_t (FI 152) (FL 153)) (rel_hold : rl_h 2 (FI 136) (FL 137) (FI 138)) (rel_piece : rl_h 32 (FI 130) (FL 131) (FI 134)) (rel_back : rl_b (FI 139) (FI 140) (FI 141)) (rel_mean : rl_m (FI 169) (FL 170)) : hw base (d + 9) none 256 0 [(0, .ref (base + 121)), (1, .int (a1))] [] (n, sl, SH, FI, FL, FR) (h_V (fun s => ∃ FI' FL', s = (n, sl, SH, FI', FL', FR) ∧ g_I FI' ∧ g_fr n SH [(121, 29), (121, 30), (121, 31), (121, 32), (121, 33), (121, 34), (121, 37), (121, 38), (121, 90), (121, 91), (121, 92), (121, 93), (121, 94), (121, 95), (121, 101), (121, 104)] [128, 129, 130, 132, 133, 134, 135, 136, 138, 139, 140, 141, 142, 165, 166, 169, 171, 172, 174, 175] [] FI FI' ∧ g_fr n SH [(121, 35), (121, 36), (121, 39)] [127, 131, 137, 170, 173] [] FL FL' ∧ ((FI' 121 92).toInt.toNat = q) ∧ (rl_h 2 (FI' 136) (FL' 137) (FI' 138)) ∧ (rl_h 32 (FI' 130) (FL' 131) (FI' 134)) ∧ (rl_b (FI' 139) (FI' 140) (FI' 141)) ∧ (rl_m (FI' 169) (FL' 170)))) := by
  have rg_a1 := i_rng a1
  obtain ⟨x1, h2⟩ : ∃ y, FI 121 92 = y := ⟨_, rfl⟩
  have h2l := congrArg Int32.toInt h2
  have b3 := gI_121_92 hI; rw [h2] at b3
  have hpq0 := gr_loc_lt gg0
  have e4 : 0 ≤ (x1).toInt ∧ (x1).toInt ≤ 999 := by omega
  refine hw_aloadn (aX12_meantLocation 0 rfl) rfl ?_
  refine hw_bp (v := (123 : Int32)) (aX12_meantLocation 1 rfl) (by decide) ?_
  refine hw_callV (Bs := [.int ((123 : Int32))]) (rest := []) (aX12_meantLocation 2 rfl) wc_RX12_669 (by decide) rfl wi_yX12_keepsSign wv_yX12_keepsSign (c121 hS) (s121 hS) rfl rfl rfl (Nat.le_of_ble_eq_true rfl) (Nat.le_of_ble_eq_true rfl) (n_keepsSign (d := d + 8) hS hF hI ((123 : Int32)) ) (fun v5 sv6 p7 => ?_)
  obtain ⟨r8, rfl, rfl, t10, u11⟩ := p7
  show hw base _ _ _ _ _ [.int (r8)] _ _
  refine hw_ifne (tgt := 16) (aX12_meantLocation 3 rfl) (by decide) rfl (fun cd12 => ?_) (fun cd12 => ?_)
  · have hcu := u11.mp (by omega); rw [show ((123 : Int32)).toInt = (123 : Int) from by decide] at hcu
    obtain ⟨kk, hk8, hpts⟩ : ∃ n, n ≤ 8 ∧ gr_pts (kf (FI 152)) (wf (FL 153)) n ((FI 121 92).toInt.toNat + 1) q := by rcases gg0 with ⟨h, -⟩ | ⟨-, h⟩; { exact absurd hcu h }; { exact h }
    refine hw_ic (v := (0 : Int32)) (aX12_meantLocation 9 rfl) (by decide) ?_
    refine xw_istoren (L2 := [(2, .int ((0 : Int32))), (0, .ref (base + 121)), (1, .int (a1))]) (aX12_meantLocation 10 rfl) (by decide) rfl ?_
    refine hw_aloadn (aX12_meantLocation 11 rfl) rfl ?_
    refine hw_aloadn (aX12_meantLocation 12 rfl) rfl ?_
    refine hw_get (v := .int (x1)) (aX12_meantLocation 13 rfl) wf_RX12_656 (c121 hS) (s121 hS) (by decide) (congrArg Value.int (show FI 121 92 = x1 from h2)) ?_
    refine hw_ic (v := (1 : Int32)) (aX12_meantLocation 14 rfl) (by decide) ?_
    refine xw_iadd (aX12_meantLocation 15 rfl) ?_
    refine hw_tie (A := ((x1).toInt) + (1)) (i_add rfl (by decide : (1 : Int32).toInt = 1) (by omega) (by omega)) (fun x13 e14 => ?_)
    refine hv_puti (aX12_meantLocation 16 rfl) wf_RX12_656 (c121 hS) (s121 hS) (by decide) rfl rfl (fun FI15 u16 => ?_)
    have rl17 : rl_t (FI15 152) (FL 153) := by rw [show FI15 152 = FI 152 from up_row u16 (by decide) rfl]; exact rel_kept
    have rl18 : rl_h 2 (FI15 136) (FL 137) (FI15 138) := by rw [show FI15 136 = FI 136 from up_row u16 (by decide) rfl, show FI15 138 = FI 138 from up_row u16 (by decide) rfl]; exact rel_hold
    have rl19 : rl_h 32 (FI15 130) (FL 131) (FI15 134) := by rw [show FI15 130 = FI 130 from up_row u16 (by decide) rfl, show FI15 134 = FI 134 from up_row u16 (by decide) rfl]; exact rel_piece
    have rl20 : rl_b (FI15 139) (FI15 140) (FI15 141) := by rw [show FI15 139 = FI 139 from up_row u16 (by decide) rfl, show FI15 140 = FI 140 from up_row u16 (by decide) rfl, show FI15 141 = FI 141 from up_row u16 (by decide) rfl]; exact rel_back
    have rl21 : rl_m (FI15 169) (FL 170) := by rw [show FI15 169 = FI 169 from up_row u16 (by decide) rfl]; exact rel_mean
    have hI22 : g_I FI15 := gU_121_92 hI u16 (by have := (e14 : (x13).toInt = ((x1).toInt) + (1)); omega) (by have := (e14 : (x13).toInt = ((x1).toInt) + (1)); omega)
    refine hw_ic (v := (1 : Int32)) (aX12_meantLocation 17 rfl) (by decide) ?_
    refine xw_istoren (L2 := [(3, .int ((1 : Int32))), (2, .int ((0 : Int32))), (0, .ref (base + 121)), (1, .int (a1))]) (aX12_meantLocation 18 rfl) (by decide) rfl ?_
    have lp38 : ∀ (m : Nat) (y3 : Int32) (y2 : Int32) (FIv23 : Nat → Nat → Int32) (FLv24 : Nat → Nat → Int64), (g_fr n SH [(121, 29), (121, 30), (121, 31), (121, 32), (121, 33), (121, 34), (121, 37), (121, 38), (121, 90), (121, 91), (121, 92), (121, 93), (121, 94), (121, 95), (121, 101), (121, 104)] [128, 129, 130, 132, 133, 134, 135, 136, 138, 139, 140, 141, 142, 165, 166, 169, 171, 172, 174, 175] [] FI FIv23) → (g_fr n SH [(121, 35), (121, 36), (121, 39)] [127, 131, 137, 170, 173] [] FL FLv24) → (g_I FIv23) → (rl_t (FIv23 152) (FLv24 153)) → (rl_h 2 (FIv23 136) (FLv24 137) (FIv23 138)) → (rl_h 32 (FIv23 130) (FLv24 131) (FIv23 134)) → (rl_b (FIv23 139) (FIv23 140) (FIv23 141)) → (rl_m (FIv23 169) (FLv24 170)) → (0 ≤ (y2).toInt ∧ (y2).toInt ≤ 8) → (0 ≤ (y3).toInt ∧ (y3).toInt ≤ 1) → (0 ≤ (FIv23 121 92).toInt ∧ (FIv23 121 92).toInt ≤ 1000) → (gr_at (kf (FI 152)) (wf (FL 153)) q ((FIv23 121 92).toInt).toNat (y2).toInt (y3).toInt) → (FIv23 152 = FI 152) → (FLv24 153 = FL 153) → 2 * (1001 - (FIv23 121 92).toInt) + (y3).toInt < m → hw base (d + 9) none 256 30 [(3, .int (y3)), (2, .int (y2)), (0, .ref (base + 121)), (1, .int (a1))] [] (n, sl, SH, FIv23, FLv24, FR) (h_V (fun s => ∃ FI' FL', s = (n, sl, SH, FI', FL', FR) ∧ g_I FI' ∧ g_fr n SH [(121, 29), (121, 30), (121, 31), (121, 32), (121, 33), (121, 34), (121, 37), (121, 38), (121, 90), (121, 91), (121, 92), (121, 93), (121, 94), (121, 95), (121, 101), (121, 104)] [128, 129, 130, 132, 133, 134, 135, 136, 138, 139, 140, 141, 142, 165, 166, 169, 171, 172, 174, 175] [] FI FI' ∧ g_fr n SH [(121, 35), (121, 36), (121, 39)] [127, 131, 137, 170, 173] [] FL FL' ∧ ((FI' 121 92).toInt.toNat = q) ∧ (rl_h 2 (FI' 136) (FL' 137) (FI' 138)) ∧ (rl_h 32 (FI' 130) (FL' 131) (FI' 134)) ∧ (rl_b (FI' 139) (FI' 140) (FI' 141)) ∧ (rl_m (FI' 169) (FL' 170)))) := by
      intro m
      induction m with
      | zero => intro y3 y2 FIv23 FLv24 fr25 fr26 hI27 rl28 rl29 rl30 rl31 rl32 iv33 iv34 iv35 xi30_0 rw36 rw37 hm; omega
      | succ m ih =>
        intro y3 y2 FIv23 FLv24 fr25 fr26 hI27 rl28 rl29 rl30 rl31 rl32 iv33 iv34 iv35 xi30_0 rw36 rw37 hm
        have rg_y3 := i_rng y3
        have rg_y2 := i_rng y2
        obtain ⟨x39, h40⟩ : ∃ y, FIv23 121 92 = y := ⟨_, rfl⟩
        have h40l := congrArg Int32.toInt h40
        have b41 := gI_121_92 hI27; rw [h40] at b41
        refine xw_iloadn (aX12_meantLocation 19 rfl) rfl ?_
        refine hw_ifeq (tgt := 107) (aX12_meantLocation 20 rfl) (by decide) rfl (fun cd42 => ?_) (fun cd42 => ?_)
        · refine xw_iloadn (aX12_meantLocation 66 rfl) rfl ?_
          refine hw_ifne (tgt := 112) (aX12_meantLocation 67 rfl) (by decide) rfl (fun cd43 => ?_) (fun cd43 => ?_)
          · have hx8 := xi30_0; rw [show (y3).toInt = 0 by omega] at hx8; have hx9 := gr_at_e hx8
            refine hw_aloadn (aX12_meantLocation 69 rfl) rfl ?_
            refine xw_iloadn (aX12_meantLocation 70 rfl) rfl ?_
            refine hv_puti (aX12_meantLocation 71 rfl) wf_RX12_659 (c121 hS) (s121 hS) (by decide) rfl rfl (fun FI44 u45 => ?_)
            have rl46 : rl_t (FI44 152) (FLv24 153) := by rw [show FI44 152 = FIv23 152 from up_row u45 (by decide) rfl]; exact rl28
            have rl47 : rl_h 2 (FI44 136) (FLv24 137) (FI44 138) := by rw [show FI44 136 = FIv23 136 from up_row u45 (by decide) rfl, show FI44 138 = FIv23 138 from up_row u45 (by decide) rfl]; exact rl29
            have rl48 : rl_h 32 (FI44 130) (FLv24 131) (FI44 134) := by rw [show FI44 130 = FIv23 130 from up_row u45 (by decide) rfl, show FI44 134 = FIv23 134 from up_row u45 (by decide) rfl]; exact rl30
            have rl49 : rl_b (FI44 139) (FI44 140) (FI44 141) := by rw [show FI44 139 = FIv23 139 from up_row u45 (by decide) rfl, show FI44 140 = FIv23 140 from up_row u45 (by decide) rfl, show FI44 141 = FIv23 141 from up_row u45 (by decide) rfl]; exact rl31
            have rl50 : rl_m (FI44 169) (FLv24 170) := by rw [show FI44 169 = FIv23 169 from up_row u45 (by decide) rfl]; exact rl32
            have hI51 : g_I FI44 := gU_121_94 hI27 u45 (by omega) (by omega)
            refine hw_aloadn (aX12_meantLocation 72 rfl) rfl ?_
            refine hw_ic (v := (1 : Int32)) (aX12_meantLocation 73 rfl) (by decide) ?_
            refine hv_putz (aX12_meantLocation 74 rfl) wf_RX12_662 (c121 hS) (s121 hS) (by decide) rfl rfl (by decide) (fun FI52 u53 => ?_)
            have rl54 : rl_t (FI52 152) (FLv24 153) := by rw [show FI52 152 = FI44 152 from up_row u53 (by decide) rfl]; exact rl46
            have rl55 : rl_h 2 (FI52 136) (FLv24 137) (FI52 138) := by rw [show FI52 136 = FI44 136 from up_row u53 (by decide) rfl, show FI52 138 = FI44 138 from up_row u53 (by decide) rfl]; exact rl47
            have rl56 : rl_h 32 (FI52 130) (FLv24 131) (FI52 134) := by rw [show FI52 130 = FI44 130 from up_row u53 (by decide) rfl, show FI52 134 = FI44 134 from up_row u53 (by decide) rfl]; exact rl48
            have rl57 : rl_b (FI52 139) (FI52 140) (FI52 141) := by rw [show FI52 139 = FI44 139 from up_row u53 (by decide) rfl, show FI52 140 = FI44 140 from up_row u53 (by decide) rfl, show FI52 141 = FI44 141 from up_row u53 (by decide) rfl]; exact rl49
            have rl58 : rl_m (FI52 169) (FLv24 170) := by rw [show FI52 169 = FI44 169 from up_row u53 (by decide) rfl]; exact rl50
            have hI59 : g_I FI52 := gU_121_95 hI51 u53 (by have := ((by decide : (1 : Int32).toInt = 1) : ((1 : Int32)).toInt = 1); omega) (by have := ((by decide : (1 : Int32).toInt = 1) : ((1 : Int32)).toInt = 1); omega)
            refine xw_vret (aX12_meantLocation 75 rfl) rfl ?_
            exact ⟨rfl, FI52, FLv24, rfl, hI59, (gf_f (gf_f fr25 u45 (by decide)) u53 (by decide)), fr26, (by have := congrArg Int32.toInt (show FI52 121 92 = x39 from (up_k u53 (by decide) ((up_k u45 (by decide) (h40))))); have hx := xi30_0; rw [show (y3).toInt = 0 by omega] at hx; have := gr_at_e hx; omega), (show rl_h 2 (FI52 136) (FLv24 137) (FI52 138) from rl55), (show rl_h 32 (FI52 130) (FLv24 131) (FI52 134) from rl56), (show rl_b (FI52 139) (FI52 140) (FI52 141) from rl57), (show rl_m (FI52 169) (FLv24 170) from rl58)⟩
          · refine xw_vret (aX12_meantLocation 68 rfl) rfl ?_
            exact ⟨rfl, FIv23, FLv24, rfl, hI27, fr25, fr26, (by have := congrArg Int32.toInt (show FIv23 121 92 = x39 from h40); have hx := xi30_0; rw [show (y3).toInt = 0 by omega] at hx; have := gr_at_e hx; omega), (show rl_h 2 (FIv23 136) (FLv24 137) (FIv23 138) from rl29), (show rl_h 32 (FIv23 130) (FLv24 131) (FIv23 134) from rl30), (show rl_b (FIv23 139) (FIv23 140) (FIv23 141) from rl31), (show rl_m (FIv23 169) (FLv24 170) from rl32)⟩
        · have hx := xi30_0; rw [show (y3).toInt = 1 by omega] at hx; obtain ⟨hn0, hn7, e, hgp, he3, hnx⟩ := gr_at_s hx; have hltp := gr_pl_lt hgp
          refine hw_aloadn (aX12_meantLocation 21 rfl) rfl ?_
          refine xw_iloadn (aX12_meantLocation 22 rfl) rfl ?_
          refine xw_iloadn (aX12_meantLocation 23 rfl) rfl ?_
          refine hw_callV (Bs := [.int (a1), .int (y2)]) (rest := []) (aX12_meantLocation 24 rfl) wc_RX12_672 (by decide) rfl wi_yX12_meantPlace wv_yX12_meantPlace (c121 hS) (s121 hS) rfl rfl rfl (Nat.le_of_ble_eq_true rfl) (Nat.le_of_ble_eq_true rfl) (n_meantPlace (d := d) hS hF hI27 (a1) (y2) (e) (by omega) (by omega) (by rw [show FIv23 152 = FI 152 from rw36, show FLv24 153 = FL 153 from rw37]; exact hgp) (by omega) (show rl_t (FIv23 152) (FLv24 153) from rl28) (show rl_h 2 (FIv23 136) (FLv24 137) (FIv23 138) from rl29) (show rl_h 32 (FIv23 130) (FLv24 131) (FIv23 134) from rl30) (show rl_b (FIv23 139) (FIv23 140) (FIv23 141) from rl31) (show rl_m (FIv23 169) (FLv24 170) from rl32)) (fun v60 sv61 p62 => ?_)
          obtain ⟨rfl, FI64, FL65, rfl, hI66, f67, f68, u69, rl70, rl71, rl72, rl73⟩ := p62
          have rl74 : rl_t (FI64 152) (FL65 153) := by rw [show FI64 152 = FIv23 152 from gf_row f67 (c152 hS) (s152 hS) rfl rfl, show FL65 153 = FLv24 153 from gf_row f68 (c153 hS) (s153 hS) rfl rfl]; exact rl28
          show hw base _ _ _ _ _ [] _ _
          obtain ⟨x75, h76⟩ : ∃ y, FI64 121 92 = y := ⟨_, rfl⟩
          have h76l := congrArg Int32.toInt h76
          have b77 := gI_121_92 hI66; rw [h76] at b77
          have hq9 := u69; have := congrArg Int32.toInt (show FI64 121 92 = x75 from h76)
          have := (x75).toInt; have h92n := gI_121_92 hI66; rw [show FI64 121 92 = x75 from h76] at h92n
          refine hw_aloadn (aX12_meantLocation 25 rfl) rfl ?_
          refine hw_aloadn (aX12_meantLocation 26 rfl) rfl ?_
          refine hw_get (v := .int (x75)) (aX12_meantLocation 27 rfl) wf_RX12_656 (c121 hS) (s121 hS) (by decide) (congrArg Value.int (show FI64 121 92 = x75 from h76)) ?_
          refine hw_ic (v := (1 : Int32)) (aX12_meantLocation 28 rfl) (by decide) ?_
          refine xw_iadd (aX12_meantLocation 29 rfl) ?_
          refine hw_tie (A := ((x75).toInt) + (1)) (i_add rfl (by decide : (1 : Int32).toInt = 1) (by omega) (by omega)) (fun x78 e79 => ?_)
          refine hv_puti (aX12_meantLocation 30 rfl) wf_RX12_656 (c121 hS) (s121 hS) (by decide) rfl rfl (fun FI80 u81 => ?_)
          have rl82 : rl_t (FI80 152) (FL65 153) := by rw [show FI80 152 = FI64 152 from up_row u81 (by decide) rfl]; exact rl74
          have rl83 : rl_h 2 (FI80 136) (FL65 137) (FI80 138) := by rw [show FI80 136 = FI64 136 from up_row u81 (by decide) rfl, show FI80 138 = FI64 138 from up_row u81 (by decide) rfl]; exact rl70
          have rl84 : rl_h 32 (FI80 130) (FL65 131) (FI80 134) := by rw [show FI80 130 = FI64 130 from up_row u81 (by decide) rfl, show FI80 134 = FI64 134 from up_row u81 (by decide) rfl]; exact rl71
          have rl85 : rl_b (FI80 139) (FI80 140) (FI80 141) := by rw [show FI80 139 = FI64 139 from up_row u81 (by decide) rfl, show FI80 140 = FI64 140 from up_row u81 (by decide) rfl, show FI80 141 = FI64 141 from up_row u81 (by decide) rfl]; exact rl72
          have rl86 : rl_m (FI80 169) (FL65 170) := by rw [show FI80 169 = FI64 169 from up_row u81 (by decide) rfl]; exact rl73
          have hI87 : g_I FI80 := gU_121_92 hI66 u81 (by have := (e79 : (x78).toInt = ((x75).toInt) + (1)); omega) (by have := (e79 : (x78).toInt = ((x75).toInt) + (1)); omega)
          refine xw_iloadn (aX12_meantLocation 31 rfl) rfl ?_
          have j142 : ∀  (FIj103 : Nat → Nat → Int32), (g_fr n SH [(121, 29), (121, 30), (121, 31), (121, 32), (121, 33), (121, 34), (121, 37), (121, 38), (121, 90), (121, 91), (121, 92), (121, 93), (121, 94), (121, 95), (121, 101), (121, 104)] [128, 129, 130, 132, 133, 134, 135, 136, 138, 139, 140, 141, 142, 165, 166, 169, 171, 172, 174, 175] [] FI FIj103) → (g_I FIj103) → (FIj103 121 92 = x78) → (FIj103 152 = FI 152) → (rl_b (FIj103 139) (FIj103 140) (FIj103 141)) → (rl_h 2 (FIj103 136) (FL65 137) (FIj103 138)) → (rl_t (FIj103 152) (FL65 153)) → (rl_m (FIj103 169) (FL65 170)) → (rl_h 32 (FIj103 130) (FL65 131) (FIj103 134)) → hw base (d + 9) none 256 73 [(0, .ref (base + 121)), (1, .int (a1)), (2, .int (y2))] [] (n, sl, SH, FIj103, FL65, FR) (h_V (fun s => ∃ FI' FL', s = (n, sl, SH, FI', FL', FR) ∧ g_I FI' ∧ g_fr n SH [(121, 29), (121, 30), (121, 31), (121, 32), (121, 33), (121, 34), (121, 37), (121, 38), (121, 90), (121, 91), (121, 92), (121, 93), (121, 94), (121, 95), (121, 101), (121, 104)] [128, 129, 130, 132, 133, 134, 135, 136, 138, 139, 140, 141, 142, 165, 166, 169, 171, 172, 174, 175] [] FI FI' ∧ g_fr n SH [(121, 35), (121, 36), (121, 39)] [127, 131, 137, 170, 173] [] FL FL' ∧ ((FI' 121 92).toInt.toNat = q) ∧ (rl_h 2 (FI' 136) (FL' 137) (FI' 138)) ∧ (rl_h 32 (FI' 130) (FL' 131) (FI' 134)) ∧ (rl_b (FI' 139) (FI' 140) (FI' 141)) ∧ (rl_m (FI' 169) (FL' 170)))) := by
            intro FIj103 fr104 hI105 kp106 rw107 rl108 rl109 rl110 rl111 rl112
            have := congrArg Int32.toInt kp106
            refine hw_aloadn (aX12_meantLocation 45 rfl) rfl ?_
            refine hw_aloadn (aX12_meantLocation 46 rfl) rfl ?_
            refine hw_get (v := .int (x78)) (aX12_meantLocation 47 rfl) wf_RX12_656 (c121 hS) (s121 hS) (by decide) (congrArg Value.int (show FIj103 121 92 = x78 from kp106)) ?_
            refine hw_ic (v := (1 : Int32)) (aX12_meantLocation 48 rfl) (by decide) ?_
            refine xw_iadd (aX12_meantLocation 49 rfl) ?_
            refine hw_tie (A := (((x75).toInt) + (1)) + (1)) (i_add e79 (by decide : (1 : Int32).toInt = 1) (by omega) (by omega)) (fun x143 e144 => ?_)
            refine hv_puti (aX12_meantLocation 50 rfl) wf_RX12_656 (c121 hS) (s121 hS) (by decide) rfl rfl (fun FI145 u146 => ?_)
            have rl147 : rl_b (FI145 139) (FI145 140) (FI145 141) := by rw [show FI145 139 = FIj103 139 from up_row u146 (by decide) rfl, show FI145 140 = FIj103 140 from up_row u146 (by decide) rfl, show FI145 141 = FIj103 141 from up_row u146 (by decide) rfl]; exact rl108
            have rl148 : rl_h 2 (FI145 136) (FL65 137) (FI145 138) := by rw [show FI145 136 = FIj103 136 from up_row u146 (by decide) rfl, show FI145 138 = FIj103 138 from up_row u146 (by decide) rfl]; exact rl109
            have rl149 : rl_t (FI145 152) (FL65 153) := by rw [show FI145 152 = FIj103 152 from up_row u146 (by decide) rfl]; exact rl110
            have rl150 : rl_m (FI145 169) (FL65 170) := by rw [show FI145 169 = FIj103 169 from up_row u146 (by decide) rfl]; exact rl111
            have rl151 : rl_h 32 (FI145 130) (FL65 131) (FI145 134) := by rw [show FI145 130 = FIj103 130 from up_row u146 (by decide) rfl, show FI145 134 = FIj103 134 from up_row u146 (by decide) rfl]; exact rl112
            have hI152 : g_I FI145 := gU_121_92 hI105 u146 (by have := (e144 : (x143).toInt = (((x75).toInt) + (1)) + (1)); omega) (by have := (e144 : (x143).toInt = (((x75).toInt) + (1)) + (1)); omega)
            refine xw_iloadn (aX12_meantLocation 51 rfl) rfl ?_
            refine hw_ic (v := (1 : Int32)) (aX12_meantLocation 52 rfl) (by decide) ?_
            refine xw_iadd (aX12_meantLocation 53 rfl) ?_
            refine hw_tie (A := ((y2).toInt) + (1)) (i_add rfl (by decide : (1 : Int32).toInt = 1) (by omega) (by omega)) (fun x153 e154 => ?_)
            refine xw_istoren (L2 := [(2, .int (x153)), (0, .ref (base + 121)), (1, .int (a1))]) (aX12_meantLocation 54 rfl) (by decide) rfl ?_
            refine hw_aloadn (aX12_meantLocation 55 rfl) rfl ?_
            refine hw_bp (v := (44 : Int32)) (aX12_meantLocation 56 rfl) (by decide) ?_
            refine hw_callV (Bs := [.int ((44 : Int32))]) (rest := []) (aX12_meantLocation 57 rfl) wc_RX12_669 (by decide) rfl wi_yX12_keepsSign wv_yX12_keepsSign (c121 hS) (s121 hS) rfl rfl rfl (Nat.le_of_ble_eq_true rfl) (Nat.le_of_ble_eq_true rfl) (n_keepsSign (d := d + 8) hS hF hI152 ((44 : Int32)) ) (fun v155 sv156 p157 => ?_)
            obtain ⟨r158, rfl, rfl, t160, u161⟩ := p157
            show hw base _ _ _ _ _ [.int (r158)] _ _
            have hcm := u161; have := congrArg Int32.toInt (show FI145 121 92 = x143 from up_eq u146)
            rw [show ((44 : Int32)).toInt = (44 : Int) from by decide, show FI145 152 = FI 152 from (up_row u146 (by decide) (rw107)), show FL65 153 = FL 153 from (gf_row f68 (c153 hS) (s153 hS) rfl (rw37)), show (FI145 121 92).toInt.toNat = e + 2 by omega] at hcm
            refine xw_istoren (L2 := [(3, .int (r158)), (2, .int (x153)), (0, .ref (base + 121)), (1, .int (a1))]) (aX12_meantLocation 58 rfl) (by decide) rfl ?_
            refine hw_aloadn (aX12_meantLocation 59 rfl) rfl ?_
            refine hw_aloadn (aX12_meantLocation 60 rfl) rfl ?_
            refine hw_get (v := .int (x143)) (aX12_meantLocation 61 rfl) wf_RX12_656 (c121 hS) (s121 hS) (by decide) (congrArg Value.int (show FI145 121 92 = x143 from up_eq u146)) ?_
            refine hw_ic (v := (1 : Int32)) (aX12_meantLocation 62 rfl) (by decide) ?_
            refine xw_iadd (aX12_meantLocation 63 rfl) ?_
            refine hw_tie (A := ((((x75).toInt) + (1)) + (1)) + (1)) (i_add e144 (by decide : (1 : Int32).toInt = 1) (by omega) (by omega)) (fun x162 e163 => ?_)
            refine hv_puti (aX12_meantLocation 64 rfl) wf_RX12_656 (c121 hS) (s121 hS) (by decide) rfl rfl (fun FI164 u165 => ?_)
            have rl166 : rl_b (FI164 139) (FI164 140) (FI164 141) := by rw [show FI164 139 = FI145 139 from up_row u165 (by decide) rfl, show FI164 140 = FI145 140 from up_row u165 (by decide) rfl, show FI164 141 = FI145 141 from up_row u165 (by decide) rfl]; exact rl147
            have rl167 : rl_h 2 (FI164 136) (FL65 137) (FI164 138) := by rw [show FI164 136 = FI145 136 from up_row u165 (by decide) rfl, show FI164 138 = FI145 138 from up_row u165 (by decide) rfl]; exact rl148
            have rl168 : rl_t (FI164 152) (FL65 153) := by rw [show FI164 152 = FI145 152 from up_row u165 (by decide) rfl]; exact rl149
            have rl169 : rl_m (FI164 169) (FL65 170) := by rw [show FI164 169 = FI145 169 from up_row u165 (by decide) rfl]; exact rl150
            have rl170 : rl_h 32 (FI164 130) (FL65 131) (FI164 134) := by rw [show FI164 130 = FI145 130 from up_row u165 (by decide) rfl, show FI164 134 = FI145 134 from up_row u165 (by decide) rfl]; exact rl151
            have hI171 : g_I FI164 := gU_121_92 hI152 u165 (by have := (e163 : (x162).toInt = ((((x75).toInt) + (1)) + (1)) + (1)); omega) (by have := (e163 : (x162).toInt = ((((x75).toInt) + (1)) + (1)) + (1)); omega)
            refine xw_goto (tgt := 30) (aX12_meantLocation 65 rfl) (by decide) ?_
            exact hw_L (ih (r158) (x153) FI164 FL65 (gf_f (gf_f fr104 u146 (by decide)) u165 (by decide)) (gf_tr ex_rf fr26 f68 rfl rfl rfl) hI171 (show rl_t (FI164 152) (FL65 153) from rl168) (show rl_h 2 (FI164 136) (FL65 137) (FI164 138) from rl167) (show rl_h 32 (FI164 130) (FL65 131) (FI164 134) from rl170) (show rl_b (FI164 139) (FI164 140) (FI164 141) from rl166) (show rl_m (FI164 169) (FL65 170) from rl169) (by have := (e154 : (x153).toInt = ((y2).toInt) + (1)); omega) (by have := (e154 : (x153).toInt = ((y2).toInt) + (1)); omega) (by have := (e154 : (x153).toInt = ((y2).toInt) + (1)); have := congrArg Int32.toInt (show FI164 121 92 = x162 from up_eq u165); have := (e163 : (x162).toInt = ((((x75).toInt) + (1)) + (1)) + (1)); omega) (show gr_at (kf (FI 152)) (wf (FL 153)) q ((FI164 121 92).toInt).toNat (x153).toInt (r158).toInt from (by have := (e154 : (x153).toInt = ((y2).toInt) + (1)); have := congrArg Int32.toInt (show FI164 121 92 = x162 from up_eq u165); have := (e163 : (x162).toInt = ((((x75).toInt) + (1)) + (1)) + (1)); exact (by rw [show ((FI164 121 92).toInt).toNat = e + 3 by omega, show ((x153).toInt : Int) = (y2).toInt + 1 by omega]; exact hnx _ ⟨by omega, hcm⟩))) (show FI164 152 = FI 152 from (up_row u165 (by decide) ((up_row u146 (by decide) (rw107))))) (show FL65 153 = FL 153 from (gf_row f68 (c153 hS) (s153 hS) rfl (rw37))) (by have := (e154 : (x153).toInt = ((y2).toInt) + (1)); have := congrArg Int32.toInt (show FI164 121 92 = x162 from up_eq u165); have := (e163 : (x162).toInt = ((((x75).toInt) + (1)) + (1)) + (1)); omega)) ⟨rfl, rfl, rfl, rfl, trivial⟩
          refine hw_ifeq (tgt := 73) (aX12_meantLocation 32 rfl) (by decide) rfl (fun cd172 => ?_) (fun cd172 => ?_)
          · exact hw_L (j142 FI80 (gf_f (gf_tr ex_rf fr25 f67 rfl rfl rfl) u81 (by decide)) hI87 (show FI80 121 92 = x78 from up_eq u81) (show FI80 152 = FI 152 from (up_row u81 (by decide) ((gf_row f67 (c152 hS) (s152 hS) rfl (rw36))))) (show rl_b (FI80 139) (FI80 140) (FI80 141) from rl85) (show rl_h 2 (FI80 136) (FL65 137) (FI80 138) from rl83) (show rl_t (FI80 152) (FL65 153) from rl82) (show rl_m (FI80 169) (FL65 170) from rl86) (show rl_h 32 (FI80 130) (FL65 131) (FI80 134) from rl84)) ⟨rfl, rfl, rfl, trivial⟩
          · refine hw_aloadn (aX12_meantLocation 33 rfl) rfl ?_
            refine hw_get (v := .ref (base + 171)) (aX12_meantLocation 34 rfl) wf_RX12_172 (c121 hS) (s121 hS) (by decide) (congrArg (fun r => va_rf (h_rf base r)) (r121_98 hF)) ?_
            refine xw_iloadn (aX12_meantLocation 35 rfl) rfl ?_
            refine hw_bp (v := (8 : Int32)) (aX12_meantLocation 36 rfl) (by decide) ?_
            refine hw_aloadn (aX12_meantLocation 37 rfl) rfl ?_
            refine hw_get (v := .ref (base + 153)) (aX12_meantLocation 38 rfl) wf_RX12_117 (c121 hS) (s121 hS) (by decide) (congrArg (fun r => va_rf (h_rf base r)) (r121_66 hF)) ?_
            refine hw_aloadn (aX12_meantLocation 39 rfl) rfl ?_
            refine hw_get (v := .int (x78)) (aX12_meantLocation 40 rfl) wf_RX12_656 (c121 hS) (s121 hS) (by decide) (congrArg Value.int (show FI80 121 92 = x78 from up_eq u81)) ?_
            obtain ⟨x173, h174⟩ : ∃ y, FL65 153 (x78).toNatClampNeg = y := ⟨_, rfl⟩
            have h174l := congrArg Int64.toInt h174
            have := l_rng x173
            refine hw_lald (v := x173) (aX12_meantLocation 41 rfl) (c153 hS) (s153 hS) (h_in e79 (by omega) (by omega)) (show FL65 153 (x78).toNatClampNeg = x173 from h174) ?_
            refine xw_l2i (aX12_meantLocation 42 rfl) ?_
            refine hw_ti (fun x175 => ?_)
            have b176 := i_rng x175
            refine xw_imul (aX12_meantLocation 43 rfl) ?_
            refine hw_ti (fun x177 => ?_)
            have b178 := i_rng x177
            refine hv_iast (k := (y2).toNatClampNeg) (aX12_meantLocation 44 rfl) (c171 hS) (s171 hS) (h_in rfl (by omega) (by omega)) rfl (fun FI179 u180 => ?_)
            have rl181 : rl_t (FI179 152) (FL65 153) := by rw [show FI179 152 = FI80 152 from up_row u180 (by decide) rfl]; exact rl82
            have rl182 : rl_h 2 (FI179 136) (FL65 137) (FI179 138) := by rw [show FI179 136 = FI80 136 from up_row u180 (by decide) rfl, show FI179 138 = FI80 138 from up_row u180 (by decide) rfl]; exact rl83
            have rl183 : rl_h 32 (FI179 130) (FL65 131) (FI179 134) := by rw [show FI179 130 = FI80 130 from up_row u180 (by decide) rfl, show FI179 134 = FI80 134 from up_row u180 (by decide) rfl]; exact rl84
            have rl184 : rl_b (FI179 139) (FI179 140) (FI179 141) := by rw [show FI179 139 = FI80 139 from up_row u180 (by decide) rfl, show FI179 140 = FI80 140 from up_row u180 (by decide) rfl, show FI179 141 = FI80 141 from up_row u180 (by decide) rfl]; exact rl85
            have rl185 : rl_m (FI179 169) (FL65 170) := by rw [show FI179 169 = FI80 169 from up_row u180 (by decide) rfl]; exact rl86
            have hI186 : g_I FI179 := gU_F hI87 u180 rfl
            exact hw_L (j142 FI179 (gf_a (gf_f (gf_tr ex_rf fr25 f67 rfl rfl rfl) u81 (by decide)) u180 (by decide)) hI186 (show FI179 121 92 = x78 from (up_c u180 (by decide) (up_eq u81))) (show FI179 152 = FI 152 from (up_row u180 (by decide) ((up_row u81 (by decide) ((gf_row f67 (c152 hS) (s152 hS) rfl (rw36))))))) (show rl_b (FI179 139) (FI179 140) (FI179 141) from rl184) (show rl_h 2 (FI179 136) (FL65 137) (FI179 138) from rl182) (show rl_t (FI179 152) (FL65 153) from rl181) (show rl_m (FI179 169) (FL65 170) from rl185) (show rl_h 32 (FI179 130) (FL65 131) (FI179 134) from rl183)) ⟨rfl, rfl, rfl, trivial⟩
    exact hw_L (lp38 ((2 * (1001 - (x13).toInt) + 1 : Int).toNat + 1) ((1 : Int32)) ((0 : Int32)) FI15 FL (gf_f gf_rf u16 (by decide)) gf_rf hI22 (show rl_t (FI15 152) (FL 153) from rl17) (show rl_h 2 (FI15 136) (FL 137) (FI15 138) from rl18) (show rl_h 32 (FI15 130) (FL 131) (FI15 134) from rl19) (show rl_b (FI15 139) (FI15 140) (FI15 141) from rl20) (show rl_m (FI15 169) (FL 170) from rl21) (by have := ((by decide : (1 : Int32).toInt = 1) : ((1 : Int32)).toInt = 1); have := ((by decide : (0 : Int32).toInt = 0) : ((0 : Int32)).toInt = 0); omega) (by have := ((by decide : (1 : Int32).toInt = 1) : ((1 : Int32)).toInt = 1); have := ((by decide : (0 : Int32).toInt = 0) : ((0 : Int32)).toInt = 0); omega) (by have := ((by decide : (1 : Int32).toInt = 1) : ((1 : Int32)).toInt = 1); have := ((by decide : (0 : Int32).toInt = 0) : ((0 : Int32)).toInt = 0); have := congrArg Int32.toInt (show FI15 121 92 = x13 from up_eq u16); have := (e14 : (x13).toInt = ((x1).toInt) + (1)); omega) (show gr_at (kf (FI 152)) (wf (FL 153)) q ((FI15 121 92).toInt).toNat 0 1 from (by have := ((by decide : (1 : Int32).toInt = 1) : ((1 : Int32)).toInt = 1); have := ((by decide : (0 : Int32).toInt = 0) : ((0 : Int32)).toInt = 0); have := congrArg Int32.toInt (show FI15 121 92 = x13 from up_eq u16); have := (e14 : (x13).toInt = ((x1).toInt) + (1)); exact (by rw [show ((FI15 121 92).toInt).toNat = (FI 121 92).toInt.toNat + 1 by omega, show (0 : Int) = 0 by omega, show (1 : Int) = 1 by omega]; exact gr_at_0 hpts hk8))) (show FI15 152 = FI 152 from (up_row u16 (by decide) (rfl))) (show FL 153 = FL 153 from rfl) (by have := ((by decide : (1 : Int32).toInt = 1) : ((1 : Int32)).toInt = 1); have := ((by decide : (0 : Int32).toInt = 0) : ((0 : Int32)).toInt = 0); have := congrArg Int32.toInt (show FI15 121 92 = x13 from up_eq u16); have := (e14 : (x13).toInt = ((x1).toInt) + (1)); omega)) ⟨rfl, rfl, rfl, rfl, trivial⟩
  · have hncu : ¬ gr_cu (kf (FI 152)) (wf (FL 153)) (FI 121 92).toInt.toNat := fun h => by have := u11.mpr (by rw [show ((123 : Int32)).toInt = (123 : Int) from by decide]; exact h); omega
    have hgp : gr_pl (kf (FI 152)) (wf (FL 153)) (FI 121 92).toInt.toNat q := by rcases gg0 with ⟨-, h⟩ | ⟨h, -⟩; { exact h }; { exact absurd h hncu }
    refine hw_aloadn (aX12_meantLocation 4 rfl) rfl ?_
    refine xw_iloadn (aX12_meantLocation 5 rfl) rfl ?_
    refine hw_ic (v := (0 : Int32)) (aX12_meantLocation 6 rfl) (by decide) ?_
    refine hw_callV (Bs := [.int (a1), .int ((0 : Int32))]) (rest := []) (aX12_meantLocation 7 rfl) wc_RX12_672 (by decide) rfl wi_yX12_meantPlace wv_yX12_meantPlace (c121 hS) (s121 hS) rfl rfl rfl (Nat.le_of_ble_eq_true rfl) (Nat.le_of_ble_eq_true rfl) (n_meantPlace (d := d) hS hF hI (a1) ((0 : Int32)) (q) (by omega) (by have := ((by decide : (0 : Int32).toInt = 0) : ((0 : Int32)).toInt = 0); have := ((by decide : (0 : Int32).toInt = 0) : ((0 : Int32)).toInt = 0); omega) (hgp) (gg1) (show rl_t (FI 152) (FL 153) from rel_kept) (show rl_h 2 (FI 136) (FL 137) (FI 138) from rel_hold) (show rl_h 32 (FI 130) (FL 131) (FI 134) from rel_piece) (show rl_b (FI 139) (FI 140) (FI 141) from rel_back) (show rl_m (FI 169) (FL 170) from rel_mean)) (fun v187 sv188 p189 => ?_)
    obtain ⟨rfl, FI191, FL192, rfl, hI193, f194, f195, u196, rl197, rl198, rl199, rl200⟩ := p189
    have rl201 : rl_t (FI191 152) (FL192 153) := by rw [show FI191 152 = FI 152 from gf_row f194 (c152 hS) (s152 hS) rfl rfl, show FL192 153 = FL 153 from gf_row f195 (c153 hS) (s153 hS) rfl rfl]; exact rel_kept
    show hw base _ _ _ _ _ [] _ _
    obtain ⟨x202, h203⟩ : ∃ y, FI191 121 92 = y := ⟨_, rfl⟩
    have h203l := congrArg Int32.toInt h203
    have b204 := gI_121_92 hI193; rw [h203] at b204
    have hq9 := u196; have := congrArg Int32.toInt (show FI191 121 92 = x202 from h203)
    have := (x202).toInt; have h92n := gI_121_92 hI193; rw [show FI191 121 92 = x202 from h203] at h92n
    refine xw_vret (aX12_meantLocation 8 rfl) rfl ?_
    exact ⟨rfl, FI191, FL192, rfl, hI193, (gf_tr ex_rf gf_rf f194 rfl rfl rfl), (gf_tr ex_rf gf_rf f195 rfl rfl rfl), (by have := congrArg Int32.toInt (show FI191 121 92 = x202 from h203); omega), (show rl_h 2 (FI191 136) (FL192 137) (FI191 138) from rl197), (show rl_h 32 (FI191 130) (FL192 131) (FI191 134) from rl198), (show rl_b (FI191 139) (FI191 140) (FI191 141) from rl199), (show rl_m (FI191 169) (FL192 170) from rl200)⟩
