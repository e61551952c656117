def nX12_meantLocation : Nat := 0xb19602b5042a9302b51c2ab104009a1bb6ffa79002b560049002b42a2a3e9d02b62c102a3d60041c9002b560049002b42a2a4f68882f9002b42a7500b42a08101cac00b42a1600991b9002b560049002b42a2aa002b61c1b2a4c00991d3e049002b560049002b42a2a3d03b1a002b6031b2a0a009a9d02b67b102a
theorem bX12_meantLocation : cX12_meantLocation.data.toList.map UInt8.toNat = x_un nX12_meantLocation 123 := by decide +kernel
def iX12_meantLocation : List (Nat × Jvm.ClassFile.Instr × Nat) := [(0, .aload_n 0, 1), (1, .bipush 123, 2), (3, .invokevirtual 669, 3), (6, .ifCond .ne 10, 3), (9, .aload_n 0, 1), (10, .iload_n 1, 1), (11, .iconst 0, 1), (12, .invokevirtual 672, 3), (15, .return_, 1), (16, .iconst 0, 1), (17, .istore_n 2, 1), (18, .aload_n 0, 1), (19, .aload_n 0, 1), (20, .getfield 656, 3), (23, .iconst 1, 1), (24, .iadd, 1), (25, .putfield 656, 3), (28, .iconst 1, 1), (29, .istore_n 3, 1), (30, .iload_n 3, 1), (31, .ifCond .eq 76, 3), (34, .aload_n 0, 1), (35, .iload_n 1, 1), (36, .iload_n 2, 1), (37, .invokevirtual 672, 3), (40, .aload_n 0, 1), (41, .aload_n 0, 1), (42, .getfield 656, 3), (45, .iconst 1, 1), (46, .iadd, 1), (47, .putfield 656, 3), (50, .iload_n 1, 1), (51, .ifCond .eq 22, 3), (54, .aload_n 0, 1), (55, .getfield 172, 3), (58, .iload_n 2, 1), (59, .bipush 8, 2), (61, .aload_n 0, 1), (62, .getfield 117, 3), (65, .aload_n 0, 1), (66, .getfield 656, 3), (69, .laload, 1), (70, .l2i, 1), (71, .imul, 1), (72, .iastore, 1), (73, .aload_n 0, 1), (74, .aload_n 0, 1), (75, .getfield 656, 3), (78, .iconst 1, 1), (79, .iadd, 1), (80, .putfield 656, 3), (83, .iload_n 2, 1), (84, .iconst 1, 1), (85, .iadd, 1), (86, .istore_n 2, 1), (87, .aload_n 0, 1), (88, .bipush 44, 2), (90, .invokevirtual 669, 3), (93, .istore_n 3, 1), (94, .aload_n 0, 1), (95, .aload_n 0, 1), (96, .getfield 656, 3), (99, .iconst 1, 1), (100, .iadd, 1), (101, .putfield 656, 3), (104, .goto (-74), 3), (107, .iload_n 1, 1), (108, .ifCond .ne 4, 3), (111, .return_, 1), (112, .aload_n 0, 1), (113, .iload_n 2, 1), (114, .putfield 659, 3), (117, .aload_n 0, 1), (118, .iconst 1, 1), (119, .putfield 662, 3), (122, .return_, 1)]
theorem dX12_meantLocation : x_il nX12_meantLocation 123 iX12_meantLocation = true := by decide +kernel
theorem aX12_meantLocation (k : Nat) {pc : Nat} {i : Jvm.ClassFile.Instr} {len : Nat} (hk : iX12_meantLocation[k]? = some (pc, i, len)) : x_at xMM 256 pc i len yX12_meantLocation 4 none := ⟨cX12_meantLocation, rfl, x_il_ok bX12_meantLocation dX12_meantLocation k hk⟩
set_option maxHeartbeats 4000000 in
set_option maxRecDepth 100000 in
theorem n_meantLocation {zk : xK} {base d n sl : Nat} {SH : Nat → Nat × Nat} {FI : Nat → Nat → Int32} {FL : Nat → Nat → Int64} {FR : Nat → Nat → Option Nat} (hS : h_S n SH) (hF : h_FR FR) (hI : g_I FI) (a1 : Int32) (q : Nat) (g0 : 1 ≤ (FI 121 94).toInt) (g1 : 0 ≤ (a1).toInt ∧ (a1).toInt ≤ 1) (gg0 : gr_loc (kf (FI 152)) (wf (FL 153)) (FI 121 92).toInt.toNat q) (gg1 : q ≤ 1000) (rel_kept : rl_t (FI 152) (FL 153)) (rel_hold : rl_h 2 (FI 136) (FL 137) (FI 138)) (rel_piece : rl_h 32 (FI 130) (FL 131) (FI 134)) (rel_back : rl_b (FI 139) (FI 140) (FI 141)) (rel_mean : rl_m (FI 169) (FL 170)) : hw zk base (d + 9) none 256 0 [(0, .ref (base + 121)), (1, .int (a1))] [] (n, sl, SH, FI, FL, FR) (h_V (fun s => ∃ FI' FL', s = (n, sl, SH, FI', FL', FR) ∧ g_I FI' ∧ g_fr n SH [(121, 29), (121, 30), (121, 31), (121, 32), (121, 33), (121, 34), (121, 37), (121, 38), (121, 90), (121, 91), (121, 92), (121, 93), (121, 94), (121, 95), (121, 101), (121, 104)] [128, 129, 130, 132, 133, 134, 135, 136, 138, 139, 140, 141, 142, 165, 166, 169, 171, 172, 174, 175] [] FI FI' ∧ g_fr n SH [(121, 35), (121, 36), (121, 39)] [127, 131, 137, 170, 173] [] FL FL' ∧ (1 ≤ (FI' 121 94).toInt) ∧ ((FI' 121 92).toInt.toNat = q) ∧ (rl_h 2 (FI' 136) (FL' 137) (FI' 138)) ∧ (rl_h 32 (FI' 130) (FL' 131) (FI' 134)) ∧ (rl_b (FI' 139) (FI' 140) (FI' 141)) ∧ (rl_m (FI' 169) (FL' 170)))) := by
  have rg_a1 := i_rng a1
  obtain ⟨x1, h2⟩ : ∃ y, FI 121 94 = y := ⟨_, rfl⟩
  have h2l := congrArg Int32.toInt h2
  have b3 := gI_121_94 hI; rw [h2] at b3
  obtain ⟨x4, h5⟩ : ∃ y, FI 121 92 = y := ⟨_, rfl⟩
  have h5l := congrArg Int32.toInt h5
  have b6 := gI_121_92 hI; rw [h5] at b6
  have hpq0 := gr_loc_lt gg0
  have e7 : 0 ≤ (x4).toInt ∧ (x4).toInt ≤ 999 := by omega
  refine hw_aloadn (aX12_meantLocation 0 rfl) rfl ?_
  refine hw_bp (v := (123 : Int32)) (aX12_meantLocation 1 rfl) (by decide) ?_
  refine hw_callV (Bs := [.int ((123 : Int32))]) (rest := []) (aX12_meantLocation 2 rfl) wc_RX12_669 (by decide) rfl wi_yX12_keepsSign wv_yX12_keepsSign (c121 hS) (s121 hS) rfl rfl rfl (Nat.le_of_ble_eq_true rfl) (Nat.le_of_ble_eq_true rfl) (n_keepsSign (d := d + 8) hS hF hI ((123 : Int32)) ) (fun v8 sv9 p10 => ?_)
  obtain ⟨r11, rfl, rfl, t13, u14⟩ := p10
  show hw zk base _ _ _ _ _ [.int (r11)] _ _
  refine hw_ifne (tgt := 16) (aX12_meantLocation 3 rfl) (by decide) rfl (fun cd15 => ?_) (fun cd15 => ?_)
  · have hcu := u14.mp (by omega); rw [show ((123 : Int32)).toInt = (123 : Int) from by decide] at hcu
    obtain ⟨kk, hk8, hpts⟩ : ∃ n, n ≤ 8 ∧ gr_pts (kf (FI 152)) (wf (FL 153)) n ((FI 121 92).toInt.toNat + 1) q := by rcases gg0 with ⟨h, -⟩ | ⟨-, h⟩; { exact absurd hcu h }; { exact h }
    refine hw_ic (v := (0 : Int32)) (aX12_meantLocation 9 rfl) (by decide) ?_
    refine xw_istoren (L2 := [(2, .int ((0 : Int32))), (0, .ref (base + 121)), (1, .int (a1))]) (aX12_meantLocation 10 rfl) (by decide) rfl ?_
    refine hw_aloadn (aX12_meantLocation 11 rfl) rfl ?_
    refine hw_aloadn (aX12_meantLocation 12 rfl) rfl ?_
    refine hw_get (v := .int (x4)) (aX12_meantLocation 13 rfl) wf_RX12_656 (c121 hS) (s121 hS) (by decide) (congrArg Value.int (show FI 121 92 = x4 from h5)) ?_
    refine hw_ic (v := (1 : Int32)) (aX12_meantLocation 14 rfl) (by decide) ?_
    refine xw_iadd (aX12_meantLocation 15 rfl) ?_
    refine hw_tie (A := ((x4).toInt) + (1)) (i_add rfl (by decide : (1 : Int32).toInt = 1) (by omega) (by omega)) (fun x16 e17 => ?_)
    refine hv_puti (aX12_meantLocation 16 rfl) wf_RX12_656 (c121 hS) (s121 hS) (by decide) rfl rfl (fun FI18 u19 => ?_)
    have rl20 : rl_t (FI18 152) (FL 153) := by rw [show FI18 152 = FI 152 from up_row u19 (by decide) rfl]; exact rel_kept
    have rl21 : rl_h 2 (FI18 136) (FL 137) (FI18 138) := by rw [show FI18 136 = FI 136 from up_row u19 (by decide) rfl, show FI18 138 = FI 138 from up_row u19 (by decide) rfl]; exact rel_hold
    have rl22 : rl_h 32 (FI18 130) (FL 131) (FI18 134) := by rw [show FI18 130 = FI 130 from up_row u19 (by decide) rfl, show FI18 134 = FI 134 from up_row u19 (by decide) rfl]; exact rel_piece
    have rl23 : rl_b (FI18 139) (FI18 140) (FI18 141) := by rw [show FI18 139 = FI 139 from up_row u19 (by decide) rfl, show FI18 140 = FI 140 from up_row u19 (by decide) rfl, show FI18 141 = FI 141 from up_row u19 (by decide) rfl]; exact rel_back
    have rl24 : rl_m (FI18 169) (FL 170) := by rw [show FI18 169 = FI 169 from up_row u19 (by decide) rfl]; exact rel_mean
    have hI25 : g_I FI18 := gU_121_92 hI u19 (by have := (e17 : (x16).toInt = ((x4).toInt) + (1)); omega) (by have := (e17 : (x16).toInt = ((x4).toInt) + (1)); omega)
    refine hw_ic (v := (1 : Int32)) (aX12_meantLocation 17 rfl) (by decide) ?_
    refine xw_istoren (L2 := [(3, .int ((1 : Int32))), (2, .int ((0 : Int32))), (0, .ref (base + 121)), (1, .int (a1))]) (aX12_meantLocation 18 rfl) (by decide) rfl ?_
    have lp42 : ∀ (m : Nat) (y3 : Int32) (y2 : Int32) (FIv26 : Nat → Nat → Int32) (FLv27 : Nat → Nat → Int64), (g_fr n SH [(121, 29), (121, 30), (121, 31), (121, 32), (121, 33), (121, 34), (121, 37), (121, 38), (121, 90), (121, 91), (121, 92), (121, 93), (121, 94), (121, 95), (121, 101), (121, 104)] [128, 129, 130, 132, 133, 134, 135, 136, 138, 139, 140, 141, 142, 165, 166, 169, 171, 172, 174, 175] [] FI FIv26) → (g_fr n SH [(121, 35), (121, 36), (121, 39)] [127, 131, 137, 170, 173] [] FL FLv27) → (g_I FIv26) → (FIv26 121 94 = x1) → (rl_t (FIv26 152) (FLv27 153)) → (rl_h 2 (FIv26 136) (FLv27 137) (FIv26 138)) → (rl_h 32 (FIv26 130) (FLv27 131) (FIv26 134)) → (rl_b (FIv26 139) (FIv26 140) (FIv26 141)) → (rl_m (FIv26 169) (FLv27 170)) → (0 ≤ (y2).toInt ∧ (y2).toInt ≤ 8) → (0 ≤ (y3).toInt ∧ (y3).toInt ≤ 1) → (0 ≤ (FIv26 121 92).toInt ∧ (FIv26 121 92).toInt ≤ 1000) → (gr_at (kf (FI 152)) (wf (FL 153)) q ((FIv26 121 92).toInt).toNat (y2).toInt (y3).toInt) → (FIv26 152 = FI 152) → (FLv27 153 = FL 153) → 2 * (1001 - (FIv26 121 92).toInt) + (y3).toInt < m → hw zk base (d + 9) none 256 30 [(3, .int (y3)), (2, .int (y2)), (0, .ref (base + 121)), (1, .int (a1))] [] (n, sl, SH, FIv26, FLv27, FR) (h_V (fun s => ∃ FI' FL', s = (n, sl, SH, FI', FL', FR) ∧ g_I FI' ∧ g_fr n SH [(121, 29), (121, 30), (121, 31), (121, 32), (121, 33), (121, 34), (121, 37), (121, 38), (121, 90), (121, 91), (121, 92), (121, 93), (121, 94), (121, 95), (121, 101), (121, 104)] [128, 129, 130, 132, 133, 134, 135, 136, 138, 139, 140, 141, 142, 165, 166, 169, 171, 172, 174, 175] [] FI FI' ∧ g_fr n SH [(121, 35), (121, 36), (121, 39)] [127, 131, 137, 170, 173] [] FL FL' ∧ (1 ≤ (FI' 121 94).toInt) ∧ ((FI' 121 92).toInt.toNat = q) ∧ (rl_h 2 (FI' 136) (FL' 137) (FI' 138)) ∧ (rl_h 32 (FI' 130) (FL' 131) (FI' 134)) ∧ (rl_b (FI' 139) (FI' 140) (FI' 141)) ∧ (rl_m (FI' 169) (FL' 170)))) := by
      intro m
      induction m with
      | zero => intro y3 y2 FIv26 FLv27 fr28 fr29 hI30 kp31 rl32 rl33 rl34 rl35 rl36 iv37 iv38 iv39 xi30_0 rw40 rw41 hm; omega
      | succ m ih =>
        intro y3 y2 FIv26 FLv27 fr28 fr29 hI30 kp31 rl32 rl33 rl34 rl35 rl36 iv37 iv38 iv39 xi30_0 rw40 rw41 hm
        have rg_y3 := i_rng y3
        have rg_y2 := i_rng y2
        have := congrArg Int32.toInt kp31
        obtain ⟨x43, h44⟩ : ∃ y, FIv26 121 92 = y := ⟨_, rfl⟩
        have h44l := congrArg Int32.toInt h44
        have b45 := gI_121_92 hI30; rw [h44] at b45
        refine xw_iloadn (aX12_meantLocation 19 rfl) rfl ?_
        refine hw_ifeq (tgt := 107) (aX12_meantLocation 20 rfl) (by decide) rfl (fun cd46 => ?_) (fun cd46 => ?_)
        · refine xw_iloadn (aX12_meantLocation 66 rfl) rfl ?_
          refine hw_ifne (tgt := 112) (aX12_meantLocation 67 rfl) (by decide) rfl (fun cd47 => ?_) (fun cd47 => ?_)
          · have hx8 := xi30_0; rw [show (y3).toInt = 0 by omega] at hx8; have hx9 := gr_at_e hx8
            refine hw_aloadn (aX12_meantLocation 69 rfl) rfl ?_
            refine xw_iloadn (aX12_meantLocation 70 rfl) rfl ?_
            refine hv_puti (aX12_meantLocation 71 rfl) wf_RX12_659 (c121 hS) (s121 hS) (by decide) rfl rfl (fun FI48 u49 => ?_)
            have rl50 : rl_t (FI48 152) (FLv27 153) := by rw [show FI48 152 = FIv26 152 from up_row u49 (by decide) rfl]; exact rl32
            have rl51 : rl_h 2 (FI48 136) (FLv27 137) (FI48 138) := by rw [show FI48 136 = FIv26 136 from up_row u49 (by decide) rfl, show FI48 138 = FIv26 138 from up_row u49 (by decide) rfl]; exact rl33
            have rl52 : rl_h 32 (FI48 130) (FLv27 131) (FI48 134) := by rw [show FI48 130 = FIv26 130 from up_row u49 (by decide) rfl, show FI48 134 = FIv26 134 from up_row u49 (by decide) rfl]; exact rl34
            have rl53 : rl_b (FI48 139) (FI48 140) (FI48 141) := by rw [show FI48 139 = FIv26 139 from up_row u49 (by decide) rfl, show FI48 140 = FIv26 140 from up_row u49 (by decide) rfl, show FI48 141 = FIv26 141 from up_row u49 (by decide) rfl]; exact rl35
            have rl54 : rl_m (FI48 169) (FLv27 170) := by rw [show FI48 169 = FIv26 169 from up_row u49 (by decide) rfl]; exact rl36
            have hI55 : g_I FI48 := gU_121_94 hI30 u49 (by omega) (by omega)
            refine hw_aloadn (aX12_meantLocation 72 rfl) rfl ?_
            refine hw_ic (v := (1 : Int32)) (aX12_meantLocation 73 rfl) (by decide) ?_
            refine hv_putz (aX12_meantLocation 74 rfl) wf_RX12_662 (c121 hS) (s121 hS) (by decide) rfl rfl (by decide) (fun FI56 u57 => ?_)
            have rl58 : rl_t (FI56 152) (FLv27 153) := by rw [show FI56 152 = FI48 152 from up_row u57 (by decide) rfl]; exact rl50
            have rl59 : rl_h 2 (FI56 136) (FLv27 137) (FI56 138) := by rw [show FI56 136 = FI48 136 from up_row u57 (by decide) rfl, show FI56 138 = FI48 138 from up_row u57 (by decide) rfl]; exact rl51
            have rl60 : rl_h 32 (FI56 130) (FLv27 131) (FI56 134) := by rw [show FI56 130 = FI48 130 from up_row u57 (by decide) rfl, show FI56 134 = FI48 134 from up_row u57 (by decide) rfl]; exact rl52
            have rl61 : rl_b (FI56 139) (FI56 140) (FI56 141) := by rw [show FI56 139 = FI48 139 from up_row u57 (by decide) rfl, show FI56 140 = FI48 140 from up_row u57 (by decide) rfl, show FI56 141 = FI48 141 from up_row u57 (by decide) rfl]; exact rl53
            have rl62 : rl_m (FI56 169) (FLv27 170) := by rw [show FI56 169 = FI48 169 from up_row u57 (by decide) rfl]; exact rl54
            have hI63 : g_I FI56 := gU_121_95 hI55 u57 (by have := ((by decide : (1 : Int32).toInt = 1) : ((1 : Int32)).toInt = 1); omega) (by have := ((by decide : (1 : Int32).toInt = 1) : ((1 : Int32)).toInt = 1); omega)
            refine xw_vret (aX12_meantLocation 75 rfl) rfl ?_
            exact ⟨rfl, FI56, FLv27, rfl, hI63, (gf_f (gf_f fr28 u49 (by decide)) u57 (by decide)), fr29, (by have := congrArg Int32.toInt (show FI56 121 94 = y2 from (up_k u57 (by decide) (up_eq u49))); omega), (by have := congrArg Int32.toInt (show FI56 121 92 = x43 from (up_k u57 (by decide) ((up_k u49 (by decide) (h44))))); have hx := xi30_0; rw [show (y3).toInt = 0 by omega] at hx; have := gr_at_e hx; omega), (show rl_h 2 (FI56 136) (FLv27 137) (FI56 138) from rl59), (show rl_h 32 (FI56 130) (FLv27 131) (FI56 134) from rl60), (show rl_b (FI56 139) (FI56 140) (FI56 141) from rl61), (show rl_m (FI56 169) (FLv27 170) from rl62)⟩
          · refine xw_vret (aX12_meantLocation 68 rfl) rfl ?_
            exact ⟨rfl, FIv26, FLv27, rfl, hI30, fr28, fr29, (by have := congrArg Int32.toInt (show FIv26 121 94 = x1 from kp31); omega), (by have := congrArg Int32.toInt (show FIv26 121 92 = x43 from h44); have hx := xi30_0; rw [show (y3).toInt = 0 by omega] at hx; have := gr_at_e hx; omega), (show rl_h 2 (FIv26 136) (FLv27 137) (FIv26 138) from rl33), (show rl_h 32 (FIv26 130) (FLv27 131) (FIv26 134) from rl34), (show rl_b (FIv26 139) (FIv26 140) (FIv26 141) from rl35), (show rl_m (FIv26 169) (FLv27 170) from rl36)⟩
        · have hx := xi30_0; rw [show (y3).toInt = 1 by omega] at hx; obtain ⟨hn0, hn7, e, hgp, he3, hnx⟩ := gr_at_s hx; have hltp := gr_pl_lt hgp
          refine hw_aloadn (aX12_meantLocation 21 rfl) rfl ?_
          refine xw_iloadn (aX12_meantLocation 22 rfl) rfl ?_
          refine xw_iloadn (aX12_meantLocation 23 rfl) rfl ?_
          refine hw_callV (Bs := [.int (a1), .int (y2)]) (rest := []) (aX12_meantLocation 24 rfl) wc_RX12_672 (by decide) rfl wi_yX12_meantPlace wv_yX12_meantPlace (c121 hS) (s121 hS) rfl rfl rfl (Nat.le_of_ble_eq_true rfl) (Nat.le_of_ble_eq_true rfl) (n_meantPlace (d := d) hS hF hI30 (a1) (y2) (e) (by omega) (by omega) (by rw [show FIv26 152 = FI 152 from rw40, show FLv27 153 = FL 153 from rw41]; exact hgp) (by omega) (show rl_t (FIv26 152) (FLv27 153) from rl32) (show rl_h 2 (FIv26 136) (FLv27 137) (FIv26 138) from rl33) (show rl_h 32 (FIv26 130) (FLv27 131) (FIv26 134) from rl34) (show rl_b (FIv26 139) (FIv26 140) (FIv26 141) from rl35) (show rl_m (FIv26 169) (FLv27 170) from rl36)) (fun v64 sv65 p66 => ?_)
          obtain ⟨rfl, FI68, FL69, rfl, hI70, f71, f72, u73, rl74, rl75, rl76, rl77⟩ := p66
          have rl78 : rl_t (FI68 152) (FL69 153) := by rw [show FI68 152 = FIv26 152 from gf_row f71 (c152 hS) (s152 hS) rfl rfl, show FL69 153 = FLv27 153 from gf_row f72 (c153 hS) (s153 hS) rfl rfl]; exact rl32
          show hw zk base _ _ _ _ _ [] _ _
          obtain ⟨x79, h80⟩ : ∃ y, FI68 121 92 = y := ⟨_, rfl⟩
          have h80l := congrArg Int32.toInt h80
          have b81 := gI_121_92 hI70; rw [h80] at b81
          have hq9 := u73; have := congrArg Int32.toInt (show FI68 121 92 = x79 from h80)
          have := (x79).toInt; have h92n := gI_121_92 hI70; rw [show FI68 121 92 = x79 from h80] at h92n
          refine hw_aloadn (aX12_meantLocation 25 rfl) rfl ?_
          refine hw_aloadn (aX12_meantLocation 26 rfl) rfl ?_
          refine hw_get (v := .int (x79)) (aX12_meantLocation 27 rfl) wf_RX12_656 (c121 hS) (s121 hS) (by decide) (congrArg Value.int (show FI68 121 92 = x79 from h80)) ?_
          refine hw_ic (v := (1 : Int32)) (aX12_meantLocation 28 rfl) (by decide) ?_
          refine xw_iadd (aX12_meantLocation 29 rfl) ?_
          refine hw_tie (A := ((x79).toInt) + (1)) (i_add rfl (by decide : (1 : Int32).toInt = 1) (by omega) (by omega)) (fun x82 e83 => ?_)
          refine hv_puti (aX12_meantLocation 30 rfl) wf_RX12_656 (c121 hS) (s121 hS) (by decide) rfl rfl (fun FI84 u85 => ?_)
          have rl86 : rl_t (FI84 152) (FL69 153) := by rw [show FI84 152 = FI68 152 from up_row u85 (by decide) rfl]; exact rl78
          have rl87 : rl_h 2 (FI84 136) (FL69 137) (FI84 138) := by rw [show FI84 136 = FI68 136 from up_row u85 (by decide) rfl, show FI84 138 = FI68 138 from up_row u85 (by decide) rfl]; exact rl74
          have rl88 : rl_h 32 (FI84 130) (FL69 131) (FI84 134) := by rw [show FI84 130 = FI68 130 from up_row u85 (by decide) rfl, show FI84 134 = FI68 134 from up_row u85 (by decide) rfl]; exact rl75
          have rl89 : rl_b (FI84 139) (FI84 140) (FI84 141) := by rw [show FI84 139 = FI68 139 from up_row u85 (by decide) rfl, show FI84 140 = FI68 140 from up_row u85 (by decide) rfl, show FI84 141 = FI68 141 from up_row u85 (by decide) rfl]; exact rl76
          have rl90 : rl_m (FI84 169) (FL69 170) := by rw [show FI84 169 = FI68 169 from up_row u85 (by decide) rfl]; exact rl77
          have hI91 : g_I FI84 := gU_121_92 hI70 u85 (by have := (e83 : (x82).toInt = ((x79).toInt) + (1)); omega) (by have := (e83 : (x82).toInt = ((x79).toInt) + (1)); omega)
          refine xw_iloadn (aX12_meantLocation 31 rfl) rfl ?_
          have j147 : ∀  (FIj107 : Nat → Nat → Int32), (g_fr n SH [(121, 29), (121, 30), (121, 31), (121, 32), (121, 33), (121, 34), (121, 37), (121, 38), (121, 90), (121, 91), (121, 92), (121, 93), (121, 94), (121, 95), (121, 101), (121, 104)] [128, 129, 130, 132, 133, 134, 135, 136, 138, 139, 140, 141, 142, 165, 166, 169, 171, 172, 174, 175] [] FI FIj107) → (g_I FIj107) → (FIj107 121 92 = x82) → (FIj107 121 94 = x1) → (FIj107 152 = FI 152) → (rl_b (FIj107 139) (FIj107 140) (FIj107 141)) → (rl_h 2 (FIj107 136) (FL69 137) (FIj107 138)) → (rl_t (FIj107 152) (FL69 153)) → (rl_m (FIj107 169) (FL69 170)) → (rl_h 32 (FIj107 130) (FL69 131) (FIj107 134)) → hw zk base (d + 9) none 256 73 [(0, .ref (base + 121)), (1, .int (a1)), (2, .int (y2))] [] (n, sl, SH, FIj107, FL69, FR) (h_V (fun s => ∃ FI' FL', s = (n, sl, SH, FI', FL', FR) ∧ g_I FI' ∧ g_fr n SH [(121, 29), (121, 30), (121, 31), (121, 32), (121, 33), (121, 34), (121, 37), (121, 38), (121, 90), (121, 91), (121, 92), (121, 93), (121, 94), (121, 95), (121, 101), (121, 104)] [128, 129, 130, 132, 133, 134, 135, 136, 138, 139, 140, 141, 142, 165, 166, 169, 171, 172, 174, 175] [] FI FI' ∧ g_fr n SH [(121, 35), (121, 36), (121, 39)] [127, 131, 137, 170, 173] [] FL FL' ∧ (1 ≤ (FI' 121 94).toInt) ∧ ((FI' 121 92).toInt.toNat = q) ∧ (rl_h 2 (FI' 136) (FL' 137) (FI' 138)) ∧ (rl_h 32 (FI' 130) (FL' 131) (FI' 134)) ∧ (rl_b (FI' 139) (FI' 140) (FI' 141)) ∧ (rl_m (FI' 169) (FL' 170)))) := by
            intro FIj107 fr108 hI109 kp110 kp111 rw112 rl113 rl114 rl115 rl116 rl117
            have := congrArg Int32.toInt kp110
            have := congrArg Int32.toInt kp111
            refine hw_aloadn (aX12_meantLocation 45 rfl) rfl ?_
            refine hw_aloadn (aX12_meantLocation 46 rfl) rfl ?_
            refine hw_get (v := .int (x82)) (aX12_meantLocation 47 rfl) wf_RX12_656 (c121 hS) (s121 hS) (by decide) (congrArg Value.int (show FIj107 121 92 = x82 from kp110)) ?_
            refine hw_ic (v := (1 : Int32)) (aX12_meantLocation 48 rfl) (by decide) ?_
            refine xw_iadd (aX12_meantLocation 49 rfl) ?_
            refine hw_tie (A := (((x79).toInt) + (1)) + (1)) (i_add e83 (by decide : (1 : Int32).toInt = 1) (by omega) (by omega)) (fun x148 e149 => ?_)
            refine hv_puti (aX12_meantLocation 50 rfl) wf_RX12_656 (c121 hS) (s121 hS) (by decide) rfl rfl (fun FI150 u151 => ?_)
            have rl152 : rl_b (FI150 139) (FI150 140) (FI150 141) := by rw [show FI150 139 = FIj107 139 from up_row u151 (by decide) rfl, show FI150 140 = FIj107 140 from up_row u151 (by decide) rfl, show FI150 141 = FIj107 141 from up_row u151 (by decide) rfl]; exact rl113
            have rl153 : rl_h 2 (FI150 136) (FL69 137) (FI150 138) := by rw [show FI150 136 = FIj107 136 from up_row u151 (by decide) rfl, show FI150 138 = FIj107 138 from up_row u151 (by decide) rfl]; exact rl114
            have rl154 : rl_t (FI150 152) (FL69 153) := by rw [show FI150 152 = FIj107 152 from up_row u151 (by decide) rfl]; exact rl115
            have rl155 : rl_m (FI150 169) (FL69 170) := by rw [show FI150 169 = FIj107 169 from up_row u151 (by decide) rfl]; exact rl116
            have rl156 : rl_h 32 (FI150 130) (FL69 131) (FI150 134) := by rw [show FI150 130 = FIj107 130 from up_row u151 (by decide) rfl, show FI150 134 = FIj107 134 from up_row u151 (by decide) rfl]; exact rl117
            have hI157 : g_I FI150 := gU_121_92 hI109 u151 (by have := (e149 : (x148).toInt = (((x79).toInt) + (1)) + (1)); omega) (by have := (e149 : (x148).toInt = (((x79).toInt) + (1)) + (1)); omega)
            refine xw_iloadn (aX12_meantLocation 51 rfl) rfl ?_
            refine hw_ic (v := (1 : Int32)) (aX12_meantLocation 52 rfl) (by decide) ?_
            refine xw_iadd (aX12_meantLocation 53 rfl) ?_
            refine hw_tie (A := ((y2).toInt) + (1)) (i_add rfl (by decide : (1 : Int32).toInt = 1) (by omega) (by omega)) (fun x158 e159 => ?_)
            refine xw_istoren (L2 := [(2, .int (x158)), (0, .ref (base + 121)), (1, .int (a1))]) (aX12_meantLocation 54 rfl) (by decide) rfl ?_
            refine hw_aloadn (aX12_meantLocation 55 rfl) rfl ?_
            refine hw_bp (v := (44 : Int32)) (aX12_meantLocation 56 rfl) (by decide) ?_
            refine hw_callV (Bs := [.int ((44 : Int32))]) (rest := []) (aX12_meantLocation 57 rfl) wc_RX12_669 (by decide) rfl wi_yX12_keepsSign wv_yX12_keepsSign (c121 hS) (s121 hS) rfl rfl rfl (Nat.le_of_ble_eq_true rfl) (Nat.le_of_ble_eq_true rfl) (n_keepsSign (d := d + 8) hS hF hI157 ((44 : Int32)) ) (fun v160 sv161 p162 => ?_)
            obtain ⟨r163, rfl, rfl, t165, u166⟩ := p162
            show hw zk base _ _ _ _ _ [.int (r163)] _ _
            have hcm := u166; have := congrArg Int32.toInt (show FI150 121 92 = x148 from up_eq u151)
            rw [show ((44 : Int32)).toInt = (44 : Int) from by decide, show FI150 152 = FI 152 from (up_row u151 (by decide) (rw112)), show FL69 153 = FL 153 from (gf_row f72 (c153 hS) (s153 hS) rfl (rw41)), show (FI150 121 92).toInt.toNat = e + 2 by omega] at hcm
            refine xw_istoren (L2 := [(3, .int (r163)), (2, .int (x158)), (0, .ref (base + 121)), (1, .int (a1))]) (aX12_meantLocation 58 rfl) (by decide) rfl ?_
            refine hw_aloadn (aX12_meantLocation 59 rfl) rfl ?_
            refine hw_aloadn (aX12_meantLocation 60 rfl) rfl ?_
            refine hw_get (v := .int (x148)) (aX12_meantLocation 61 rfl) wf_RX12_656 (c121 hS) (s121 hS) (by decide) (congrArg Value.int (show FI150 121 92 = x148 from up_eq u151)) ?_
            refine hw_ic (v := (1 : Int32)) (aX12_meantLocation 62 rfl) (by decide) ?_
            refine xw_iadd (aX12_meantLocation 63 rfl) ?_
            refine hw_tie (A := ((((x79).toInt) + (1)) + (1)) + (1)) (i_add e149 (by decide : (1 : Int32).toInt = 1) (by omega) (by omega)) (fun x167 e168 => ?_)
            refine hv_puti (aX12_meantLocation 64 rfl) wf_RX12_656 (c121 hS) (s121 hS) (by decide) rfl rfl (fun FI169 u170 => ?_)
            have rl171 : rl_b (FI169 139) (FI169 140) (FI169 141) := by rw [show FI169 139 = FI150 139 from up_row u170 (by decide) rfl, show FI169 140 = FI150 140 from up_row u170 (by decide) rfl, show FI169 141 = FI150 141 from up_row u170 (by decide) rfl]; exact rl152
            have rl172 : rl_h 2 (FI169 136) (FL69 137) (FI169 138) := by rw [show FI169 136 = FI150 136 from up_row u170 (by decide) rfl, show FI169 138 = FI150 138 from up_row u170 (by decide) rfl]; exact rl153
            have rl173 : rl_t (FI169 152) (FL69 153) := by rw [show FI169 152 = FI150 152 from up_row u170 (by decide) rfl]; exact rl154
            have rl174 : rl_m (FI169 169) (FL69 170) := by rw [show FI169 169 = FI150 169 from up_row u170 (by decide) rfl]; exact rl155
            have rl175 : rl_h 32 (FI169 130) (FL69 131) (FI169 134) := by rw [show FI169 130 = FI150 130 from up_row u170 (by decide) rfl, show FI169 134 = FI150 134 from up_row u170 (by decide) rfl]; exact rl156
            have hI176 : g_I FI169 := gU_121_92 hI157 u170 (by have := (e168 : (x167).toInt = ((((x79).toInt) + (1)) + (1)) + (1)); omega) (by have := (e168 : (x167).toInt = ((((x79).toInt) + (1)) + (1)) + (1)); omega)
            refine xw_goto (tgt := 30) (aX12_meantLocation 65 rfl) (by decide) ?_
            exact hw_L (ih (r163) (x158) FI169 FL69 (gf_f (gf_f fr108 u151 (by decide)) u170 (by decide)) (gf_tr ex_rf fr29 f72 rfl rfl rfl) hI176 (show FI169 121 94 = x1 from (up_k u170 (by decide) ((up_k u151 (by decide) (kp111))))) (show rl_t (FI169 152) (FL69 153) from rl173) (show rl_h 2 (FI169 136) (FL69 137) (FI169 138) from rl172) (show rl_h 32 (FI169 130) (FL69 131) (FI169 134) from rl175) (show rl_b (FI169 139) (FI169 140) (FI169 141) from rl171) (show rl_m (FI169 169) (FL69 170) from rl174) (by have := (e159 : (x158).toInt = ((y2).toInt) + (1)); omega) (by have := (e159 : (x158).toInt = ((y2).toInt) + (1)); omega) (by have := (e159 : (x158).toInt = ((y2).toInt) + (1)); have := congrArg Int32.toInt (show FI169 121 92 = x167 from up_eq u170); have := (e168 : (x167).toInt = ((((x79).toInt) + (1)) + (1)) + (1)); omega) (show gr_at (kf (FI 152)) (wf (FL 153)) q ((FI169 121 92).toInt).toNat (x158).toInt (r163).toInt from (by have := (e159 : (x158).toInt = ((y2).toInt) + (1)); have := congrArg Int32.toInt (show FI169 121 92 = x167 from up_eq u170); have := (e168 : (x167).toInt = ((((x79).toInt) + (1)) + (1)) + (1)); exact (by rw [show ((FI169 121 92).toInt).toNat = e + 3 by omega, show ((x158).toInt : Int) = (y2).toInt + 1 by omega]; exact hnx _ ⟨by omega, hcm⟩))) (show FI169 152 = FI 152 from (up_row u170 (by decide) ((up_row u151 (by decide) (rw112))))) (show FL69 153 = FL 153 from (gf_row f72 (c153 hS) (s153 hS) rfl (rw41))) (by have := (e159 : (x158).toInt = ((y2).toInt) + (1)); have := congrArg Int32.toInt (show FI169 121 92 = x167 from up_eq u170); have := (e168 : (x167).toInt = ((((x79).toInt) + (1)) + (1)) + (1)); omega)) ⟨rfl, rfl, rfl, rfl, trivial⟩
          refine hw_ifeq (tgt := 73) (aX12_meantLocation 32 rfl) (by decide) rfl (fun cd177 => ?_) (fun cd177 => ?_)
          · exact hw_L (j147 FI84 (gf_f (gf_tr ex_rf fr28 f71 rfl rfl rfl) u85 (by decide)) hI91 (show FI84 121 92 = x82 from up_eq u85) (show FI84 121 94 = x1 from (up_k u85 (by decide) ((gf_at f71 (c121 hS) (s121 hS) rfl (kp31))))) (show FI84 152 = FI 152 from (up_row u85 (by decide) ((gf_row f71 (c152 hS) (s152 hS) rfl (rw40))))) (show rl_b (FI84 139) (FI84 140) (FI84 141) from rl89) (show rl_h 2 (FI84 136) (FL69 137) (FI84 138) from rl87) (show rl_t (FI84 152) (FL69 153) from rl86) (show rl_m (FI84 169) (FL69 170) from rl90) (show rl_h 32 (FI84 130) (FL69 131) (FI84 134) from rl88)) ⟨rfl, rfl, rfl, trivial⟩
          · refine hw_aloadn (aX12_meantLocation 33 rfl) rfl ?_
            refine hw_get (v := .ref (base + 171)) (aX12_meantLocation 34 rfl) wf_RX12_172 (c121 hS) (s121 hS) (by decide) (congrArg (fun r => va_rf (h_rf base r)) (r121_98 hF)) ?_
            refine xw_iloadn (aX12_meantLocation 35 rfl) rfl ?_
            refine hw_bp (v := (8 : Int32)) (aX12_meantLocation 36 rfl) (by decide) ?_
            refine hw_aloadn (aX12_meantLocation 37 rfl) rfl ?_
            refine hw_get (v := .ref (base + 153)) (aX12_meantLocation 38 rfl) wf_RX12_117 (c121 hS) (s121 hS) (by decide) (congrArg (fun r => va_rf (h_rf base r)) (r121_66 hF)) ?_
            refine hw_aloadn (aX12_meantLocation 39 rfl) rfl ?_
            refine hw_get (v := .int (x82)) (aX12_meantLocation 40 rfl) wf_RX12_656 (c121 hS) (s121 hS) (by decide) (congrArg Value.int (show FI84 121 92 = x82 from up_eq u85)) ?_
            obtain ⟨x178, h179⟩ : ∃ y, FL69 153 (x82).toNatClampNeg = y := ⟨_, rfl⟩
            have h179l := congrArg Int64.toInt h179
            have := l_rng x178
            refine hw_lald (v := x178) (aX12_meantLocation 41 rfl) (c153 hS) (s153 hS) (h_in e83 (by omega) (by omega)) (show FL69 153 (x82).toNatClampNeg = x178 from h179) ?_
            refine xw_l2i (aX12_meantLocation 42 rfl) ?_
            refine hw_ti (fun x180 => ?_)
            have b181 := i_rng x180
            refine xw_imul (aX12_meantLocation 43 rfl) ?_
            refine hw_ti (fun x182 => ?_)
            have b183 := i_rng x182
            refine hv_iast (k := (y2).toNatClampNeg) (aX12_meantLocation 44 rfl) (c171 hS) (s171 hS) (h_in rfl (by omega) (by omega)) rfl (fun FI184 u185 => ?_)
            have rl186 : rl_t (FI184 152) (FL69 153) := by rw [show FI184 152 = FI84 152 from up_row u185 (by decide) rfl]; exact rl86
            have rl187 : rl_h 2 (FI184 136) (FL69 137) (FI184 138) := by rw [show FI184 136 = FI84 136 from up_row u185 (by decide) rfl, show FI184 138 = FI84 138 from up_row u185 (by decide) rfl]; exact rl87
            have rl188 : rl_h 32 (FI184 130) (FL69 131) (FI184 134) := by rw [show FI184 130 = FI84 130 from up_row u185 (by decide) rfl, show FI184 134 = FI84 134 from up_row u185 (by decide) rfl]; exact rl88
            have rl189 : rl_b (FI184 139) (FI184 140) (FI184 141) := by rw [show FI184 139 = FI84 139 from up_row u185 (by decide) rfl, show FI184 140 = FI84 140 from up_row u185 (by decide) rfl, show FI184 141 = FI84 141 from up_row u185 (by decide) rfl]; exact rl89
            have rl190 : rl_m (FI184 169) (FL69 170) := by rw [show FI184 169 = FI84 169 from up_row u185 (by decide) rfl]; exact rl90
            have hI191 : g_I FI184 := gU_F hI91 u185 rfl
            exact hw_L (j147 FI184 (gf_a (gf_f (gf_tr ex_rf fr28 f71 rfl rfl rfl) u85 (by decide)) u185 (by decide)) hI191 (show FI184 121 92 = x82 from (up_c u185 (by decide) (up_eq u85))) (show FI184 121 94 = x1 from (up_c u185 (by decide) ((up_k u85 (by decide) ((gf_at f71 (c121 hS) (s121 hS) rfl (kp31))))))) (show FI184 152 = FI 152 from (up_row u185 (by decide) ((up_row u85 (by decide) ((gf_row f71 (c152 hS) (s152 hS) rfl (rw40))))))) (show rl_b (FI184 139) (FI184 140) (FI184 141) from rl189) (show rl_h 2 (FI184 136) (FL69 137) (FI184 138) from rl187) (show rl_t (FI184 152) (FL69 153) from rl186) (show rl_m (FI184 169) (FL69 170) from rl190) (show rl_h 32 (FI184 130) (FL69 131) (FI184 134) from rl188)) ⟨rfl, rfl, rfl, trivial⟩
    exact hw_L (lp42 ((2 * (1001 - (x16).toInt) + 1 : Int).toNat + 1) ((1 : Int32)) ((0 : Int32)) FI18 FL (gf_f gf_rf u19 (by decide)) gf_rf hI25 (show FI18 121 94 = x1 from (up_k u19 (by decide) (h2))) (show rl_t (FI18 152) (FL 153) from rl20) (show rl_h 2 (FI18 136) (FL 137) (FI18 138) from rl21) (show rl_h 32 (FI18 130) (FL 131) (FI18 134) from rl22) (show rl_b (FI18 139) (FI18 140) (FI18 141) from rl23) (show rl_m (FI18 169) (FL 170) from rl24) (by have := ((by decide : (1 : Int32).toInt = 1) : ((1 : Int32)).toInt = 1); have := ((by decide : (0 : Int32).toInt = 0) : ((0 : Int32)).toInt = 0); omega) (by have := ((by decide : (1 : Int32).toInt = 1) : ((1 : Int32)).toInt = 1); have := ((by decide : (0 : Int32).toInt = 0) : ((0 : Int32)).toInt = 0); omega) (by have := ((by decide : (1 : Int32).toInt = 1) : ((1 : Int32)).toInt = 1); have := ((by decide : (0 : Int32).toInt = 0) : ((0 : Int32)).toInt = 0); have := congrArg Int32.toInt (show FI18 121 92 = x16 from up_eq u19); have := (e17 : (x16).toInt = ((x4).toInt) + (1)); omega) (show gr_at (kf (FI 152)) (wf (FL 153)) q ((FI18 121 92).toInt).toNat 0 1 from (by have := ((by decide : (1 : Int32).toInt = 1) : ((1 : Int32)).toInt = 1); have := ((by decide : (0 : Int32).toInt = 0) : ((0 : Int32)).toInt = 0); have := congrArg Int32.toInt (show FI18 121 92 = x16 from up_eq u19); have := (e17 : (x16).toInt = ((x4).toInt) + (1)); exact (by rw [show ((FI18 121 92).toInt).toNat = (FI 121 92).toInt.toNat + 1 by omega, show (0 : Int) = 0 by omega, show (1 : Int) = 1 by omega]; exact gr_at_0 hpts hk8))) (show FI18 152 = FI 152 from (up_row u19 (by decide) (rfl))) (show FL 153 = FL 153 from rfl) (by have := ((by decide : (1 : Int32).toInt = 1) : ((1 : Int32)).toInt = 1); have := ((by decide : (0 : Int32).toInt = 0) : ((0 : Int32)).toInt = 0); have := congrArg Int32.toInt (show FI18 121 92 = x16 from up_eq u19); have := (e17 : (x16).toInt = ((x4).toInt) + (1)); omega)) ⟨rfl, rfl, rfl, rfl, trivial⟩
  · have hncu : ¬ gr_cu (kf (FI 152)) (wf (FL 153)) (FI 121 92).toInt.toNat := fun h => by have := u14.mpr (by rw [show ((123 : Int32)).toInt = (123 : Int) from by decide]; exact h); omega
    have hgp : gr_pl (kf (FI 152)) (wf (FL 153)) (FI 121 92).toInt.toNat q := by rcases gg0 with ⟨-, h⟩ | ⟨h, -⟩; { exact h }; { exact absurd h hncu }
    refine hw_aloadn (aX12_meantLocation 4 rfl) rfl ?_
    refine xw_iloadn (aX12_meantLocation 5 rfl) rfl ?_
    refine hw_ic (v := (0 : Int32)) (aX12_meantLocation 6 rfl) (by decide) ?_
    refine hw_callV (Bs := [.int (a1), .int ((0 : Int32))]) (rest := []) (aX12_meantLocation 7 rfl) wc_RX12_672 (by decide) rfl wi_yX12_meantPlace wv_yX12_meantPlace (c121 hS) (s121 hS) rfl rfl rfl (Nat.le_of_ble_eq_true rfl) (Nat.le_of_ble_eq_true rfl) (n_meantPlace (d := d) hS hF hI (a1) ((0 : Int32)) (q) (by omega) (by have := ((by decide : (0 : Int32).toInt = 0) : ((0 : Int32)).toInt = 0); have := ((by decide : (0 : Int32).toInt = 0) : ((0 : Int32)).toInt = 0); omega) (hgp) (gg1) (show rl_t (FI 152) (FL 153) from rel_kept) (show rl_h 2 (FI 136) (FL 137) (FI 138) from rel_hold) (show rl_h 32 (FI 130) (FL 131) (FI 134) from rel_piece) (show rl_b (FI 139) (FI 140) (FI 141) from rel_back) (show rl_m (FI 169) (FL 170) from rel_mean)) (fun v192 sv193 p194 => ?_)
    obtain ⟨rfl, FI196, FL197, rfl, hI198, f199, f200, u201, rl202, rl203, rl204, rl205⟩ := p194
    have rl206 : rl_t (FI196 152) (FL197 153) := by rw [show FI196 152 = FI 152 from gf_row f199 (c152 hS) (s152 hS) rfl rfl, show FL197 153 = FL 153 from gf_row f200 (c153 hS) (s153 hS) rfl rfl]; exact rel_kept
    show hw zk base _ _ _ _ _ [] _ _
    obtain ⟨x207, h208⟩ : ∃ y, FI196 121 92 = y := ⟨_, rfl⟩
    have h208l := congrArg Int32.toInt h208
    have b209 := gI_121_92 hI198; rw [h208] at b209
    have hq9 := u201; have := congrArg Int32.toInt (show FI196 121 92 = x207 from h208)
    have := (x207).toInt; have h92n := gI_121_92 hI198; rw [show FI196 121 92 = x207 from h208] at h92n
    refine xw_vret (aX12_meantLocation 8 rfl) rfl ?_
    exact ⟨rfl, FI196, FL197, rfl, hI198, (gf_tr ex_rf gf_rf f199 rfl rfl rfl), (gf_tr ex_rf gf_rf f200 rfl rfl rfl), (by have := congrArg Int32.toInt (show FI196 121 94 = x1 from (gf_at f199 (c121 hS) (s121 hS) rfl (h2))); omega), (by have := congrArg Int32.toInt (show FI196 121 92 = x207 from h208); omega), (show rl_h 2 (FI196 136) (FL197 137) (FI196 138) from rl202), (show rl_h 32 (FI196 130) (FL197 131) (FI196 134) from rl203), (show rl_b (FI196 139) (FI196 140) (FI196 141) from rl204), (show rl_m (FI196 169) (FL197 170) from rl205)⟩
