def nX12_meansReducedAll : Nat := 0xb1b1ffa7cb02b6042aa802b5332c02b42ab500b42a2a502fab02b42ab200b42a6404ab02b42ab200b42a17009a332c02b42ab800b42aab02b56404ab02b42a2a2c02b564042c02b42a2a4c00a0fd102f02b62acb02b6042a
theorem bX12_meansReducedAll : cX12_meansReducedAll.data.toList.map UInt8.toNat = x_un nX12_meansReducedAll 88 := by decide +kernel
def iX12_meansReducedAll : List (Nat × Jvm.ClassFile.Instr × Nat) := [(0, .aload_n 0, 1), (1, .iconst 1, 1), (2, .invokevirtual 715, 3), (5, .aload_n 0, 1), (6, .invokevirtual 559, 3), (9, .bipush (-3), 2), (11, .if_icmp .ne 76, 3), (14, .aload_n 0, 1), (15, .aload_n 0, 1), (16, .getfield 556, 3), (19, .iconst 1, 1), (20, .isub, 1), (21, .putfield 556, 3), (24, .aload_n 0, 1), (25, .aload_n 0, 1), (26, .getfield 683, 3), (29, .iconst 1, 1), (30, .isub, 1), (31, .putfield 683, 3), (34, .aload_n 0, 1), (35, .getfield 184, 3), (38, .aload_n 0, 1), (39, .getfield 556, 3), (42, .baload, 1), (43, .ifCond .ne 23, 3), (46, .aload_n 0, 1), (47, .getfield 178, 3), (50, .aload_n 0, 1), (51, .getfield 683, 3), (54, .iconst 1, 1), (55, .isub, 1), (56, .aload_n 0, 1), (57, .getfield 178, 3), (60, .aload_n 0, 1), (61, .getfield 683, 3), (64, .laload, 1), (65, .lastore, 1), (66, .aload_n 0, 1), (67, .aload_n 0, 1), (68, .getfield 181, 3), (71, .aload_n 0, 1), (72, .getfield 556, 3), (75, .baload, 1), (76, .putfield 680, 3), (79, .aload_n 0, 1), (80, .iconst 1, 1), (81, .invokevirtual 715, 3), (84, .goto (-79), 3), (87, .return_, 1)]
theorem dX12_meansReducedAll : x_il nX12_meansReducedAll 88 iX12_meansReducedAll = true := by decide +kernel
theorem aX12_meansReducedAll (k : Nat) {pc : Nat} {i : Jvm.ClassFile.Instr} {len : Nat} (hk : iX12_meansReducedAll[k]? = some (pc, i, len)) : x_at xMM 265 pc i len yX12_meansReducedAll 1 none := ⟨cX12_meansReducedAll, rfl, x_il_ok bX12_meansReducedAll dX12_meansReducedAll k hk⟩
set_option maxHeartbeats 4000000 in
set_option maxRecDepth 100000 in
theorem n_meansReducedAll {zk : xK} {base d n sl : Nat} {SH : Nat → Nat × Nat} {FI : Nat → Nat → Int32} {FL : Nat → Nat → Int64} {FR : Nat → Nat → Option Nat} (hS : h_S n SH) (hF : h_FR FR) (hI : g_I FI) (gg0 : au_ok (sk (FI 166) (FI 121 90).toInt.toNat)) (gg1 : ∀ y r, (sk (FI 166) (FI 121 90).toInt.toNat) = y :: r → y ≠ 9) (gg2 : (au_vc (sk (FI 166) (FI 121 90).toInt.toNat) : Int) + 1 ≤ (FI 121 101).toInt) (rel_wm : rl_wm (FI 121 90) (FI 165) (FI 166)) : hw zk base (d + 4) none 265 0 [(0, .ref (base + 121))] [] (n, sl, SH, FI, FL, FR) (h_V (fun s => ∃ FI' FL', s = (n, sl, SH, FI', FL', FR) ∧ g_I FI' ∧ g_fr n SH [(121, 90), (121, 93), (121, 101), (121, 104)] [] [] FI FI' ∧ g_fr n SH [] [173] [] FL FL' ∧ ((FI' 121 90).toInt ≤ (FI 121 90).toInt) ∧ ((FI' 121 101).toInt ≤ (FI 121 101).toInt) ∧ (sk (FI 166) (FI' 121 90).toInt.toNat = au_all (sk (FI 166) (FI 121 90).toInt.toNat)) ∧ ((FI' 121 101).toInt - (au_vc (sk (FI 166) (FI' 121 90).toInt.toNat) : Int) = (FI 121 101).toInt - (au_vc (sk (FI 166) (FI 121 90).toInt.toNat) : Int)) ∧ (rl_wm (FI' 121 90) (FI' 165) (FI' 166)))) := by
  obtain ⟨x1, h2⟩ : ∃ y, FI 121 90 = y := ⟨_, rfl⟩
  have h2l := congrArg Int32.toInt h2
  have b3 := gI_121_90 hI; rw [h2] at b3
  obtain ⟨x4, h5⟩ : ∃ y, FI 121 101 = y := ⟨_, rfl⟩
  have h5l := congrArg Int32.toInt h5
  have b6 := gI_121_101 hI; rw [h5] at b6
  refine hw_aloadn (aX12_meansReducedAll 0 rfl) rfl ?_
  refine hw_ic (v := (1 : Int32)) (aX12_meansReducedAll 1 rfl) (by decide) ?_
  refine hw_callV (Bs := [.int ((1 : Int32))]) (rest := []) (aX12_meansReducedAll 2 rfl) wc_RX12_715 (by decide) rfl wi_yX12_meansReduced wv_yX12_meansReduced (c121 hS) (s121 hS) rfl rfl rfl (Nat.le_of_ble_eq_true rfl) (Nat.le_of_ble_eq_true rfl) (n_meansReduced (d := d) hS hF hI ((1 : Int32)) (by have := ((by decide : (1 : Int32).toInt = 1) : ((1 : Int32)).toInt = 1); have := ((by decide : (1 : Int32).toInt = 1) : ((1 : Int32)).toInt = 1); omega) (gg0) (gg1) (gg2) (show rl_wm (FI 121 90) (FI 165) (FI 166) from rel_wm)) (fun v7 sv8 p9 => ?_)
  have := congrArg Int32.toInt (show FI 121 90 = x1 from h2)
  have := congrArg Int32.toInt (show FI 121 101 = x4 from h5)
  obtain ⟨rfl, FI11, FL12, rfl, hI13, f14, f15, t16, t17, u18, u19, rl20⟩ := p9
  obtain ⟨x21, h22⟩ : ∃ y, FI11 121 90 = y := ⟨_, rfl⟩
  have h22l := congrArg Int32.toInt h22
  have b23 := gI_121_90 hI13; rw [h22] at b23
  obtain ⟨x24, h25⟩ : ∃ y, FI11 121 101 = y := ⟨_, rfl⟩
  have h25l := congrArg Int32.toInt h25
  have b26 := gI_121_101 hI13; rw [h25] at b26
  show hw zk base _ _ _ _ _ [] _ _
  have hR := u18; rw [show ((1 : Int32)).toInt = (1 : Int) from by decide] at hR; have hV := u19; have hma := ma_0 gg0 gg1
  have := congrArg Int32.toInt (show FI11 121 101 = x24 from h25)
  have lp38 : ∀ (m : Nat) (FIv27 : Nat → Nat → Int32) (FLv28 : Nat → Nat → Int64), (g_fr n SH [(121, 90), (121, 93), (121, 101), (121, 104)] [] [] FI FIv27) → (g_fr n SH [] [173] [] FL FLv28) → (g_I FIv27) → (rl_wm (FIv27 121 90) (FIv27 165) (FIv27 166)) → (0 ≤ (FIv27 121 90).toInt ∧ (FIv27 121 90).toInt ≤ 256) → (0 ≤ (FIv27 121 101).toInt ∧ (FIv27 121 101).toInt ≤ 512) → ((FIv27 121 90).toInt ≤ (FI 121 90).toInt) → ((FIv27 121 101).toInt ≤ (FI 121 101).toInt) → (au_all (sk (FI 166) ((FIv27 121 90).toInt).toNat) = au_all (sk (FI 166) (FI 121 90).toInt.toNat)) → ((FIv27 121 101).toInt - (au_vc (sk (FI 166) ((FIv27 121 90).toInt).toNat) : Int) = (FI 121 101).toInt - (au_vc (sk (FI 166) (FI 121 90).toInt.toNat) : Int)) → (au_ok (sk (FI 166) ((FIv27 121 90).toInt).toNat)) → (∀ y r, (sk (FI 166) ((FIv27 121 90).toInt).toNat) = y :: r → y < 1) → (FIv27 166 = FI 166) → (FIv27 121 90).toInt < m → hw zk base (d + 4) none 265 5 [(0, .ref (base + 121))] [] (n, sl, SH, FIv27, FLv28, FR) (h_V (fun s => ∃ FI' FL', s = (n, sl, SH, FI', FL', FR) ∧ g_I FI' ∧ g_fr n SH [(121, 90), (121, 93), (121, 101), (121, 104)] [] [] FI FI' ∧ g_fr n SH [] [173] [] FL FL' ∧ ((FI' 121 90).toInt ≤ (FI 121 90).toInt) ∧ ((FI' 121 101).toInt ≤ (FI 121 101).toInt) ∧ (sk (FI 166) (FI' 121 90).toInt.toNat = au_all (sk (FI 166) (FI 121 90).toInt.toNat)) ∧ ((FI' 121 101).toInt - (au_vc (sk (FI 166) (FI' 121 90).toInt.toNat) : Int) = (FI 121 101).toInt - (au_vc (sk (FI 166) (FI 121 90).toInt.toNat) : Int)) ∧ (rl_wm (FI' 121 90) (FI' 165) (FI' 166)))) := by
    intro m
    induction m with
    | zero => intro FIv27 FLv28 fr29 fr30 hI31 rl32 iv33 iv34 iv35 iv36 xi5_0 xi5_1 xi5_2 xi5_3 rw37 hm; omega
    | succ m ih =>
      intro FIv27 FLv28 fr29 fr30 hI31 rl32 iv33 iv34 iv35 iv36 xi5_0 xi5_1 xi5_2 xi5_3 rw37 hm
      obtain ⟨x39, h40⟩ : ∃ y, FIv27 121 90 = y := ⟨_, rfl⟩
      have h40l := congrArg Int32.toInt h40
      have b41 := gI_121_90 hI31; rw [h40] at b41
      obtain ⟨x42, h43⟩ : ∃ y, FIv27 121 101 = y := ⟨_, rfl⟩
      have h43l := congrArg Int32.toInt h43
      have b44 := gI_121_101 hI31; rw [h43] at b44
      refine hw_aloadn (aX12_meansReducedAll 3 rfl) rfl ?_
      refine hw_callV (Bs := []) (rest := []) (aX12_meansReducedAll 4 rfl) wc_RX12_559 (by decide) rfl wi_yX12_tops wv_yX12_tops (c121 hS) (s121 hS) rfl rfl rfl (Nat.le_of_ble_eq_true rfl) (Nat.le_of_ble_eq_true rfl) (n_tops (d := d + 3) hS hF hI31 ) (fun v45 sv46 p47 => ?_)
      have := congrArg Int32.toInt (show FIv27 121 90 = x39 from h40)
      obtain ⟨r48, rfl, rfl, t50, u51, u52⟩ := p47
      have rg_r48 := i_rng r48
      show hw zk base _ _ _ _ _ [.int (r48)] _ _
      refine hw_bp (v := ((-3) : Int32)) (aX12_meansReducedAll 5 rfl) (by decide) ?_
      refine hw_icne (tgt := 87) (aX12_meansReducedAll 6 rfl) (by decide) rfl (by decide : ((-3) : Int32).toInt = (-3)) (fun cd53 => ?_) (fun cd53 => ?_)
      · refine xw_vret (aX12_meansReducedAll 48 rfl) rfl ?_
        exact ⟨rfl, FIv27, FLv28, rfl, hI31, fr29, fr30, (by have := congrArg Int32.toInt (show FIv27 121 90 = x39 from h40); omega), (by have := congrArg Int32.toInt (show FIv27 121 101 = x42 from h43); omega), (by have e := ra_e xi5_3 (fun y q e => by { rcases Int.lt_or_le 0 (FIv27 121 90).toInt with h0 | h0; { have hh := u51 (by omega); rw [show FIv27 166 = FI 166 from rw37, e] at hh; cases hh; omega }; { rw [show (FIv27 121 90).toInt.toNat = 0 by omega] at e; cases e } }); rw [← xi5_0, e]), (by exact xi5_1), (show rl_wm (FIv27 121 90) (FIv27 165) (FIv27 166) from rl32)⟩
      · have := congrArg Int32.toInt (show FIv27 121 101 = x42 from h43)
        have hh := u51 (by omega); rw [show FIv27 166 = FI 166 from rw37, show (r48).toInt = (-3 : Int) by omega] at hh
        have hms := ma_s hh xi5_2
        have hx1 := xi5_1
        have h2v : 2 ≤ (FIv27 121 101).toInt := by have := hms.2.2.2.2.2; have := gg2; omega
        refine hw_aloadn (aX12_meansReducedAll 7 rfl) rfl ?_
        refine hw_aloadn (aX12_meansReducedAll 8 rfl) rfl ?_
        refine hw_get (v := .int (x39)) (aX12_meansReducedAll 9 rfl) wf_RX12_556 (c121 hS) (s121 hS) (by decide) (congrArg Value.int (show FIv27 121 90 = x39 from h40)) ?_
        refine hw_ic (v := (1 : Int32)) (aX12_meansReducedAll 10 rfl) (by decide) ?_
        refine xw_isub (aX12_meansReducedAll 11 rfl) ?_
        refine hw_tie (A := ((x39).toInt) - (1)) (i_sub rfl (by decide : (1 : Int32).toInt = 1) (by omega) (by omega)) (fun x54 e55 => ?_)
        refine hv_puti (aX12_meansReducedAll 12 rfl) wf_RX12_556 (c121 hS) (s121 hS) (by decide) rfl rfl (fun FI56 u57 => ?_)
        have rl58 : rl_wm (FI56 121 90) (FI56 165) (FI56 166) := by have z0 := congrArg Int32.toInt (show FIv27 121 90 = x39 from h40); have z1 := congrArg Int32.toInt (show FI56 121 90 = x54 from up_eq u57); have := (e55 : (x54).toInt = ((x39).toInt) - (1)); rw [show FI56 165 = FIv27 165 from up_row u57 (by decide) rfl, show FI56 166 = FIv27 166 from up_row u57 (by decide) rfl]; exact rl_wm_mono rl32 (by omega)
        have hI59 : g_I FI56 := gU_121_90 hI31 u57 (by have := (e55 : (x54).toInt = ((x39).toInt) - (1)); omega) (by have := (e55 : (x54).toInt = ((x39).toInt) - (1)); omega)
        refine hw_aloadn (aX12_meansReducedAll 13 rfl) rfl ?_
        refine hw_aloadn (aX12_meansReducedAll 14 rfl) rfl ?_
        refine hw_get (v := .int (x42)) (aX12_meansReducedAll 15 rfl) wf_RX12_683 (c121 hS) (s121 hS) (by decide) (congrArg Value.int (show FI56 121 101 = x42 from (up_k u57 (by decide) (h43)))) ?_
        refine hw_ic (v := (1 : Int32)) (aX12_meansReducedAll 16 rfl) (by decide) ?_
        refine xw_isub (aX12_meansReducedAll 17 rfl) ?_
        refine hw_tie (A := ((x42).toInt) - (1)) (i_sub rfl (by decide : (1 : Int32).toInt = 1) (by omega) (by omega)) (fun x60 e61 => ?_)
        refine hv_puti (aX12_meansReducedAll 18 rfl) wf_RX12_683 (c121 hS) (s121 hS) (by decide) rfl rfl (fun FI62 u63 => ?_)
        have rl64 : rl_wm (FI62 121 90) (FI62 165) (FI62 166) := by rw [show FI62 165 = FI56 165 from up_row u63 (by decide) rfl, show FI62 166 = FI56 166 from up_row u63 (by decide) rfl, show FI62 121 90 = FI56 121 90 from up_k u63 (by decide) rfl]; exact rl58
        have hI65 : g_I FI62 := gU_121_101 hI59 u63 (by have := (e61 : (x60).toInt = ((x42).toInt) - (1)); omega) (by have := (e61 : (x60).toInt = ((x42).toInt) - (1)); omega)
        refine hw_aloadn (aX12_meansReducedAll 19 rfl) rfl ?_
        refine hw_get (v := .ref (base + 175)) (aX12_meansReducedAll 20 rfl) wf_RX12_184 (c121 hS) (s121 hS) (by decide) (congrArg (fun r => va_rf (h_rf base r)) (r121_103 hF)) ?_
        refine hw_aloadn (aX12_meansReducedAll 21 rfl) rfl ?_
        refine hw_get (v := .int (x54)) (aX12_meansReducedAll 22 rfl) wf_RX12_556 (c121 hS) (s121 hS) (by decide) (congrArg Value.int (show FI62 121 90 = x54 from (up_k u63 (by decide) (up_eq u57)))) ?_
        obtain ⟨x66, h67⟩ : ∃ y, FI62 175 (x54).toNatClampNeg = y := ⟨_, rfl⟩
        have h67l := congrArg Int32.toInt h67
        have := i_rng x66
        refine hw_zald (v := x66) (aX12_meansReducedAll 23 rfl) (c175 hS) (s175 hS) (h_in e55 (by omega) (by omega)) (show FI62 175 (x54).toNatClampNeg = x66 from h67) ?_
        have b68 := gI_175 hI65 (i_lt (x := x54) e55 (by omega) (by omega)); rw [h67] at b68
        refine hw_ifne (tgt := 66) (aX12_meansReducedAll 24 rfl) (by decide) rfl (fun cd69 => ?_) (fun cd69 => ?_)
        · refine hw_aloadn (aX12_meansReducedAll 37 rfl) rfl ?_
          refine hw_aloadn (aX12_meansReducedAll 38 rfl) rfl ?_
          refine hw_get (v := .ref (base + 174)) (aX12_meansReducedAll 39 rfl) wf_RX12_181 (c121 hS) (s121 hS) (by decide) (congrArg (fun r => va_rf (h_rf base r)) (r121_102 hF)) ?_
          refine hw_aloadn (aX12_meansReducedAll 40 rfl) rfl ?_
          refine hw_get (v := .int (x54)) (aX12_meansReducedAll 41 rfl) wf_RX12_556 (c121 hS) (s121 hS) (by decide) (congrArg Value.int (show FI62 121 90 = x54 from (up_k u63 (by decide) (up_eq u57)))) ?_
          obtain ⟨x70, h71⟩ : ∃ y, FI62 174 (x54).toNatClampNeg = y := ⟨_, rfl⟩
          have h71l := congrArg Int32.toInt h71
          have := i_rng x70
          refine hw_zald (v := x70) (aX12_meansReducedAll 42 rfl) (c174 hS) (s174 hS) (h_in e55 (by omega) (by omega)) (show FI62 174 (x54).toNatClampNeg = x70 from h71) ?_
          have b72 := gI_174 hI65 (i_lt (x := x54) e55 (by omega) (by omega)); rw [h71] at b72
          refine hv_putz (aX12_meansReducedAll 43 rfl) wf_RX12_680 (c121 hS) (s121 hS) (by decide) rfl rfl (i_01 rfl (by omega) (by omega)) (fun FI73 u74 => ?_)
          have rl75 : rl_wm (FI73 121 90) (FI73 165) (FI73 166) := by rw [show FI73 165 = FI62 165 from up_row u74 (by decide) rfl, show FI73 166 = FI62 166 from up_row u74 (by decide) rfl, show FI73 121 90 = FI62 121 90 from up_k u74 (by decide) rfl]; exact rl64
          have hI76 : g_I FI73 := gU_121_104 hI65 u74 (by omega) (by omega)
          refine hw_aloadn (aX12_meansReducedAll 44 rfl) rfl ?_
          refine hw_ic (v := (1 : Int32)) (aX12_meansReducedAll 45 rfl) (by decide) ?_
          have := congrArg Int32.toInt (show FI73 121 90 = x54 from (up_k u74 (by decide) ((up_k u63 (by decide) (up_eq u57)))))
          have := congrArg Int32.toInt (show FI73 121 101 = x60 from (up_k u74 (by decide) (up_eq u63)))
          have := (e55 : (x54).toInt = ((x39).toInt) - (1))
          have := (e61 : (x60).toInt = ((x42).toInt) - (1))
          have hl81 : sk (FI73 166) (FI73 121 90).toInt.toNat = sk (FI 166) ((FIv27 121 90).toInt - 1).toNat := by rw [show FI73 166 = FI 166 from (up_row u74 (by decide) ((up_row u63 (by decide) ((up_row u57 (by decide) (rw37)))))), show (FI73 121 90).toInt.toNat = ((FIv27 121 90).toInt - 1).toNat by omega]
          refine hw_callV (Bs := [.int ((1 : Int32))]) (rest := []) (aX12_meansReducedAll 46 rfl) wc_RX12_715 (by decide) rfl wi_yX12_meansReduced wv_yX12_meansReduced (c121 hS) (s121 hS) rfl rfl rfl (Nat.le_of_ble_eq_true rfl) (Nat.le_of_ble_eq_true rfl) (n_meansReduced (d := d) hS hF hI76 ((1 : Int32)) (by have := ((by decide : (1 : Int32).toInt = 1) : ((1 : Int32)).toInt = 1); have := ((by decide : (1 : Int32).toInt = 1) : ((1 : Int32)).toInt = 1); omega) (by rw [hl81]; exact hms.2.2.2.1) (by rw [hl81]; exact hms.2.2.2.2.1) (by rw [hl81]; have := hms.2.2.2.2.2; have := gg2; omega) (show rl_wm (FI73 121 90) (FI73 165) (FI73 166) from rl75)) (fun v77 sv78 p79 => ?_)
          have := congrArg Int32.toInt (show FI73 121 90 = x54 from (up_k u74 (by decide) ((up_k u63 (by decide) (up_eq u57)))))
          have := (e55 : (x54).toInt = ((x39).toInt) - (1))
          have := congrArg Int32.toInt (show FI73 121 101 = x60 from (up_k u74 (by decide) (up_eq u63)))
          have := (e61 : (x60).toInt = ((x42).toInt) - (1))
          obtain ⟨rfl, FI81, FL82, rfl, hI83, f84, f85, t86, t87, u88, u89, rl90⟩ := p79
          obtain ⟨x91, h92⟩ : ∃ y, FI81 121 90 = y := ⟨_, rfl⟩
          have h92l := congrArg Int32.toInt h92
          have b93 := gI_121_90 hI83; rw [h92] at b93
          obtain ⟨x94, h95⟩ : ∃ y, FI81 121 101 = y := ⟨_, rfl⟩
          have h95l := congrArg Int32.toInt h95
          have b96 := gI_121_101 hI83; rw [h95] at b96
          show hw zk base _ _ _ _ _ [] _ _
          have hR := u88; rw [show ((1 : Int32)).toInt = (1 : Int) from by decide, hl81] at hR; have hV := u89; rw [hl81] at hV
          have := congrArg Int32.toInt (show FI81 121 101 = x94 from h95)
          refine xw_goto (tgt := 5) (aX12_meansReducedAll 47 rfl) (by decide) ?_
          exact hw_L (ih FI81 FL82 (gf_tr ex_rf (gf_f (gf_f (gf_f fr29 u57 (by decide)) u63 (by decide)) u74 (by decide)) f84 rfl rfl rfl) (gf_tr ex_rf fr30 f85 rfl rfl rfl) hI83 (show rl_wm (FI81 121 90) (FI81 165) (FI81 166) from rl90) (by have := congrArg Int32.toInt (show FI81 121 90 = x91 from h92); omega) (by have := congrArg Int32.toInt (show FI81 121 101 = x94 from h95); omega) (by have := congrArg Int32.toInt (show FI81 121 90 = x91 from h92); omega) (by have := congrArg Int32.toInt (show FI81 121 101 = x94 from h95); omega) (show au_all (sk (FI 166) ((FI81 121 90).toInt).toNat) = au_all (sk (FI 166) (FI 121 90).toInt.toNat) from (by have := congrArg Int32.toInt (show FI81 121 90 = x91 from h92); exact (by have hR2 := hR; rw [show FI73 166 = FI 166 from (up_row u74 (by decide) ((up_row u63 (by decide) ((up_row u57 (by decide) (rw37))))))] at hR2; rw [hR2, hms.1]; exact xi5_0))) (show (FI81 121 101).toInt - (au_vc (sk (FI 166) ((FI81 121 90).toInt).toNat) : Int) = (FI 121 101).toInt - (au_vc (sk (FI 166) (FI 121 90).toInt.toNat) : Int) from (by have := congrArg Int32.toInt (show FI81 121 101 = x94 from h95); have := congrArg Int32.toInt (show FI81 121 90 = x91 from h92); exact (by have h3 := hV; rw [show FI73 166 = FI 166 from (up_row u74 (by decide) ((up_row u63 (by decide) ((up_row u57 (by decide) (rw37))))))] at h3; have := hms.2.2.2.2.2; omega))) (show au_ok (sk (FI 166) ((FI81 121 90).toInt).toNat) from (by have := congrArg Int32.toInt (show FI81 121 90 = x91 from h92); exact (by have hR2 := hR; rw [show FI73 166 = FI 166 from (up_row u74 (by decide) ((up_row u63 (by decide) ((up_row u57 (by decide) (rw37))))))] at hR2; rw [hR2]; exact hms.2.1))) (show ∀ y r, (sk (FI 166) ((FI81 121 90).toInt).toNat) = y :: r → y < 1 from (by have := congrArg Int32.toInt (show FI81 121 90 = x91 from h92); exact (by have hR2 := hR; rw [show FI73 166 = FI 166 from (up_row u74 (by decide) ((up_row u63 (by decide) ((up_row u57 (by decide) (rw37))))))] at hR2; rw [hR2]; exact hms.2.2.1))) (show FI81 166 = FI 166 from (gf_row f84 (c166 hS) (s166 hS) rfl ((up_row u74 (by decide) ((up_row u63 (by decide) ((up_row u57 (by decide) (rw37))))))))) (by have := congrArg Int32.toInt (show FI81 121 90 = x91 from h92); omega)) ⟨rfl, trivial⟩
        · refine hw_aloadn (aX12_meansReducedAll 25 rfl) rfl ?_
          refine hw_get (v := .ref (base + 173)) (aX12_meansReducedAll 26 rfl) wf_RX12_178 (c121 hS) (s121 hS) (by decide) (congrArg (fun r => va_rf (h_rf base r)) (r121_100 hF)) ?_
          refine hw_aloadn (aX12_meansReducedAll 27 rfl) rfl ?_
          refine hw_get (v := .int (x60)) (aX12_meansReducedAll 28 rfl) wf_RX12_683 (c121 hS) (s121 hS) (by decide) (congrArg Value.int (show FI62 121 101 = x60 from up_eq u63)) ?_
          refine hw_ic (v := (1 : Int32)) (aX12_meansReducedAll 29 rfl) (by decide) ?_
          refine xw_isub (aX12_meansReducedAll 30 rfl) ?_
          refine hw_tie (A := (((x42).toInt) - (1)) - (1)) (i_sub e61 (by decide : (1 : Int32).toInt = 1) (by omega) (by omega)) (fun x97 e98 => ?_)
          refine hw_aloadn (aX12_meansReducedAll 31 rfl) rfl ?_
          refine hw_get (v := .ref (base + 173)) (aX12_meansReducedAll 32 rfl) wf_RX12_178 (c121 hS) (s121 hS) (by decide) (congrArg (fun r => va_rf (h_rf base r)) (r121_100 hF)) ?_
          refine hw_aloadn (aX12_meansReducedAll 33 rfl) rfl ?_
          refine hw_get (v := .int (x60)) (aX12_meansReducedAll 34 rfl) wf_RX12_683 (c121 hS) (s121 hS) (by decide) (congrArg Value.int (show FI62 121 101 = x60 from up_eq u63)) ?_
          obtain ⟨x99, h100⟩ : ∃ y, FLv28 173 (x60).toNatClampNeg = y := ⟨_, rfl⟩
          have h100l := congrArg Int64.toInt h100
          have := l_rng x99
          refine hw_lald (v := x99) (aX12_meansReducedAll 35 rfl) (c173 hS) (s173 hS) (h_in e61 (by omega) (by omega)) (show FLv28 173 (x60).toNatClampNeg = x99 from h100) ?_
          refine hv_last (k := (x97).toNatClampNeg) (aX12_meansReducedAll 36 rfl) (c173 hS) (s173 hS) (h_in e98 (by omega) (by omega)) rfl (fun FL101 u102 => ?_)
          refine hw_aloadn (aX12_meansReducedAll 37 rfl) rfl ?_
          refine hw_aloadn (aX12_meansReducedAll 38 rfl) rfl ?_
          refine hw_get (v := .ref (base + 174)) (aX12_meansReducedAll 39 rfl) wf_RX12_181 (c121 hS) (s121 hS) (by decide) (congrArg (fun r => va_rf (h_rf base r)) (r121_102 hF)) ?_
          refine hw_aloadn (aX12_meansReducedAll 40 rfl) rfl ?_
          refine hw_get (v := .int (x54)) (aX12_meansReducedAll 41 rfl) wf_RX12_556 (c121 hS) (s121 hS) (by decide) (congrArg Value.int (show FI62 121 90 = x54 from (up_k u63 (by decide) (up_eq u57)))) ?_
          obtain ⟨x103, h104⟩ : ∃ y, FI62 174 (x54).toNatClampNeg = y := ⟨_, rfl⟩
          have h104l := congrArg Int32.toInt h104
          have := i_rng x103
          refine hw_zald (v := x103) (aX12_meansReducedAll 42 rfl) (c174 hS) (s174 hS) (h_in e55 (by omega) (by omega)) (show FI62 174 (x54).toNatClampNeg = x103 from h104) ?_
          have b105 := gI_174 hI65 (i_lt (x := x54) e55 (by omega) (by omega)); rw [h104] at b105
          refine hv_putz (aX12_meansReducedAll 43 rfl) wf_RX12_680 (c121 hS) (s121 hS) (by decide) rfl rfl (i_01 rfl (by omega) (by omega)) (fun FI106 u107 => ?_)
          have rl108 : rl_wm (FI106 121 90) (FI106 165) (FI106 166) := by rw [show FI106 165 = FI62 165 from up_row u107 (by decide) rfl, show FI106 166 = FI62 166 from up_row u107 (by decide) rfl, show FI106 121 90 = FI62 121 90 from up_k u107 (by decide) rfl]; exact rl64
          have hI109 : g_I FI106 := gU_121_104 hI65 u107 (by omega) (by omega)
          refine hw_aloadn (aX12_meansReducedAll 44 rfl) rfl ?_
          refine hw_ic (v := (1 : Int32)) (aX12_meansReducedAll 45 rfl) (by decide) ?_
          have := congrArg Int32.toInt (show FI106 121 90 = x54 from (up_k u107 (by decide) ((up_k u63 (by decide) (up_eq u57)))))
          have := congrArg Int32.toInt (show FI106 121 101 = x60 from (up_k u107 (by decide) (up_eq u63)))
          have := (e55 : (x54).toInt = ((x39).toInt) - (1))
          have := (e61 : (x60).toInt = ((x42).toInt) - (1))
          have hl81 : sk (FI106 166) (FI106 121 90).toInt.toNat = sk (FI 166) ((FIv27 121 90).toInt - 1).toNat := by rw [show FI106 166 = FI 166 from (up_row u107 (by decide) ((up_row u63 (by decide) ((up_row u57 (by decide) (rw37)))))), show (FI106 121 90).toInt.toNat = ((FIv27 121 90).toInt - 1).toNat by omega]
          refine hw_callV (Bs := [.int ((1 : Int32))]) (rest := []) (aX12_meansReducedAll 46 rfl) wc_RX12_715 (by decide) rfl wi_yX12_meansReduced wv_yX12_meansReduced (c121 hS) (s121 hS) rfl rfl rfl (Nat.le_of_ble_eq_true rfl) (Nat.le_of_ble_eq_true rfl) (n_meansReduced (d := d) hS hF hI109 ((1 : Int32)) (by have := ((by decide : (1 : Int32).toInt = 1) : ((1 : Int32)).toInt = 1); have := ((by decide : (1 : Int32).toInt = 1) : ((1 : Int32)).toInt = 1); omega) (by rw [hl81]; exact hms.2.2.2.1) (by rw [hl81]; exact hms.2.2.2.2.1) (by rw [hl81]; have := hms.2.2.2.2.2; have := gg2; omega) (show rl_wm (FI106 121 90) (FI106 165) (FI106 166) from rl108)) (fun v110 sv111 p112 => ?_)
          have := congrArg Int32.toInt (show FI106 121 90 = x54 from (up_k u107 (by decide) ((up_k u63 (by decide) (up_eq u57)))))
          have := (e55 : (x54).toInt = ((x39).toInt) - (1))
          have := congrArg Int32.toInt (show FI106 121 101 = x60 from (up_k u107 (by decide) (up_eq u63)))
          have := (e61 : (x60).toInt = ((x42).toInt) - (1))
          obtain ⟨rfl, FI114, FL115, rfl, hI116, f117, f118, t119, t120, u121, u122, rl123⟩ := p112
          obtain ⟨x124, h125⟩ : ∃ y, FI114 121 90 = y := ⟨_, rfl⟩
          have h125l := congrArg Int32.toInt h125
          have b126 := gI_121_90 hI116; rw [h125] at b126
          obtain ⟨x127, h128⟩ : ∃ y, FI114 121 101 = y := ⟨_, rfl⟩
          have h128l := congrArg Int32.toInt h128
          have b129 := gI_121_101 hI116; rw [h128] at b129
          show hw zk base _ _ _ _ _ [] _ _
          have hR := u121; rw [show ((1 : Int32)).toInt = (1 : Int) from by decide, hl81] at hR; have hV := u122; rw [hl81] at hV
          have := congrArg Int32.toInt (show FI114 121 101 = x127 from h128)
          refine xw_goto (tgt := 5) (aX12_meansReducedAll 47 rfl) (by decide) ?_
          exact hw_L (ih FI114 FL115 (gf_tr ex_rf (gf_f (gf_f (gf_f fr29 u57 (by decide)) u63 (by decide)) u107 (by decide)) f117 rfl rfl rfl) (gf_tr ex_rf (gf_a fr30 u102 (by decide)) f118 rfl rfl rfl) hI116 (show rl_wm (FI114 121 90) (FI114 165) (FI114 166) from rl123) (by have := congrArg Int32.toInt (show FI114 121 90 = x124 from h125); omega) (by have := congrArg Int32.toInt (show FI114 121 101 = x127 from h128); omega) (by have := congrArg Int32.toInt (show FI114 121 90 = x124 from h125); omega) (by have := congrArg Int32.toInt (show FI114 121 101 = x127 from h128); omega) (show au_all (sk (FI 166) ((FI114 121 90).toInt).toNat) = au_all (sk (FI 166) (FI 121 90).toInt.toNat) from (by have := congrArg Int32.toInt (show FI114 121 90 = x124 from h125); exact (by have hR2 := hR; rw [show FI106 166 = FI 166 from (up_row u107 (by decide) ((up_row u63 (by decide) ((up_row u57 (by decide) (rw37))))))] at hR2; rw [hR2, hms.1]; exact xi5_0))) (show (FI114 121 101).toInt - (au_vc (sk (FI 166) ((FI114 121 90).toInt).toNat) : Int) = (FI 121 101).toInt - (au_vc (sk (FI 166) (FI 121 90).toInt.toNat) : Int) from (by have := congrArg Int32.toInt (show FI114 121 101 = x127 from h128); have := congrArg Int32.toInt (show FI114 121 90 = x124 from h125); exact (by have h3 := hV; rw [show FI106 166 = FI 166 from (up_row u107 (by decide) ((up_row u63 (by decide) ((up_row u57 (by decide) (rw37))))))] at h3; have := hms.2.2.2.2.2; omega))) (show au_ok (sk (FI 166) ((FI114 121 90).toInt).toNat) from (by have := congrArg Int32.toInt (show FI114 121 90 = x124 from h125); exact (by have hR2 := hR; rw [show FI106 166 = FI 166 from (up_row u107 (by decide) ((up_row u63 (by decide) ((up_row u57 (by decide) (rw37))))))] at hR2; rw [hR2]; exact hms.2.1))) (show ∀ y r, (sk (FI 166) ((FI114 121 90).toInt).toNat) = y :: r → y < 1 from (by have := congrArg Int32.toInt (show FI114 121 90 = x124 from h125); exact (by have hR2 := hR; rw [show FI106 166 = FI 166 from (up_row u107 (by decide) ((up_row u63 (by decide) ((up_row u57 (by decide) (rw37))))))] at hR2; rw [hR2]; exact hms.2.2.1))) (show FI114 166 = FI 166 from (gf_row f117 (c166 hS) (s166 hS) rfl ((up_row u107 (by decide) ((up_row u63 (by decide) ((up_row u57 (by decide) (rw37))))))))) (by have := congrArg Int32.toInt (show FI114 121 90 = x124 from h125); omega)) ⟨rfl, trivial⟩
  exact hw_L (lp38 (((x21).toInt : Int).toNat + 1) FI11 FL12 (gf_tr ex_rf gf_rf f14 rfl rfl rfl) (gf_tr ex_rf gf_rf f15 rfl rfl rfl) hI13 (show rl_wm (FI11 121 90) (FI11 165) (FI11 166) from rl20) (by have := congrArg Int32.toInt (show FI11 121 90 = x21 from h22); omega) (by have := congrArg Int32.toInt (show FI11 121 101 = x24 from h25); omega) (by have := congrArg Int32.toInt (show FI11 121 90 = x21 from h22); omega) (by have := congrArg Int32.toInt (show FI11 121 101 = x24 from h25); omega) (show au_all (sk (FI 166) ((FI11 121 90).toInt).toNat) = au_all (sk (FI 166) (FI 121 90).toInt.toNat) from (by have := congrArg Int32.toInt (show FI11 121 90 = x21 from h22); exact (by rw [hR]; exact hma.1))) (show (FI11 121 101).toInt - (au_vc (sk (FI 166) ((FI11 121 90).toInt).toNat) : Int) = (FI 121 101).toInt - (au_vc (sk (FI 166) (FI 121 90).toInt.toNat) : Int) from (by have := congrArg Int32.toInt (show FI11 121 101 = x24 from h25); have := congrArg Int32.toInt (show FI11 121 90 = x21 from h22); exact hV)) (show au_ok (sk (FI 166) ((FI11 121 90).toInt).toNat) from (by have := congrArg Int32.toInt (show FI11 121 90 = x21 from h22); exact (by rw [hR]; exact hma.2.1))) (show ∀ y r, (sk (FI 166) ((FI11 121 90).toInt).toNat) = y :: r → y < 1 from (by have := congrArg Int32.toInt (show FI11 121 90 = x21 from h22); exact (by rw [hR]; exact hma.2.2))) (show FI11 166 = FI 166 from (gf_row f14 (c166 hS) (s166 hS) rfl (rfl))) (by have := congrArg Int32.toInt (show FI11 121 90 = x21 from h22); omega)) ⟨rfl, trivial⟩
