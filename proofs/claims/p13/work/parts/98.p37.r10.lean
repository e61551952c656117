def nX12_reducedAll : Nat := 0xb1eeffa73602b6042a3902b62a0f00a0fd102f02b62a3602b6042a
theorem bX12_reducedAll : cX12_reducedAll.data.toList.map UInt8.toNat = x_un nX12_reducedAll 27 := by decide +kernel
def iX12_reducedAll : List (Nat × Jvm.ClassFile.Instr × Nat) := [(0, .aload_n 0, 1), (1, .iconst 1, 1), (2, .invokevirtual 566, 3), (5, .aload_n 0, 1), (6, .invokevirtual 559, 3), (9, .bipush (-3), 2), (11, .if_icmp .ne 15, 3), (14, .aload_n 0, 1), (15, .invokevirtual 569, 3), (18, .aload_n 0, 1), (19, .iconst 1, 1), (20, .invokevirtual 566, 3), (23, .goto (-18), 3), (26, .return_, 1)]
theorem dX12_reducedAll : x_il nX12_reducedAll 27 iX12_reducedAll = true := by decide +kernel
theorem aX12_reducedAll (k : Nat) {pc : Nat} {i : Jvm.ClassFile.Instr} {len : Nat} (hk : iX12_reducedAll[k]? = some (pc, i, len)) : x_at xMM 237 pc i len yX12_reducedAll 1 none := ⟨cX12_reducedAll, rfl, x_il_ok bX12_reducedAll dX12_reducedAll k hk⟩
set_option maxHeartbeats 4000000 in
set_option maxRecDepth 100000 in
theorem n_reducedAll {zk : xK} {base d n sl : Nat} {SH : Nat → Nat × Nat} {FI : Nat → Nat → Int32} {FL : Nat → Nat → Int64} {FR : Nat → Nat → Option Nat} (hS : h_S n SH) (hF : h_FR FR) (hI : g_I FI) (g0 : (FI 121 73).toInt + 4 * (FI 121 90).toInt ≤ 28000) (g1 : 0 ≤ (FI 121 71).toInt ∧ (FI 121 71).toInt ≤ 100) (gg0 : au_ok (sk (FI 166) (FI 121 90).toInt.toNat)) (gg1 : ∀ y r, (sk (FI 166) (FI 121 90).toInt.toNat) = y :: r → y ≠ 9) (rel_pm : rl_pm (FI 121 90) (FI 121 73) (FI 166) (FI 167) (FI 168)) : hw zk base (d + 3) none 237 0 [(0, .ref (base + 121))] [] (n, sl, SH, FI, FL, FR) (h_V (fun s => ∃ FI', s = (n, sl, SH, FI', FL, FR) ∧ g_I FI' ∧ g_fr n SH [(121, 71), (121, 73), (121, 90)] [154, 164] [] FI FI' ∧ ((FI' 121 90).toInt ≤ (FI 121 90).toInt) ∧ ((FI' 121 73).toInt + 4 * (FI' 121 90).toInt ≤ (FI 121 73).toInt + 4 * (FI 121 90).toInt) ∧ ((FI 121 73).toInt ≤ (FI' 121 73).toInt) ∧ ((FI' 121 71).toInt ≤ (FI 121 71).toInt) ∧ ((FI' 121 90).toInt - (FI 121 90).toInt ≤ (FI' 121 71).toInt - (FI 121 71).toInt) ∧ (sk (FI 166) (FI' 121 90).toInt.toNat = au_all (sk (FI 166) (FI 121 90).toInt.toNat)) ∧ ((FI' 121 71).toInt - (au_op (sk (FI 166) (FI' 121 90).toInt.toNat) : Int) = (FI 121 71).toInt - (au_op (sk (FI 166) (FI 121 90).toInt.toNat) : Int)) ∧ (rl_pm (FI' 121 90) (FI' 121 73) (FI' 166) (FI' 167) (FI' 168)))) := by
  obtain ⟨x1, h2⟩ : ∃ y, FI 121 73 = y := ⟨_, rfl⟩
  have h2l := congrArg Int32.toInt h2
  have b3 := gI_121_73 hI; rw [h2] at b3
  obtain ⟨x4, h5⟩ : ∃ y, FI 121 90 = y := ⟨_, rfl⟩
  have h5l := congrArg Int32.toInt h5
  have b6 := gI_121_90 hI; rw [h5] at b6
  obtain ⟨x7, h8⟩ : ∃ y, FI 121 71 = y := ⟨_, rfl⟩
  have h8l := congrArg Int32.toInt h8
  have := i_rng x7
  refine hw_aloadn (aX12_reducedAll 0 rfl) rfl ?_
  refine hw_ic (v := (1 : Int32)) (aX12_reducedAll 1 rfl) (by decide) ?_
  refine hw_callV (Bs := [.int ((1 : Int32))]) (rest := []) (aX12_reducedAll 2 rfl) wc_RX12_566 (by decide) rfl wi_yX12_reduced wv_yX12_reduced (c121 hS) (s121 hS) rfl rfl rfl (Nat.le_of_ble_eq_true rfl) (Nat.le_of_ble_eq_true rfl) (n_reduced (d := d + 1) hS hF hI ((1 : Int32)) (by have := congrArg Int32.toInt (show FI 121 73 = x1 from h2); have := congrArg Int32.toInt (show FI 121 90 = x4 from h5); omega) (by have := ((by decide : (1 : Int32).toInt = 1) : ((1 : Int32)).toInt = 1); have := ((by decide : (1 : Int32).toInt = 1) : ((1 : Int32)).toInt = 1); omega) (show rl_pm (FI 121 90) (FI 121 73) (FI 166) (FI 167) (FI 168) from rel_pm)) (fun v9 sv10 p11 => ?_)
  have := congrArg Int32.toInt (show FI 121 90 = x4 from h5)
  have := congrArg Int32.toInt (show FI 121 73 = x1 from h2)
  have := congrArg Int32.toInt (show FI 121 90 = x4 from h5)
  have := congrArg Int32.toInt (show FI 121 73 = x1 from h2)
  obtain ⟨rfl, FI13, rfl, hI14, f15, t16, t17, t18, u19, rl20⟩ := p11
  obtain ⟨x21, h22⟩ : ∃ y, FI13 121 90 = y := ⟨_, rfl⟩
  have h22l := congrArg Int32.toInt h22
  have b23 := gI_121_90 hI14; rw [h22] at b23
  obtain ⟨x24, h25⟩ : ∃ y, FI13 121 73 = y := ⟨_, rfl⟩
  have h25l := congrArg Int32.toInt h25
  have b26 := gI_121_73 hI14; rw [h25] at b26
  show hw zk base _ _ _ _ _ [] _ _
  have lp40 : ∀ (m : Nat) (FIv27 : Nat → Nat → Int32), (g_fr n SH [(121, 71), (121, 73), (121, 90)] [154, 164] [] FI FIv27) → (g_I FIv27) → (rl_pm (FIv27 121 90) (FIv27 121 73) (FIv27 166) (FIv27 167) (FIv27 168)) → (0 ≤ (FIv27 121 90).toInt ∧ (FIv27 121 90).toInt ≤ 256) → (-256 ≤ (FIv27 121 71).toInt ∧ (FIv27 121 71).toInt ≤ 200) → ((FIv27 121 90).toInt ≤ (FI 121 90).toInt) → ((FIv27 121 73).toInt + 4 * (FIv27 121 90).toInt ≤ (FI 121 73).toInt + 4 * (FI 121 90).toInt) → ((FI 121 73).toInt ≤ (FIv27 121 73).toInt) → ((FIv27 121 71).toInt ≤ (FI 121 71).toInt) → ((FIv27 121 90).toInt - (FI 121 90).toInt ≤ (FIv27 121 71).toInt - (FI 121 71).toInt) → (au_all (sk (FI 166) ((FIv27 121 90).toInt).toNat) = au_all (sk (FI 166) (FI 121 90).toInt.toNat)) → ((FIv27 121 71).toInt - (au_op (sk (FI 166) ((FIv27 121 90).toInt).toNat) : Int) = (FI 121 71).toInt - (au_op (sk (FI 166) (FI 121 90).toInt.toNat) : Int)) → (au_ok (sk (FI 166) ((FIv27 121 90).toInt).toNat)) → (∀ y r, sk (FI 166) ((FIv27 121 90).toInt).toNat = y :: r → y < 1) → (FIv27 166 = FI 166) → (FIv27 166 = FI13 166) → (FIv27 121 90).toInt < m → hw zk base (d + 3) none 237 5 [(0, .ref (base + 121))] [] (n, sl, SH, FIv27, FL, FR) (h_V (fun s => ∃ FI', s = (n, sl, SH, FI', FL, FR) ∧ g_I FI' ∧ g_fr n SH [(121, 71), (121, 73), (121, 90)] [154, 164] [] FI FI' ∧ ((FI' 121 90).toInt ≤ (FI 121 90).toInt) ∧ ((FI' 121 73).toInt + 4 * (FI' 121 90).toInt ≤ (FI 121 73).toInt + 4 * (FI 121 90).toInt) ∧ ((FI 121 73).toInt ≤ (FI' 121 73).toInt) ∧ ((FI' 121 71).toInt ≤ (FI 121 71).toInt) ∧ ((FI' 121 90).toInt - (FI 121 90).toInt ≤ (FI' 121 71).toInt - (FI 121 71).toInt) ∧ (sk (FI 166) (FI' 121 90).toInt.toNat = au_all (sk (FI 166) (FI 121 90).toInt.toNat)) ∧ ((FI' 121 71).toInt - (au_op (sk (FI 166) (FI' 121 90).toInt.toNat) : Int) = (FI 121 71).toInt - (au_op (sk (FI 166) (FI 121 90).toInt.toNat) : Int)) ∧ (rl_pm (FI' 121 90) (FI' 121 73) (FI' 166) (FI' 167) (FI' 168)))) := by
    intro m
    induction m with
    | zero => intro FIv27 fr28 hI29 rl30 iv31 iv32 iv33 iv34 iv35 iv36 iv37 xi5_0 xi5_1 xi5_2 xi5_3 rw38 rw39 hm; omega
    | succ m ih =>
      intro FIv27 fr28 hI29 rl30 iv31 iv32 iv33 iv34 iv35 iv36 iv37 xi5_0 xi5_1 xi5_2 xi5_3 rw38 rw39 hm
      obtain ⟨x41, h42⟩ : ∃ y, FIv27 121 90 = y := ⟨_, rfl⟩
      have h42l := congrArg Int32.toInt h42
      have b43 := gI_121_90 hI29; rw [h42] at b43
      obtain ⟨x44, h45⟩ : ∃ y, FIv27 121 71 = y := ⟨_, rfl⟩
      have h45l := congrArg Int32.toInt h45
      have := i_rng x44
      obtain ⟨x46, h47⟩ : ∃ y, FIv27 121 73 = y := ⟨_, rfl⟩
      have h47l := congrArg Int32.toInt h47
      have b48 := gI_121_73 hI29; rw [h47] at b48
      refine hw_aloadn (aX12_reducedAll 3 rfl) rfl ?_
      refine hw_callV (Bs := []) (rest := []) (aX12_reducedAll 4 rfl) wc_RX12_559 (by decide) rfl wi_yX12_tops wv_yX12_tops (c121 hS) (s121 hS) rfl rfl rfl (Nat.le_of_ble_eq_true rfl) (Nat.le_of_ble_eq_true rfl) (n_tops (d := d + 2) hS hF hI29 ) (fun v49 sv50 p51 => ?_)
      have := congrArg Int32.toInt (show FIv27 121 90 = x41 from h42)
      obtain ⟨r52, rfl, rfl, t54, u55, u56⟩ := p51
      have rg_r52 := i_rng r52
      show hw zk base _ _ _ _ _ [.int (r52)] _ _
      refine hw_bp (v := ((-3) : Int32)) (aX12_reducedAll 5 rfl) (by decide) ?_
      refine hw_icne (tgt := 26) (aX12_reducedAll 6 rfl) (by decide) rfl (by decide : ((-3) : Int32).toInt = (-3)) (fun cd57 => ?_) (fun cd57 => ?_)
      · refine xw_vret (aX12_reducedAll 13 rfl) rfl ?_
        exact ⟨rfl, FIv27, rfl, hI29, fr28, (by have := congrArg Int32.toInt (show FIv27 121 90 = x41 from h42); omega), (by have := congrArg Int32.toInt (show FIv27 121 73 = x46 from h47); have := congrArg Int32.toInt (show FIv27 121 90 = x41 from h42); omega), (by have := congrArg Int32.toInt (show FIv27 121 73 = x46 from h47); omega), (by have := congrArg Int32.toInt (show FIv27 121 71 = x44 from h45); omega), (by have := congrArg Int32.toInt (show FIv27 121 71 = x44 from h45); have := congrArg Int32.toInt (show FIv27 121 90 = x41 from h42); omega), (by have e := ra_e xi5_3 (fun y q e => by { rcases Int.lt_or_le 0 (FIv27 121 90).toInt with h0 | h0; { have hh := u55 (by omega); rw [show FIv27 166 = FI 166 from rw38, e] at hh; cases hh; omega }; { rw [show (FIv27 121 90).toInt.toNat = 0 by omega] at e; cases e } }); rw [← xi5_0, e]), (by have := xi5_1; omega), (show rl_pm (FIv27 121 90) (FIv27 121 73) (FIv27 166) (FIv27 167) (FIv27 168) from rl30)⟩
      · have hfq : (FIv27 166 ((FIv27 121 90).toInt - 1).toNat).toInt = -3 := by rw [u56 (by omega)]; omega
        refine hw_aloadn (aX12_reducedAll 7 rfl) rfl ?_
        refine hw_callV (Bs := []) (rest := []) (aX12_reducedAll 8 rfl) wc_RX12_569 (by decide) rfl wi_yX12_turned wv_yX12_turned (c121 hS) (s121 hS) rfl rfl rfl (Nat.le_of_ble_eq_true rfl) (Nat.le_of_ble_eq_true rfl) (n_turned (d := d) hS hF hI29 (by have := congrArg Int32.toInt (show FIv27 121 90 = x41 from h42); omega) (by have := congrArg Int32.toInt (show FIv27 121 73 = x46 from h47); omega) (by have := congrArg Int32.toInt (show FIv27 121 71 = x44 from h45); have := congrArg Int32.toInt (show FIv27 121 71 = x44 from h45); omega) (hfq) (show rl_pm (FIv27 121 90) (FIv27 121 73) (FIv27 166) (FIv27 167) (FIv27 168) from rl30)) (fun v58 sv59 p60 => ?_)
        have := congrArg Int32.toInt (show FIv27 121 90 = x41 from h42)
        have := congrArg Int32.toInt (show FIv27 121 71 = x44 from h45)
        have := congrArg Int32.toInt (show FIv27 121 73 = x46 from h47)
        obtain ⟨rfl, FI62, rfl, hI63, f64, t65, t66, t67, rl68⟩ := p60
        obtain ⟨x69, h70⟩ : ∃ y, FI62 121 90 = y := ⟨_, rfl⟩
        have h70l := congrArg Int32.toInt h70
        have b71 := gI_121_90 hI63; rw [h70] at b71
        obtain ⟨x72, h73⟩ : ∃ y, FI62 121 71 = y := ⟨_, rfl⟩
        have h73l := congrArg Int32.toInt h73
        have := i_rng x72
        obtain ⟨x74, h75⟩ : ∃ y, FI62 121 73 = y := ⟨_, rfl⟩
        have h75l := congrArg Int32.toInt h75
        have b76 := gI_121_73 hI63; rw [h75] at b76
        show hw zk base _ _ _ _ _ [] _ _
        refine hw_aloadn (aX12_reducedAll 9 rfl) rfl ?_
        refine hw_ic (v := (1 : Int32)) (aX12_reducedAll 10 rfl) (by decide) ?_
        refine hw_callV (Bs := [.int ((1 : Int32))]) (rest := []) (aX12_reducedAll 11 rfl) wc_RX12_566 (by decide) rfl wi_yX12_reduced wv_yX12_reduced (c121 hS) (s121 hS) rfl rfl rfl (Nat.le_of_ble_eq_true rfl) (Nat.le_of_ble_eq_true rfl) (n_reduced (d := d + 1) hS hF hI63 ((1 : Int32)) (by have := congrArg Int32.toInt (show FI62 121 73 = x74 from h75); have := congrArg Int32.toInt (show FI62 121 90 = x69 from h70); omega) (by have := ((by decide : (1 : Int32).toInt = 1) : ((1 : Int32)).toInt = 1); have := ((by decide : (1 : Int32).toInt = 1) : ((1 : Int32)).toInt = 1); omega) (show rl_pm (FI62 121 90) (FI62 121 73) (FI62 166) (FI62 167) (FI62 168) from rl68)) (fun v77 sv78 p79 => ?_)
        have := congrArg Int32.toInt (show FI62 121 90 = x69 from h70)
        have := congrArg Int32.toInt (show FI62 121 73 = x74 from h75)
        have := congrArg Int32.toInt (show FI62 121 90 = x69 from h70)
        have := congrArg Int32.toInt (show FI62 121 73 = x74 from h75)
        obtain ⟨rfl, FI81, rfl, hI82, f83, t84, t85, t86, u87, rl88⟩ := p79
        obtain ⟨x89, h90⟩ : ∃ y, FI81 121 90 = y := ⟨_, rfl⟩
        have h90l := congrArg Int32.toInt h90
        have b91 := gI_121_90 hI82; rw [h90] at b91
        obtain ⟨x92, h93⟩ : ∃ y, FI81 121 73 = y := ⟨_, rfl⟩
        have h93l := congrArg Int32.toInt h93
        have b94 := gI_121_73 hI82; rw [h93] at b94
        show hw zk base _ _ _ _ _ [] _ _
        refine xw_goto (tgt := 5) (aX12_reducedAll 12 rfl) (by decide) ?_
        exact hw_L (ih FI81 (gf_tr ex_rf (gf_tr ex_rf fr28 f64 rfl rfl rfl) f83 rfl rfl rfl) hI82 (show rl_pm (FI81 121 90) (FI81 121 73) (FI81 166) (FI81 167) (FI81 168) from rl88) (by have := congrArg Int32.toInt (show FI81 121 90 = x89 from h90); omega) (by have := congrArg Int32.toInt (show FI81 121 71 = x72 from (gf_at f83 (c121 hS) (s121 hS) rfl (h73))); omega) (by have := congrArg Int32.toInt (show FI81 121 90 = x89 from h90); omega) (by have := congrArg Int32.toInt (show FI81 121 73 = x92 from h93); have := congrArg Int32.toInt (show FI81 121 90 = x89 from h90); omega) (by have := congrArg Int32.toInt (show FI81 121 73 = x92 from h93); omega) (by have := congrArg Int32.toInt (show FI81 121 71 = x72 from (gf_at f83 (c121 hS) (s121 hS) rfl (h73))); omega) (by have := congrArg Int32.toInt (show FI81 121 71 = x72 from (gf_at f83 (c121 hS) (s121 hS) rfl (h73))); have := congrArg Int32.toInt (show FI81 121 90 = x89 from h90); omega) (show au_all (sk (FI 166) ((FI81 121 90).toInt).toNat) = au_all (sk (FI 166) (FI 121 90).toInt.toNat) from (by have := congrArg Int32.toInt (show FI81 121 90 = x89 from h90); exact (by have hh := u55 (by omega); rw [show FIv27 166 = FI 166 from rw38, show (r52).toInt = -3 by omega] at hh; have g0 := ra_s hh xi5_2; have H2 := u87; rw [show ((1 : Int32)).toInt = (1 : Int) from by decide, show FI62 166 = FI 166 from (gf_row f64 (c166 hS) (s166 hS) rfl (rw38))] at H2; rw [show (FI62 121 90).toInt.toNat = ((FIv27 121 90).toInt - 1).toNat by omega] at H2; have g := g0; rw [← H2] at g; rw [g.1]; exact xi5_0))) (show (FI81 121 71).toInt - (au_op (sk (FI 166) ((FI81 121 90).toInt).toNat) : Int) = (FI 121 71).toInt - (au_op (sk (FI 166) (FI 121 90).toInt.toNat) : Int) from (by have := congrArg Int32.toInt (show FI81 121 71 = x72 from (gf_at f83 (c121 hS) (s121 hS) rfl (h73))); have := congrArg Int32.toInt (show FI81 121 90 = x89 from h90); exact (by have hh := u55 (by omega); rw [show FIv27 166 = FI 166 from rw38, show (r52).toInt = -3 by omega] at hh; have g0 := ra_s hh xi5_2; have H2 := u87; rw [show ((1 : Int32)).toInt = (1 : Int) from by decide, show FI62 166 = FI 166 from (gf_row f64 (c166 hS) (s166 hS) rfl (rw38))] at H2; rw [show (FI62 121 90).toInt.toNat = ((FIv27 121 90).toInt - 1).toNat by omega] at H2; have g := g0; rw [← H2] at g; have := g.2.1; have := xi5_1; omega))) (show au_ok (sk (FI 166) ((FI81 121 90).toInt).toNat) from (by have := congrArg Int32.toInt (show FI81 121 90 = x89 from h90); exact (by have hh := u55 (by omega); rw [show FIv27 166 = FI 166 from rw38, show (r52).toInt = -3 by omega] at hh; have g0 := ra_s hh xi5_2; have H2 := u87; rw [show ((1 : Int32)).toInt = (1 : Int) from by decide, show FI62 166 = FI 166 from (gf_row f64 (c166 hS) (s166 hS) rfl (rw38))] at H2; rw [show (FI62 121 90).toInt.toNat = ((FIv27 121 90).toInt - 1).toNat by omega] at H2; have g := g0; rw [← H2] at g; exact g.2.2.1))) (show ∀ y r, sk (FI 166) ((FI81 121 90).toInt).toNat = y :: r → y < 1 from (by have := congrArg Int32.toInt (show FI81 121 90 = x89 from h90); exact (by have hh := u55 (by omega); rw [show FIv27 166 = FI 166 from rw38, show (r52).toInt = -3 by omega] at hh; have g0 := ra_s hh xi5_2; have H2 := u87; rw [show ((1 : Int32)).toInt = (1 : Int) from by decide, show FI62 166 = FI 166 from (gf_row f64 (c166 hS) (s166 hS) rfl (rw38))] at H2; rw [show (FI62 121 90).toInt.toNat = ((FIv27 121 90).toInt - 1).toNat by omega] at H2; have g := g0; rw [← H2] at g; exact g.2.2.2))) (show FI81 166 = FI 166 from (gf_row f83 (c166 hS) (s166 hS) rfl ((gf_row f64 (c166 hS) (s166 hS) rfl (rw38))))) (show FI81 166 = FI13 166 from (gf_row f83 (c166 hS) (s166 hS) rfl ((gf_row f64 (c166 hS) (s166 hS) rfl (rw39))))) (by have := congrArg Int32.toInt (show FI81 121 90 = x89 from h90); omega)) ⟨rfl, trivial⟩
  exact hw_L (lp40 (((x21).toInt : Int).toNat + 1) FI13 (gf_tr ex_rf gf_rf f15 rfl rfl rfl) hI14 (show rl_pm (FI13 121 90) (FI13 121 73) (FI13 166) (FI13 167) (FI13 168) from rl20) (by have := congrArg Int32.toInt (show FI13 121 90 = x21 from h22); omega) (by have := congrArg Int32.toInt (show FI13 121 71 = x7 from (gf_at f15 (c121 hS) (s121 hS) rfl (h8))); omega) (by have := congrArg Int32.toInt (show FI13 121 90 = x21 from h22); omega) (by have := congrArg Int32.toInt (show FI13 121 73 = x24 from h25); have := congrArg Int32.toInt (show FI13 121 90 = x21 from h22); omega) (by have := congrArg Int32.toInt (show FI13 121 73 = x24 from h25); omega) (by have := congrArg Int32.toInt (show FI13 121 71 = x7 from (gf_at f15 (c121 hS) (s121 hS) rfl (h8))); omega) (by have := congrArg Int32.toInt (show FI13 121 71 = x7 from (gf_at f15 (c121 hS) (s121 hS) rfl (h8))); have := congrArg Int32.toInt (show FI13 121 90 = x21 from h22); omega) (show au_all (sk (FI 166) ((FI13 121 90).toInt).toNat) = au_all (sk (FI 166) (FI 121 90).toInt.toNat) from (by have := congrArg Int32.toInt (show FI13 121 90 = x21 from h22); exact (by have g := ra_0 gg0 gg1; have H := u19; rw [show ((1 : Int32)).toInt = (1 : Int) from by decide] at H; rw [← H] at g; exact g.1))) (show (FI13 121 71).toInt - (au_op (sk (FI 166) ((FI13 121 90).toInt).toNat) : Int) = (FI 121 71).toInt - (au_op (sk (FI 166) (FI 121 90).toInt.toNat) : Int) from (by have := congrArg Int32.toInt (show FI13 121 71 = x7 from (gf_at f15 (c121 hS) (s121 hS) rfl (h8))); have := congrArg Int32.toInt (show FI13 121 90 = x21 from h22); exact (by have g := ra_0 gg0 gg1; have H := u19; rw [show ((1 : Int32)).toInt = (1 : Int) from by decide] at H; rw [← H] at g; have := g.2.1; omega))) (show au_ok (sk (FI 166) ((FI13 121 90).toInt).toNat) from (by have := congrArg Int32.toInt (show FI13 121 90 = x21 from h22); exact (by have g := ra_0 gg0 gg1; have H := u19; rw [show ((1 : Int32)).toInt = (1 : Int) from by decide] at H; rw [← H] at g; exact g.2.2.1))) (show ∀ y r, sk (FI 166) ((FI13 121 90).toInt).toNat = y :: r → y < 1 from (by have := congrArg Int32.toInt (show FI13 121 90 = x21 from h22); exact (by have g := ra_0 gg0 gg1; have H := u19; rw [show ((1 : Int32)).toInt = (1 : Int) from by decide] at H; rw [← H] at g; exact g.2.2.2))) (show FI13 166 = FI 166 from (gf_row f15 (c166 hS) (s166 hS) rfl (rfl))) (show FI13 166 = FI13 166 from rfl) (by have := congrArg Int32.toInt (show FI13 121 90 = x21 from h22); omega)) ⟨rfl, trivial⟩
