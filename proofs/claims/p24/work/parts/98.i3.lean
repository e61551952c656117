section
set_option maxHeartbeats 4000000 in
set_option maxRecDepth 100000 in
theorem k_width2 {sk : xK} {base d n sl : Nat} {SH : Nat → Nat × Nat} {FI : Nat → Nat → Int32} {FL : Nat → Nat → Int64} {FR : Nat → Nat → Option Nat} (hS : h_S n SH) (hF : h_FR FR) (hI : g_I FI) (hR : g_R n SH FR) (a1 : Nat) {z1 : Nat} (ha1l : a1 < n) (ha1s : SH a1 = (6, z1)) (ha1o : own a1) (g0 : 0 ≤ (FI 110 7).toInt ∧ (FI 110 7).toInt < (FI 111 4).toInt) (g1 : (FI 110 5).toInt = 0 ∨ (FI 110 8).toInt = 1) (g2 : (FI 110 7).toInt + 1 < (FI 111 4).toInt ∨ (FI 110 8).toInt ≤ 3) (gg0 : g_K FI) : hw sk base (d + 2) none 48 0 [(0, .ref (base + 110)), (1, .ref (base + a1))] [] (n, sl, SH, FI, FL, FR) (h_V (fun s => ∃ FI' FL', s = (n, sl, SH, FI', FL', FR) ∧ g_I FI' ∧ g_fr n (shd SH) [(110, 5), (110, 6), (110, 7), (110, 8)] [] [1006] FI FI' ∧ g_fr n (shd SH) [(110, 9)] [] [] FL FL' ∧ (0 ≤ (FI' 110 7).toInt ∧ (FI' 110 7).toInt < (FI 111 4).toInt) ∧ ((FI' 110 5).toInt = 0 ∨ (FI' 110 8).toInt = 1) ∧ ((FI' 110 7).toInt + 1 < (FI 111 4).toInt ∨ (FI' 110 8).toInt ≤ 3) ∧ ((FI 110 7).toInt ≤ (FI' 110 7).toInt) ∧ ((FI 110 5).toInt = 0 ∨ (FI' 110 5).toInt = (FI 110 5).toInt))) := by
  obtain ⟨x1, h2⟩ : ∃ y, FI 110 7 = y := ⟨_, rfl⟩
  have h2l := congrArg Int32.toInt h2
  have b3 := gI_110_7 hI; rw [h2] at b3
  obtain ⟨x4, h5⟩ : ∃ y, FI 111 4 = y := ⟨_, rfl⟩
  have h5l := congrArg Int32.toInt h5
  have b6 := gI_111_4 hI; rw [h5] at b6
  obtain ⟨x7, h8⟩ : ∃ y, FI 110 5 = y := ⟨_, rfl⟩
  have h8l := congrArg Int32.toInt h8
  have := i_rng x7
  obtain ⟨x9, h10⟩ : ∃ y, FI 110 8 = y := ⟨_, rfl⟩
  have h10l := congrArg Int32.toInt h10
  have := i_rng x9
  refine hw_aloadn (aX4_readWidth 0 rfl) rfl ?_
  refine hw_bp (v := (47 : Int32)) (aX4_readWidth 1 rfl) (by decide) ?_
  refine hw_callV (Bs := [.int ((47 : Int32))]) (rest := []) (aX4_readWidth 2 rfl) wc_RX4_83 (by decide) rfl wi_yX4_expect wv_yX4_expect (c110 hS) (s110 hS) rfl rfl rfl (Nat.le_of_ble_eq_true rfl) (Nat.le_of_ble_eq_true rfl) (k_expect2 (d := d) hS hF hI hR ((47 : Int32)) (by have := congrArg Int32.toInt (show FI 110 7 = x1 from h2); have := congrArg Int32.toInt (show FI 110 7 = x1 from h2); have := congrArg Int32.toInt (show FI 111 4 = x4 from h5); omega) (by have := congrArg Int32.toInt (show FI 110 5 = x7 from h8); have := congrArg Int32.toInt (show FI 110 8 = x9 from h10); omega) (by have := congrArg Int32.toInt (show FI 110 7 = x1 from h2); have := congrArg Int32.toInt (show FI 111 4 = x4 from h5); have := congrArg Int32.toInt (show FI 110 8 = x9 from h10); omega) (gK_mx (L := [(110, 5), (110, 6), (110, 7), (110, 8)]) (A := []) (T := [1006]) hS gg0 gf_rf (by decide))) (fun v11 sv12 p13 => ?_)
  have := congrArg Int32.toInt (show FI 111 4 = x4 from h5)
  have := congrArg Int32.toInt (show FI 111 4 = x4 from h5)
  have := congrArg Int32.toInt (show FI 110 7 = x1 from h2)
  have := congrArg Int32.toInt (show FI 110 5 = x7 from h8)
  have := congrArg Int32.toInt (show FI 110 5 = x7 from h8)
  obtain ⟨rfl, FI15, FL16, rfl, hI17, f18, f19, t22, t23, t24, t25, t26⟩ := p13
  obtain ⟨x29, h30⟩ : ∃ y, FI15 110 7 = y := ⟨_, rfl⟩
  have h30l := congrArg Int32.toInt h30
  have b31 := gI_110_7 hI17; rw [h30] at b31
  obtain ⟨x32, h33⟩ : ∃ y, FI15 110 5 = y := ⟨_, rfl⟩
  have h33l := congrArg Int32.toInt h33
  have := i_rng x32
  obtain ⟨x34, h35⟩ : ∃ y, FI15 110 8 = y := ⟨_, rfl⟩
  have h35l := congrArg Int32.toInt h35
  have := i_rng x34
  show hw sk base _ _ _ _ _ [] _ _
  refine hw_aloadn (aX4_readWidth 3 rfl) rfl ?_
  refine hw_get (v := .int (x34)) (aX4_readWidth 4 rfl) wf_RX4_51 (c110 hS) (s110 hS) (by decide) (congrArg Value.int (show FI15 110 8 = x34 from h35)) ?_
  refine hw_ic (v := (5 : Int32)) (aX4_readWidth 5 rfl) (by decide) ?_
  refine hw_icne (tgt := 30) (aX4_readWidth 6 rfl) (by decide) rfl (by decide : (5 : Int32).toInt = 5) (fun cd36 => ?_) (fun cd36 => ?_)
  · refine hw_aloadn (aX4_readWidth 15 rfl) rfl ?_
    refine hw_aloadn (aX4_readWidth 16 rfl) rfl ?_
    obtain ⟨x37, h38⟩ : ∃ y, FL16 110 9 = y := ⟨_, rfl⟩
    have h38l := congrArg Int64.toInt h38
    have := l_rng x37
    refine hw_get (v := .long (x37)) (aX4_readWidth 17 rfl) wf_RX4_62 (c110 hS) (s110 hS) (by decide) (congrArg Value.long (show FL16 110 9 = x37 from h38)) ?_
    refine xw_l2i (aX4_readWidth 18 rfl) ?_
    refine hw_ti (fun x39 => ?_)
    have b40 := i_rng x39
    refine hv_puti (aX4_readWidth 19 rfl) wf_RX4_140 ha1l ha1s (by decide) rfl rfl (fun FI41 u42 => ?_)
    have hI43 : g_I FI41 := gU_F hI17 u42 (g_hi (dyn_tag hS ha1s (by decide +kernel)))
    refine hw_aloadn (aX4_readWidth 20 rfl) rfl ?_
    refine hw_ic (v := (5 : Int32)) (aX4_readWidth 21 rfl) (by decide) ?_
    refine hw_callV (Bs := [.int ((5 : Int32))]) (rest := []) (aX4_readWidth 22 rfl) wc_RX4_83 (by decide) rfl wi_yX4_expect wv_yX4_expect (c110 hS) (s110 hS) rfl rfl rfl (Nat.le_of_ble_eq_true rfl) (Nat.le_of_ble_eq_true rfl) (k_expect2 (d := d) hS hF hI43 hR ((5 : Int32)) (by have := congrArg Int32.toInt (show FI41 110 7 = x29 from (up_c u42 (ne_tag (s110 hS) ha1s (by decide)) (h30))); have := congrArg Int32.toInt (show FI41 110 7 = x29 from (up_c u42 (ne_tag (s110 hS) ha1s (by decide)) (h30))); have := congrArg Int32.toInt (show FI41 111 4 = x4 from (up_c u42 (ne_tag (s111 hS) ha1s (by decide)) ((gf_at f18 (c111 hS) (shd_f (by decide) (s111 hS)) rfl (h5))))); omega) (by have := congrArg Int32.toInt (show FI41 110 5 = x32 from (up_c u42 (ne_tag (s110 hS) ha1s (by decide)) (h33))); have := congrArg Int32.toInt (show FI41 110 8 = x34 from (up_c u42 (ne_tag (s110 hS) ha1s (by decide)) (h35))); omega) (by have := congrArg Int32.toInt (show FI41 110 7 = x29 from (up_c u42 (ne_tag (s110 hS) ha1s (by decide)) (h30))); have := congrArg Int32.toInt (show FI41 111 4 = x4 from (up_c u42 (ne_tag (s111 hS) ha1s (by decide)) ((gf_at f18 (c111 hS) (shd_f (by decide) (s111 hS)) rfl (h5))))); have := congrArg Int32.toInt (show FI41 110 8 = x34 from (up_c u42 (ne_tag (s110 hS) ha1s (by decide)) (h35))); omega) (gK_mx (L := [(110, 5), (110, 6), (110, 7), (110, 8)]) (A := []) (T := [1006]) hS gg0 (gf_t (gf_tr ex_rf gf_rf f18 rfl rfl rfl) u42 (shd_d (dyn_tag hS ha1s (by decide +kernel)) ha1s) (by decide)) (by decide))) (fun v44 sv45 p46 => ?_)
    have := congrArg Int32.toInt (show FI41 111 4 = x4 from (up_c u42 (ne_tag (s111 hS) ha1s (by decide)) ((gf_at f18 (c111 hS) (shd_f (by decide) (s111 hS)) rfl (h5)))))
    have := congrArg Int32.toInt (show FI41 111 4 = x4 from (up_c u42 (ne_tag (s111 hS) ha1s (by decide)) ((gf_at f18 (c111 hS) (shd_f (by decide) (s111 hS)) rfl (h5)))))
    have := congrArg Int32.toInt (show FI41 110 7 = x29 from (up_c u42 (ne_tag (s110 hS) ha1s (by decide)) (h30)))
    have := congrArg Int32.toInt (show FI41 110 5 = x32 from (up_c u42 (ne_tag (s110 hS) ha1s (by decide)) (h33)))
    have := congrArg Int32.toInt (show FI41 110 5 = x32 from (up_c u42 (ne_tag (s110 hS) ha1s (by decide)) (h33)))
    obtain ⟨rfl, FI48, FL49, rfl, hI50, f51, f52, t55, t56, t57, t58, t59⟩ := p46
    clear t23 t24
    obtain ⟨x62, h63⟩ : ∃ y, FI48 110 7 = y := ⟨_, rfl⟩
    have h63l := congrArg Int32.toInt h63
    have b64 := gI_110_7 hI50; rw [h63] at b64
    obtain ⟨x65, h66⟩ : ∃ y, FI48 110 5 = y := ⟨_, rfl⟩
    have h66l := congrArg Int32.toInt h66
    have := i_rng x65
    obtain ⟨x67, h68⟩ : ∃ y, FI48 110 8 = y := ⟨_, rfl⟩
    have h68l := congrArg Int32.toInt h68
    have := i_rng x67
    show hw sk base _ _ _ _ _ [] _ _
    refine xw_vret (aX4_readWidth 23 rfl) rfl ?_
    exact ⟨rfl, FI48, FL49, rfl, hI50, (gf_tr ex_rf (gf_t (gf_tr ex_rf gf_rf f18 rfl rfl rfl) u42 (shd_d (dyn_tag hS ha1s (by decide +kernel)) ha1s) (by decide)) f51 rfl rfl rfl), (gf_tr ex_rf (gf_tr ex_rf gf_rf f19 rfl rfl rfl) f52 rfl rfl rfl), (by have := congrArg Int32.toInt (show FI48 110 7 = x62 from h63); omega), (by have := congrArg Int32.toInt (show FI48 110 5 = x65 from h66); have := congrArg Int32.toInt (show FI48 110 8 = x67 from h68); omega), (by have := congrArg Int32.toInt (show FI48 110 7 = x62 from h63); have := congrArg Int32.toInt (show FI48 110 8 = x67 from h68); omega), (by have := congrArg Int32.toInt (show FI48 110 7 = x62 from h63); omega), (by have := congrArg Int32.toInt (show FI48 110 5 = x65 from h66); omega)⟩
  · refine hw_aloadn (aX4_readWidth 7 rfl) rfl ?_
    obtain ⟨x69, h70⟩ : ∃ y, FL16 110 9 = y := ⟨_, rfl⟩
    have h70l := congrArg Int64.toInt h70
    have := l_rng x69
    refine hw_get (v := .long (x69)) (aX4_readWidth 8 rfl) wf_RX4_62 (c110 hS) (s110 hS) (by decide) (congrArg Value.long (show FL16 110 9 = x69 from h70)) ?_
    refine xw_ldc2 (aX4_readWidth 9 rfl) wk_RX4_138 ?_
    refine hw_lcle (tgt := 30) (aX4_readWidth 10 rfl) (aX4_readWidth 11 rfl) (by decide) rfl (by decide : (64 : Int64).toInt = 64) (fun cd71 => ?_) (fun cd71 => ?_)
    · refine hw_aloadn (aX4_readWidth 15 rfl) rfl ?_
      refine hw_aloadn (aX4_readWidth 16 rfl) rfl ?_
      refine hw_get (v := .long (x69)) (aX4_readWidth 17 rfl) wf_RX4_62 (c110 hS) (s110 hS) (by decide) (congrArg Value.long (show FL16 110 9 = x69 from h70)) ?_
      refine xw_l2i (aX4_readWidth 18 rfl) ?_
      refine hw_ti (fun x72 => ?_)
      have b73 := i_rng x72
      refine hv_puti (aX4_readWidth 19 rfl) wf_RX4_140 ha1l ha1s (by decide) rfl rfl (fun FI74 u75 => ?_)
      have hI76 : g_I FI74 := gU_F hI17 u75 (g_hi (dyn_tag hS ha1s (by decide +kernel)))
      refine hw_aloadn (aX4_readWidth 20 rfl) rfl ?_
      refine hw_ic (v := (5 : Int32)) (aX4_readWidth 21 rfl) (by decide) ?_
      refine hw_callV (Bs := [.int ((5 : Int32))]) (rest := []) (aX4_readWidth 22 rfl) wc_RX4_83 (by decide) rfl wi_yX4_expect wv_yX4_expect (c110 hS) (s110 hS) rfl rfl rfl (Nat.le_of_ble_eq_true rfl) (Nat.le_of_ble_eq_true rfl) (k_expect2 (d := d) hS hF hI76 hR ((5 : Int32)) (by have := congrArg Int32.toInt (show FI74 110 7 = x29 from (up_c u75 (ne_tag (s110 hS) ha1s (by decide)) (h30))); have := congrArg Int32.toInt (show FI74 110 7 = x29 from (up_c u75 (ne_tag (s110 hS) ha1s (by decide)) (h30))); have := congrArg Int32.toInt (show FI74 111 4 = x4 from (up_c u75 (ne_tag (s111 hS) ha1s (by decide)) ((gf_at f18 (c111 hS) (shd_f (by decide) (s111 hS)) rfl (h5))))); omega) (by have := congrArg Int32.toInt (show FI74 110 5 = x32 from (up_c u75 (ne_tag (s110 hS) ha1s (by decide)) (h33))); have := congrArg Int32.toInt (show FI74 110 8 = x34 from (up_c u75 (ne_tag (s110 hS) ha1s (by decide)) (h35))); omega) (by have := congrArg Int32.toInt (show FI74 110 7 = x29 from (up_c u75 (ne_tag (s110 hS) ha1s (by decide)) (h30))); have := congrArg Int32.toInt (show FI74 111 4 = x4 from (up_c u75 (ne_tag (s111 hS) ha1s (by decide)) ((gf_at f18 (c111 hS) (shd_f (by decide) (s111 hS)) rfl (h5))))); have := congrArg Int32.toInt (show FI74 110 8 = x34 from (up_c u75 (ne_tag (s110 hS) ha1s (by decide)) (h35))); omega) (gK_mx (L := [(110, 5), (110, 6), (110, 7), (110, 8)]) (A := []) (T := [1006]) hS gg0 (gf_t (gf_tr ex_rf gf_rf f18 rfl rfl rfl) u75 (shd_d (dyn_tag hS ha1s (by decide +kernel)) ha1s) (by decide)) (by decide))) (fun v77 sv78 p79 => ?_)
      have := congrArg Int32.toInt (show FI74 111 4 = x4 from (up_c u75 (ne_tag (s111 hS) ha1s (by decide)) ((gf_at f18 (c111 hS) (shd_f (by decide) (s111 hS)) rfl (h5)))))
      have := congrArg Int32.toInt (show FI74 111 4 = x4 from (up_c u75 (ne_tag (s111 hS) ha1s (by decide)) ((gf_at f18 (c111 hS) (shd_f (by decide) (s111 hS)) rfl (h5)))))
      have := congrArg Int32.toInt (show FI74 110 7 = x29 from (up_c u75 (ne_tag (s110 hS) ha1s (by decide)) (h30)))
      have := congrArg Int32.toInt (show FI74 110 5 = x32 from (up_c u75 (ne_tag (s110 hS) ha1s (by decide)) (h33)))
      have := congrArg Int32.toInt (show FI74 110 5 = x32 from (up_c u75 (ne_tag (s110 hS) ha1s (by decide)) (h33)))
      obtain ⟨rfl, FI81, FL82, rfl, hI83, f84, f85, t88, t89, t90, t91, t92⟩ := p79
      clear t23 t24
      obtain ⟨x95, h96⟩ : ∃ y, FI81 110 7 = y := ⟨_, rfl⟩
      have h96l := congrArg Int32.toInt h96
      have b97 := gI_110_7 hI83; rw [h96] at b97
      obtain ⟨x98, h99⟩ : ∃ y, FI81 110 5 = y := ⟨_, rfl⟩
      have h99l := congrArg Int32.toInt h99
      have := i_rng x98
      obtain ⟨x100, h101⟩ : ∃ y, FI81 110 8 = y := ⟨_, rfl⟩
      have h101l := congrArg Int32.toInt h101
      have := i_rng x100
      show hw sk base _ _ _ _ _ [] _ _
      refine xw_vret (aX4_readWidth 23 rfl) rfl ?_
      exact ⟨rfl, FI81, FL82, rfl, hI83, (gf_tr ex_rf (gf_t (gf_tr ex_rf gf_rf f18 rfl rfl rfl) u75 (shd_d (dyn_tag hS ha1s (by decide +kernel)) ha1s) (by decide)) f84 rfl rfl rfl), (gf_tr ex_rf (gf_tr ex_rf gf_rf f19 rfl rfl rfl) f85 rfl rfl rfl), (by have := congrArg Int32.toInt (show FI81 110 7 = x95 from h96); omega), (by have := congrArg Int32.toInt (show FI81 110 5 = x98 from h99); have := congrArg Int32.toInt (show FI81 110 8 = x100 from h101); omega), (by have := congrArg Int32.toInt (show FI81 110 7 = x95 from h96); have := congrArg Int32.toInt (show FI81 110 8 = x100 from h101); omega), (by have := congrArg Int32.toInt (show FI81 110 7 = x95 from h96); omega), (by have := congrArg Int32.toInt (show FI81 110 5 = x98 from h99); omega)⟩
    · refine hw_aloadn (aX4_readWidth 12 rfl) rfl ?_
      refine hw_ic (v := (3 : Int32)) (aX4_readWidth 13 rfl) (by decide) ?_
      refine hw_callV (Bs := [.int ((3 : Int32))]) (rest := []) (aX4_readWidth 14 rfl) wc_RX4_69 (by decide) rfl wi_yX4_refuse wv_yX4_refuse (c110 hS) (s110 hS) rfl rfl rfl (Nat.le_of_ble_eq_true rfl) (Nat.le_of_ble_eq_true rfl) (k_refuse2 (d := d + 1) hS hF hI17 hR ((3 : Int32)) (by have := congrArg Int32.toInt (show FI15 110 7 = x29 from h30); have := congrArg Int32.toInt (show FI15 110 7 = x29 from h30); have := congrArg Int32.toInt (show FI15 111 4 = x4 from (gf_at f18 (c111 hS) (shd_f (by decide) (s111 hS)) rfl (h5))); omega) (by have := congrArg Int32.toInt (show FI15 110 5 = x32 from h33); have := congrArg Int32.toInt (show FI15 110 8 = x34 from h35); omega) (by have := congrArg Int32.toInt (show FI15 110 7 = x29 from h30); have := congrArg Int32.toInt (show FI15 111 4 = x4 from (gf_at f18 (c111 hS) (shd_f (by decide) (s111 hS)) rfl (h5))); have := congrArg Int32.toInt (show FI15 110 8 = x34 from h35); omega) (by have := ((by decide : (3 : Int32).toInt = 3) : ((3 : Int32)).toInt = 3); have := ((by decide : (3 : Int32).toInt = 3) : ((3 : Int32)).toInt = 3); omega)) (fun v102 sv103 p104 => ?_)
      have := congrArg Int32.toInt (show FI15 110 5 = x32 from h33)
      have := congrArg Int32.toInt (show FI15 110 5 = x32 from h33)
      obtain ⟨rfl, FI106, rfl, hI107, f108, t111, t112⟩ := p104
      obtain ⟨x115, h116⟩ : ∃ y, FI106 110 5 = y := ⟨_, rfl⟩
      have h116l := congrArg Int32.toInt h116
      have := i_rng x115
      obtain ⟨x117, h118⟩ : ∃ y, FI106 110 8 = y := ⟨_, rfl⟩
      have h118l := congrArg Int32.toInt h118
      have := i_rng x117
      show hw sk base _ _ _ _ _ [] _ _
      refine hw_aloadn (aX4_readWidth 15 rfl) rfl ?_
      refine hw_aloadn (aX4_readWidth 16 rfl) rfl ?_
      refine hw_get (v := .long (x69)) (aX4_readWidth 17 rfl) wf_RX4_62 (c110 hS) (s110 hS) (by decide) (congrArg Value.long (show FL16 110 9 = x69 from h70)) ?_
      refine xw_l2i (aX4_readWidth 18 rfl) ?_
      refine hw_ti (fun x119 => ?_)
      have b120 := i_rng x119
      refine hv_puti (aX4_readWidth 19 rfl) wf_RX4_140 ha1l ha1s (by decide) rfl rfl (fun FI121 u122 => ?_)
      have hI123 : g_I FI121 := gU_F hI107 u122 (g_hi (dyn_tag hS ha1s (by decide +kernel)))
      refine hw_aloadn (aX4_readWidth 20 rfl) rfl ?_
      refine hw_ic (v := (5 : Int32)) (aX4_readWidth 21 rfl) (by decide) ?_
      refine hw_callV (Bs := [.int ((5 : Int32))]) (rest := []) (aX4_readWidth 22 rfl) wc_RX4_83 (by decide) rfl wi_yX4_expect wv_yX4_expect (c110 hS) (s110 hS) rfl rfl rfl (Nat.le_of_ble_eq_true rfl) (Nat.le_of_ble_eq_true rfl) (k_expect2 (d := d) hS hF hI123 hR ((5 : Int32)) (by have := congrArg Int32.toInt (show FI121 110 7 = x29 from (up_c u122 (ne_tag (s110 hS) ha1s (by decide)) ((gf_at f108 (c110 hS) (shd_f (by decide) (s110 hS)) rfl (h30))))); have := congrArg Int32.toInt (show FI121 110 7 = x29 from (up_c u122 (ne_tag (s110 hS) ha1s (by decide)) ((gf_at f108 (c110 hS) (shd_f (by decide) (s110 hS)) rfl (h30))))); have := congrArg Int32.toInt (show FI121 111 4 = x4 from (up_c u122 (ne_tag (s111 hS) ha1s (by decide)) ((gf_at f108 (c111 hS) (shd_f (by decide) (s111 hS)) rfl ((gf_at f18 (c111 hS) (shd_f (by decide) (s111 hS)) rfl (h5))))))); omega) (by have := congrArg Int32.toInt (show FI121 110 5 = x115 from (up_c u122 (ne_tag (s110 hS) ha1s (by decide)) (h116))); have := congrArg Int32.toInt (show FI121 110 8 = x117 from (up_c u122 (ne_tag (s110 hS) ha1s (by decide)) (h118))); omega) (by have := congrArg Int32.toInt (show FI121 110 7 = x29 from (up_c u122 (ne_tag (s110 hS) ha1s (by decide)) ((gf_at f108 (c110 hS) (shd_f (by decide) (s110 hS)) rfl (h30))))); have := congrArg Int32.toInt (show FI121 111 4 = x4 from (up_c u122 (ne_tag (s111 hS) ha1s (by decide)) ((gf_at f108 (c111 hS) (shd_f (by decide) (s111 hS)) rfl ((gf_at f18 (c111 hS) (shd_f (by decide) (s111 hS)) rfl (h5))))))); have := congrArg Int32.toInt (show FI121 110 8 = x117 from (up_c u122 (ne_tag (s110 hS) ha1s (by decide)) (h118))); omega) (gK_mx (L := [(110, 5), (110, 6), (110, 7), (110, 8)]) (A := []) (T := [1006]) hS gg0 (gf_t (gf_tr ex_rf (gf_tr ex_rf gf_rf f18 rfl rfl rfl) f108 rfl rfl rfl) u122 (shd_d (dyn_tag hS ha1s (by decide +kernel)) ha1s) (by decide)) (by decide))) (fun v124 sv125 p126 => ?_)
      have := congrArg Int32.toInt (show FI121 111 4 = x4 from (up_c u122 (ne_tag (s111 hS) ha1s (by decide)) ((gf_at f108 (c111 hS) (shd_f (by decide) (s111 hS)) rfl ((gf_at f18 (c111 hS) (shd_f (by decide) (s111 hS)) rfl (h5)))))))
      have := congrArg Int32.toInt (show FI121 111 4 = x4 from (up_c u122 (ne_tag (s111 hS) ha1s (by decide)) ((gf_at f108 (c111 hS) (shd_f (by decide) (s111 hS)) rfl ((gf_at f18 (c111 hS) (shd_f (by decide) (s111 hS)) rfl (h5)))))))
      have := congrArg Int32.toInt (show FI121 110 7 = x29 from (up_c u122 (ne_tag (s110 hS) ha1s (by decide)) ((gf_at f108 (c110 hS) (shd_f (by decide) (s110 hS)) rfl (h30)))))
      have := congrArg Int32.toInt (show FI121 110 5 = x115 from (up_c u122 (ne_tag (s110 hS) ha1s (by decide)) (h116)))
      have := congrArg Int32.toInt (show FI121 110 5 = x115 from (up_c u122 (ne_tag (s110 hS) ha1s (by decide)) (h116)))
      obtain ⟨rfl, FI128, FL129, rfl, hI130, f131, f132, t135, t136, t137, t138, t139⟩ := p126
      clear t23 t24
      obtain ⟨x142, h143⟩ : ∃ y, FI128 110 7 = y := ⟨_, rfl⟩
      have h143l := congrArg Int32.toInt h143
      have b144 := gI_110_7 hI130; rw [h143] at b144
      obtain ⟨x145, h146⟩ : ∃ y, FI128 110 5 = y := ⟨_, rfl⟩
      have h146l := congrArg Int32.toInt h146
      have := i_rng x145
      obtain ⟨x147, h148⟩ : ∃ y, FI128 110 8 = y := ⟨_, rfl⟩
      have h148l := congrArg Int32.toInt h148
      have := i_rng x147
      show hw sk base _ _ _ _ _ [] _ _
      refine xw_vret (aX4_readWidth 23 rfl) rfl ?_
      exact ⟨rfl, FI128, FL129, rfl, hI130, (gf_tr ex_rf (gf_t (gf_tr ex_rf (gf_tr ex_rf gf_rf f18 rfl rfl rfl) f108 rfl rfl rfl) u122 (shd_d (dyn_tag hS ha1s (by decide +kernel)) ha1s) (by decide)) f131 rfl rfl rfl), (gf_tr ex_rf (gf_tr ex_rf gf_rf f19 rfl rfl rfl) f132 rfl rfl rfl), (by have := congrArg Int32.toInt (show FI128 110 7 = x142 from h143); omega), (by have := congrArg Int32.toInt (show FI128 110 5 = x145 from h146); have := congrArg Int32.toInt (show FI128 110 8 = x147 from h148); omega), (by have := congrArg Int32.toInt (show FI128 110 7 = x142 from h143); have := congrArg Int32.toInt (show FI128 110 8 = x147 from h148); omega), (by have := congrArg Int32.toInt (show FI128 110 7 = x142 from h143); omega), (by have := congrArg Int32.toInt (show FI128 110 5 = x145 from h146); omega)⟩
def nX4_readLocation : Nat := 0xb02b2400b564042400b4592a5300b67d102ac2ffa70103847c00b62c2a4d8400b42c8400b57900b62a2c4500b606102a0900998000b83300b42a1300a008101d3000b62a3500a02c103300b42a3e00a308101d3e044d2b7c00b62b2a4c7900b62a3000b62ab07900b62a08009a7500b62a0a00a07b103300b42a
theorem bX4_readLocation : cX4_readLocation.data.toList.map UInt8.toNat = x_un nX4_readLocation 122 := by decide +kernel
def iX4_readLocation : List (Nat × Jvm.ClassFile.Instr × Nat) := [(0, .aload_n 0, 1), (1, .getfield 51, 3), (4, .bipush 123, 2), (6, .if_icmp .ne 10, 3), (9, .aload_n 0, 1), (10, .invokevirtual 117, 3), (13, .ifCond .ne 8, 3), (16, .aload_n 0, 1), (17, .invokevirtual 121, 3), (20, .areturn, 1), (21, .aload_n 0, 1), (22, .invokevirtual 48, 3), (25, .aload_n 0, 1), (26, .invokevirtual 121, 3), (29, .astore_n 1, 1), (30, .aload_n 0, 1), (31, .aload_n 1, 1), (32, .invokevirtual 124, 3), (35, .aload_n 1, 1), (36, .astore_n 2, 1), (37, .iconst 1, 1), (38, .istore_n 3, 1), (39, .iload_n 3, 1), (40, .bipush 8, 2), (42, .if_icmp .gt 62, 3), (45, .aload_n 0, 1), (46, .getfield 51, 3), (49, .bipush 44, 2), (51, .if_icmp .ne 53, 3), (54, .aload_n 0, 1), (55, .invokevirtual 48, 3), (58, .iload_n 3, 1), (59, .bipush 8, 2), (61, .if_icmp .ne 19, 3), (64, .aload_n 0, 1), (65, .getfield 51, 3), (68, .invokestatic 128, 3), (71, .ifCond .eq 9, 3), (74, .aload_n 0, 1), (75, .bipush 6, 2), (77, .invokevirtual 69, 3), (80, .aload_n 2, 1), (81, .aload_n 0, 1), (82, .invokevirtual 121, 3), (85, .putfield 132, 3), (88, .aload_n 2, 1), (89, .getfield 132, 3), (92, .astore_n 2, 1), (93, .aload_n 0, 1), (94, .aload_n 2, 1), (95, .invokevirtual 124, 3), (98, .iinc 3 1, 3), (101, .goto (-62), 3), (104, .aload_n 0, 1), (105, .bipush 125, 2), (107, .invokevirtual 83, 3), (110, .aload_n 0, 1), (111, .dup, 1), (112, .getfield 36, 3), (115, .iconst 1, 1), (116, .isub, 1), (117, .putfield 36, 3), (120, .aload_n 1, 1), (121, .areturn, 1)]
theorem dX4_readLocation : x_il nX4_readLocation 122 iX4_readLocation = true := by decide +kernel
theorem aX4_readLocation (k : Nat) {pc : Nat} {i : Jvm.ClassFile.Instr} {len : Nat} (hk : iX4_readLocation[k]? = some (pc, i, len)) : x_at xMM 47 pc i len yX4_readLocation 4 (some (.object "LocationDesk$Place")) := ⟨cX4_readLocation, rfl, x_il_ok bX4_readLocation dX4_readLocation k hk⟩
set_option maxHeartbeats 4000000 in
set_option maxRecDepth 100000 in
theorem k_readLocation {sk : xK} {base d n sl : Nat} {SH : Nat → Nat × Nat} {FI : Nat → Nat → Int32} {FL : Nat → Nat → Int64} {FR : Nat → Nat → Option Nat} (hS : h_S n SH) (hF : h_FR FR) (hI : g_I FI) (hR : g_R n SH FR) (gp : Nat → Nat) (gw : Nat → Nat) (gs : Nat → Nat) (g0 : 0 ≤ (FI 110 7).toInt ∧ (FI 110 7).toInt < (FI 111 4).toInt) (g1 : (FI 110 5).toInt = 0 ∨ (FI 110 8).toInt = 1) (g2 : (FI 110 7).toInt + 1 < (FI 111 4).toInt ∨ (FI 110 8).toInt ≤ 3) (g3 : (FI 110 5).toInt ≠ 0 ∨ (FI 110 4).toInt ≤ 12) (g4 : (FI 110 5).toInt ≠ 0 ∨ 0 ≤ (FI 110 4).toInt) (gg0 : g_T n SH FI FR gp gw gs) (gg1 : g_K FI) : hw sk base (d + 143) none 47 0 [(0, .ref (base + 110))] [] (n, sl, SH, FI, FL, FR) (h_A base (fun r s => ∃ n' sl' SH' FI' FL' FR', s = (n', sl', SH', FI', FL', FR') ∧ g_ex n SH n' SH' ∧ h_S n' SH' ∧ g_I FI' ∧ g_fr n (shd SH) [(110, 4), (110, 5), (110, 6), (110, 7), (110, 8)] [117] [1006] FI FI' ∧ g_fr n (shd SH) [(110, 9)] [] [] FL FL' ∧ g_fr n (shd SH) [] [] [] FR FR' ∧ h_FR FR' ∧ g_R n' SH' FR' ∧ (0 ≤ (FI' 110 7).toInt ∧ (FI' 110 7).toInt < (FI 111 4).toInt) ∧ ((FI' 110 5).toInt = 0 ∨ (FI' 110 8).toInt = 1) ∧ ((FI' 110 7).toInt + 1 < (FI 111 4).toInt ∨ (FI' 110 8).toInt ≤ 3) ∧ ((FI 110 7).toInt ≤ (FI' 110 7).toInt) ∧ ((FI 110 5).toInt = 0 ∨ (FI' 110 5).toInt = (FI 110 5).toInt) ∧ ((FI' 110 5).toInt ≠ 0 ∨ (FI' 110 4).toInt = (FI 110 4).toInt) ∧ ((n' : Int) ≤ n + 17 * ((FI' 110 7).toInt - (FI 110 7).toInt) + 9) ∧ ((sl' : Int) ≤ sl + 7 * ((n' : Int) - n) + ((FI' 110 7).toInt - (FI 110 7).toInt)) ∧ ((n : Int) ≤ n') ∧ (∃ gp2 gw2 gs2, g_T n' SH' FI' FR' gp2 gw2 gs2 ∧ (∀ c, c < n → gp2 c = gp c ∧ gw2 c = gw c ∧ gs2 c = gs c) ∧ True) ∧ (∀ q, r = some q → q < n' ∧ own q ∧ SH' q = (6, (SH' q).2)) ∧ r ≠ none ∧ (∀ q, r = some q → n ≤ q))) := by
  have hk0 : ∀ c, c < n → gp c = gp c ∧ gw c = gw c ∧ gs c = gs c := fun _ _ => ⟨rfl, rfl, rfl⟩
  obtain ⟨x1, h2⟩ : ∃ y, FI 110 7 = y := ⟨_, rfl⟩
  have h2l := congrArg Int32.toInt h2
  have b3 := gI_110_7 hI; rw [h2] at b3
  obtain ⟨x4, h5⟩ : ∃ y, FI 111 4 = y := ⟨_, rfl⟩
  have h5l := congrArg Int32.toInt h5
  have b6 := gI_111_4 hI; rw [h5] at b6
  obtain ⟨x7, h8⟩ : ∃ y, FI 110 5 = y := ⟨_, rfl⟩
  have h8l := congrArg Int32.toInt h8
  have := i_rng x7
  obtain ⟨x9, h10⟩ : ∃ y, FI 110 8 = y := ⟨_, rfl⟩
  have h10l := congrArg Int32.toInt h10
  have := i_rng x9
  obtain ⟨x11, h12⟩ : ∃ y, FI 110 4 = y := ⟨_, rfl⟩
  have h12l := congrArg Int32.toInt h12
  have := i_rng x11
  refine hw_aloadn (aX4_readLocation 0 rfl) rfl ?_
  refine hw_get (v := .int (x9)) (aX4_readLocation 1 rfl) wf_RX4_51 (c110 hS) (s110 hS) (by decide) (congrArg Value.int (show FI 110 8 = x9 from h10)) ?_
  refine hw_bp (v := (123 : Int32)) (aX4_readLocation 2 rfl) (by decide) ?_
  refine hw_icne (tgt := 16) (aX4_readLocation 3 rfl) (by decide) rfl (by decide : (123 : Int32).toInt = 123) (fun cd13 => ?_) (fun cd13 => ?_)
  · refine hw_aloadn (aX4_readLocation 7 rfl) rfl ?_
    refine hw_callV (Bs := []) (rest := []) (aX4_readLocation 8 rfl) wc_RX4_121 (by decide) rfl wi_yX4_readPlace wv_yX4_readPlace (c110 hS) (s110 hS) rfl rfl rfl (Nat.le_of_ble_eq_true rfl) (Nat.le_of_ble_eq_true rfl) (k_readPlace (d := d) hS hF hI hR (gp) (gw) (gs) (by have := congrArg Int32.toInt (show FI 110 7 = x1 from h2); have := congrArg Int32.toInt (show FI 110 7 = x1 from h2); have := congrArg Int32.toInt (show FI 111 4 = x4 from h5); omega) (by have := congrArg Int32.toInt (show FI 110 5 = x7 from h8); have := congrArg Int32.toInt (show FI 110 8 = x9 from h10); omega) (by have := congrArg Int32.toInt (show FI 110 7 = x1 from h2); have := congrArg Int32.toInt (show FI 111 4 = x4 from h5); have := congrArg Int32.toInt (show FI 110 8 = x9 from h10); omega) (by have := congrArg Int32.toInt (show FI 110 5 = x7 from h8); have := congrArg Int32.toInt (show FI 110 4 = x11 from h12); omega) (by have := congrArg Int32.toInt (show FI 110 5 = x7 from h8); have := congrArg Int32.toInt (show FI 110 4 = x11 from h12); omega) (gg0) (gK_mx (L := [(110, 4), (110, 5), (110, 6), (110, 7), (110, 8)]) (A := [117]) (T := [1006]) hS gg1 gf_rf (by decide))) (fun v14 sv15 p16 => ?_)
    have := congrArg Int32.toInt (show FI 111 4 = x4 from h5)
    have := congrArg Int32.toInt (show FI 111 4 = x4 from h5)
    have := congrArg Int32.toInt (show FI 110 7 = x1 from h2)
    have := congrArg Int32.toInt (show FI 110 5 = x7 from h8)
    have := congrArg Int32.toInt (show FI 110 5 = x7 from h8)
    have := congrArg Int32.toInt (show FI 110 4 = x11 from h12)
    have := congrArg Int32.toInt (show FI 110 7 = x1 from h2)
    have := congrArg Int32.toInt (show FI 110 7 = x1 from h2)
    obtain ⟨r17, rfl, n39, sl40, SH41, FI18, FL19, FR20, rfl, ex42, hS43, hI21, f22, f23, f24, hF25, hR26, t27, t28, t29, t30, t31, t32, t33, t34, t35, u36, ht37, nn38, hfr44⟩ := p16
    obtain ⟨gp45, gw46, gs47, hT48, hkp49, hq50⟩ := u36
    have hk51 : ∀ c, c < n → gp45 c = gp c ∧ gw46 c = gw c ∧ gs47 c = gs c := fun c hc => by obtain ⟨k1, k2, k3⟩ := hk0 c hc; obtain ⟨m1, m2, m3⟩ := hkp49 c (Nat.lt_of_lt_of_le hc (Nat.le_refl _)); exact ⟨m1.trans k1, m2.trans k2, m3.trans k3⟩
    obtain ⟨r52, rfl⟩ : ∃ q, r17 = some q := Option.ne_none_iff_exists'.mp nn38
    have fq53 := hfr44 r52 rfl
    have dq54 : 176 ≤ r52 := Nat.le_trans hS.1 fq53
    obtain ⟨lt56, ow57, sh58⟩ := ht37 r52 rfl
    obtain ⟨e59, e60, e61⟩ := hq50 r52 rfl
    obtain ⟨x62, h63⟩ : ∃ y, FI18 110 7 = y := ⟨_, rfl⟩
    have h63l := congrArg Int32.toInt h63
    have b64 := gI_110_7 hI21; rw [h63] at b64
    obtain ⟨x65, h66⟩ : ∃ y, FI18 110 5 = y := ⟨_, rfl⟩
    have h66l := congrArg Int32.toInt h66
    have := i_rng x65
    obtain ⟨x67, h68⟩ : ∃ y, FI18 110 8 = y := ⟨_, rfl⟩
    have h68l := congrArg Int32.toInt h68
    have := i_rng x67
    obtain ⟨x69, h70⟩ : ∃ y, FI18 110 4 = y := ⟨_, rfl⟩
    have h70l := congrArg Int32.toInt h70
    have := i_rng x69
    show hw sk base _ _ _ _ _ [.ref (base + r52)] _ _
    refine xw_aret (v := h_rf base (some (r52))) (aX4_readLocation 9 rfl) rfl (by first | exact Or.inl ⟨_, rfl⟩ | exact Or.inr ⟨_, rfl⟩) ?_
    exact ⟨some (r52), rfl, n39, sl40, SH41, FI18, FL19, FR20, rfl, ex42, hS43, hI21, (gf_tr ex_rf gf_rf f22 rfl rfl rfl), (gf_tr ex_rf gf_rf f23 rfl rfl rfl), (gf_tr ex_rf gf_rf f24 rfl rfl rfl), hF25, hR26, (by have := congrArg Int32.toInt (show FI18 110 7 = x62 from h63); omega), (by have := congrArg Int32.toInt (show FI18 110 5 = x65 from h66); have := congrArg Int32.toInt (show FI18 110 8 = x67 from h68); omega), (by have := congrArg Int32.toInt (show FI18 110 7 = x62 from h63); have := congrArg Int32.toInt (show FI18 110 8 = x67 from h68); omega), (by have := congrArg Int32.toInt (show FI18 110 7 = x62 from h63); omega), (by have := congrArg Int32.toInt (show FI18 110 5 = x65 from h66); omega), (by have := congrArg Int32.toInt (show FI18 110 4 = x69 from h70); have := congrArg Int32.toInt (show FI18 110 5 = x65 from h66); omega), (by have := congrArg Int32.toInt (show FI18 110 7 = x62 from h63); omega), (by have := congrArg Int32.toInt (show FI18 110 7 = x62 from h63); omega), (by omega), (by exact ⟨gp45, gw46, gs47, hT48, hk51, trivial⟩), ((fun r e => by cases e; exact ⟨lt56, ow57, by rw [sh58]⟩)), (by simp), (fun q e => by cases e; exact (Nat.le_trans (Nat.le_refl _) fq53))⟩
  · refine hw_aloadn (aX4_readLocation 4 rfl) rfl ?_
    refine hw_callV (Bs := []) (rest := []) (aX4_readLocation 5 rfl) wc_RX4_117 (by decide) rfl wi_yX4_raise wv_yX4_raise (c110 hS) (s110 hS) rfl rfl rfl (Nat.le_of_ble_eq_true rfl) (Nat.le_of_ble_eq_true rfl) (k_raise2 (d := d + 141) hS hF hI hR (by have := congrArg Int32.toInt (show FI 110 7 = x1 from h2); have := congrArg Int32.toInt (show FI 110 7 = x1 from h2); have := congrArg Int32.toInt (show FI 111 4 = x4 from h5); omega) (by have := congrArg Int32.toInt (show FI 110 5 = x7 from h8); have := congrArg Int32.toInt (show FI 110 8 = x9 from h10); omega) (by have := congrArg Int32.toInt (show FI 110 7 = x1 from h2); have := congrArg Int32.toInt (show FI 111 4 = x4 from h5); have := congrArg Int32.toInt (show FI 110 8 = x9 from h10); omega)) (fun v71 sv72 p73 => ?_)
    have := congrArg Int32.toInt (show FI 110 4 = x11 from h12)
    have := congrArg Int32.toInt (show FI 110 4 = x11 from h12)
    have := congrArg Int32.toInt (show FI 110 5 = x7 from h8)
    have := congrArg Int32.toInt (show FI 110 8 = x9 from h10)
    have := congrArg Int32.toInt (show FI 110 4 = x11 from h12)
    have := congrArg Int32.toInt (show FI 110 5 = x7 from h8)
    have := congrArg Int32.toInt (show FI 110 5 = x7 from h8)
    obtain ⟨r74, rfl, FI75, rfl, hI76, f77, t80, t81, t82, t83⟩ := p73
    have hT86 : g_T n SH FI75 FR gp gw gs := gT_mw (L := [(110, 4), (110, 5), (110, 6), (110, 8)]) (A := []) (T := []) (L2 := []) (A2 := []) (T2 := []) hS gg0 f77 gf_rf (by decide) (by decide)
    obtain ⟨x87, h88⟩ : ∃ y, FI75 110 4 = y := ⟨_, rfl⟩
    have h88l := congrArg Int32.toInt h88
    have := i_rng x87
    obtain ⟨x89, h90⟩ : ∃ y, FI75 110 5 = y := ⟨_, rfl⟩
    have h90l := congrArg Int32.toInt h90
    have := i_rng x89
    obtain ⟨x91, h92⟩ : ∃ y, FI75 110 8 = y := ⟨_, rfl⟩
    have h92l := congrArg Int32.toInt h92
    have := i_rng x91
    show hw sk base _ _ _ _ _ [.int (r74)] _ _
    refine hw_ifne (tgt := 21) (aX4_readLocation 6 rfl) (by decide) rfl (fun cd93 => ?_) (fun cd93 => ?_)
    · replace t80 := t80 (by omega)
      clear t81
      have : (x89).toInt = 0 := by omega
      refine hw_aloadn (aX4_readLocation 10 rfl) rfl ?_
      refine hw_callV (Bs := []) (rest := []) (aX4_readLocation 11 rfl) wc_RX4_48 (by decide) rfl wi_yX4_take wv_yX4_take (c110 hS) (s110 hS) rfl rfl rfl (Nat.le_of_ble_eq_true rfl) (Nat.le_of_ble_eq_true rfl) (k_take2 (d := d + 142) hS hF hI76 hR (by have := congrArg Int32.toInt (show FI75 110 7 = x1 from (gf_at f77 (c110 hS) (shd_f (by decide) (s110 hS)) rfl (h2))); have := congrArg Int32.toInt (show FI75 110 7 = x1 from (gf_at f77 (c110 hS) (shd_f (by decide) (s110 hS)) rfl (h2))); have := congrArg Int32.toInt (show FI75 111 4 = x4 from (gf_at f77 (c111 hS) (shd_f (by decide) (s111 hS)) rfl (h5))); omega) (by have := congrArg Int32.toInt (show FI75 110 5 = x89 from h90); have := congrArg Int32.toInt (show FI75 110 8 = x91 from h92); omega) (by have := congrArg Int32.toInt (show FI75 110 7 = x1 from (gf_at f77 (c110 hS) (shd_f (by decide) (s110 hS)) rfl (h2))); have := congrArg Int32.toInt (show FI75 111 4 = x4 from (gf_at f77 (c111 hS) (shd_f (by decide) (s111 hS)) rfl (h5))); have := congrArg Int32.toInt (show FI75 110 8 = x91 from h92); omega) (gK_mx (L := [(110, 4), (110, 5), (110, 6), (110, 7), (110, 8)]) (A := [117]) (T := [1006]) hS gg1 (gf_tr ex_rf gf_rf f77 rfl rfl rfl) (by decide))) (fun v94 sv95 p96 => ?_)
      have := congrArg Int32.toInt (show FI75 111 4 = x4 from (gf_at f77 (c111 hS) (shd_f (by decide) (s111 hS)) rfl (h5)))
      have := congrArg Int32.toInt (show FI75 111 4 = x4 from (gf_at f77 (c111 hS) (shd_f (by decide) (s111 hS)) rfl (h5)))
      have := congrArg Int32.toInt (show FI75 110 7 = x1 from (gf_at f77 (c110 hS) (shd_f (by decide) (s110 hS)) rfl (h2)))
      have := congrArg Int32.toInt (show FI75 110 5 = x89 from h90)
      have := congrArg Int32.toInt (show FI75 110 5 = x89 from h90)
      have := congrArg Int32.toInt (show FI75 110 5 = x89 from h90)
      have := congrArg Int32.toInt (show FI75 110 5 = x89 from h90)
      have := congrArg Int32.toInt (show FI75 110 7 = x1 from (gf_at f77 (c110 hS) (shd_f (by decide) (s110 hS)) rfl (h2)))
      have := congrArg Int32.toInt (show FI75 111 4 = x4 from (gf_at f77 (c111 hS) (shd_f (by decide) (s111 hS)) rfl (h5)))
      have := congrArg Int32.toInt (show FI75 110 7 = x1 from (gf_at f77 (c110 hS) (shd_f (by decide) (s110 hS)) rfl (h2)))
      have := congrArg Int32.toInt (show FI75 110 7 = x1 from (gf_at f77 (c110 hS) (shd_f (by decide) (s110 hS)) rfl (h2)))
      have := congrArg Int32.toInt (show FI75 110 5 = x89 from h90)
      have := congrArg Int32.toInt (show FI75 110 8 = x91 from h92)
      obtain ⟨rfl, FI98, FL99, rfl, hI100, f101, f102, t105, t106, t107, t108, t109, t110, t111, t112, t113⟩ := p96
      replace t111 := (t111.resolve_left (by omega)).resolve_left (by omega)
      clear t113
      have hT116 : g_T n SH FI98 FR gp gw gs := gT_mw (L := [(110, 7), (110, 8)]) (A := []) (T := []) (L2 := []) (A2 := []) (T2 := []) hS hT86 f101 gf_rf (by decide) (by decide)
      obtain ⟨x117, h118⟩ : ∃ y, FI98 110 7 = y := ⟨_, rfl⟩
      have h118l := congrArg Int32.toInt h118
      have b119 := gI_110_7 hI100; rw [h118] at b119
      obtain ⟨x120, h121⟩ : ∃ y, FI98 110 8 = y := ⟨_, rfl⟩
      have h121l := congrArg Int32.toInt h121
      have := i_rng x120
      show hw sk base _ _ _ _ _ [] _ _
      refine hw_aloadn (aX4_readLocation 12 rfl) rfl ?_
      refine hw_callV (Bs := []) (rest := []) (aX4_readLocation 13 rfl) wc_RX4_121 (by decide) rfl wi_yX4_readPlace wv_yX4_readPlace (c110 hS) (s110 hS) rfl rfl rfl (Nat.le_of_ble_eq_true rfl) (Nat.le_of_ble_eq_true rfl) (k_readPlace (d := d) hS hF hI100 hR (gp) (gw) (gs) (by have := congrArg Int32.toInt (show FI98 110 7 = x117 from h118); have := congrArg Int32.toInt (show FI98 110 7 = x117 from h118); have := congrArg Int32.toInt (show FI98 111 4 = x4 from (gf_at f101 (c111 hS) (shd_f (by decide) (s111 hS)) rfl ((gf_at f77 (c111 hS) (shd_f (by decide) (s111 hS)) rfl (h5))))); omega) (by have := congrArg Int32.toInt (show FI98 110 5 = x89 from (gf_at f101 (c110 hS) (shd_f (by decide) (s110 hS)) rfl (h90))); have := congrArg Int32.toInt (show FI98 110 8 = x120 from h121); omega) (by have := congrArg Int32.toInt (show FI98 110 7 = x117 from h118); have := congrArg Int32.toInt (show FI98 111 4 = x4 from (gf_at f101 (c111 hS) (shd_f (by decide) (s111 hS)) rfl ((gf_at f77 (c111 hS) (shd_f (by decide) (s111 hS)) rfl (h5))))); have := congrArg Int32.toInt (show FI98 110 8 = x120 from h121); omega) (by have := congrArg Int32.toInt (show FI98 110 5 = x89 from (gf_at f101 (c110 hS) (shd_f (by decide) (s110 hS)) rfl (h90))); have := congrArg Int32.toInt (show FI98 110 4 = x87 from (gf_at f101 (c110 hS) (shd_f (by decide) (s110 hS)) rfl (h88))); omega) (by have := congrArg Int32.toInt (show FI98 110 5 = x89 from (gf_at f101 (c110 hS) (shd_f (by decide) (s110 hS)) rfl (h90))); have := congrArg Int32.toInt (show FI98 110 4 = x87 from (gf_at f101 (c110 hS) (shd_f (by decide) (s110 hS)) rfl (h88))); omega) (hT116) (gK_mx (L := [(110, 4), (110, 5), (110, 6), (110, 7), (110, 8)]) (A := [117]) (T := [1006]) hS gg1 (gf_tr ex_rf (gf_tr ex_rf gf_rf f77 rfl rfl rfl) f101 rfl rfl rfl) (by decide))) (fun v122 sv123 p124 => ?_)
      have := congrArg Int32.toInt (show FI98 111 4 = x4 from (gf_at f101 (c111 hS) (shd_f (by decide) (s111 hS)) rfl ((gf_at f77 (c111 hS) (shd_f (by decide) (s111 hS)) rfl (h5)))))
      have := congrArg Int32.toInt (show FI98 111 4 = x4 from (gf_at f101 (c111 hS) (shd_f (by decide) (s111 hS)) rfl ((gf_at f77 (c111 hS) (shd_f (by decide) (s111 hS)) rfl (h5)))))
      have := congrArg Int32.toInt (show FI98 110 7 = x117 from h118)
      have := congrArg Int32.toInt (show FI98 110 5 = x89 from (gf_at f101 (c110 hS) (shd_f (by decide) (s110 hS)) rfl (h90)))
      have := congrArg Int32.toInt (show FI98 110 5 = x89 from (gf_at f101 (c110 hS) (shd_f (by decide) (s110 hS)) rfl (h90)))
      have := congrArg Int32.toInt (show FI98 110 4 = x87 from (gf_at f101 (c110 hS) (shd_f (by decide) (s110 hS)) rfl (h88)))
      have := congrArg Int32.toInt (show FI98 110 7 = x117 from h118)
      have := congrArg Int32.toInt (show FI98 110 7 = x117 from h118)
      obtain ⟨r125, rfl, n147, sl148, SH149, FI126, FL127, FR128, rfl, ex150, hS151, hI129, f130, f131, f132, hF133, hR134, t135, t136, t137, t138, t139, t140, t141, t142, t143, u144, ht145, nn146, hfr152⟩ := p124
      clear t106 t107
      obtain ⟨gp153, gw154, gs155, hT156, hkp157, hq158⟩ := u144
      have hk159 : ∀ c, c < n → gp153 c = gp c ∧ gw154 c = gw c ∧ gs155 c = gs c := fun c hc => by obtain ⟨k1, k2, k3⟩ := hk0 c hc; obtain ⟨m1, m2, m3⟩ := hkp157 c (Nat.lt_of_lt_of_le hc (Nat.le_refl _)); exact ⟨m1.trans k1, m2.trans k2, m3.trans k3⟩
      obtain ⟨r160, rfl⟩ : ∃ q, r125 = some q := Option.ne_none_iff_exists'.mp nn146
      have fq161 := hfr152 r160 rfl
      have dq162 : 176 ≤ r160 := Nat.le_trans hS.1 fq161
      obtain ⟨lt164, ow165, sh166⟩ := ht145 r160 rfl
      obtain ⟨e167, e168, e169⟩ := hq158 r160 rfl
      obtain ⟨x170, h171⟩ : ∃ y, FI126 110 7 = y := ⟨_, rfl⟩
      have h171l := congrArg Int32.toInt h171
      have b172 := gI_110_7 hI129; rw [h171] at b172
      obtain ⟨x173, h174⟩ : ∃ y, FI126 110 5 = y := ⟨_, rfl⟩
      have h174l := congrArg Int32.toInt h174
      have := i_rng x173
      obtain ⟨x175, h176⟩ : ∃ y, FI126 110 8 = y := ⟨_, rfl⟩
      have h176l := congrArg Int32.toInt h176
      have := i_rng x175
      obtain ⟨x177, h178⟩ : ∃ y, FI126 110 4 = y := ⟨_, rfl⟩
      have h178l := congrArg Int32.toInt h178
      have := i_rng x177
      show hw sk base _ _ _ _ _ [.ref (base + r160)] _ _
      refine hw_astoren (L2 := [(1, .ref (base + r160)), (0, .ref (base + 110))]) (aX4_readLocation 14 rfl) (by decide) rfl ?_
      refine hw_aloadn (aX4_readLocation 15 rfl) rfl ?_
      refine hw_aloadn (aX4_readLocation 16 rfl) rfl ?_
      refine hw_callV (Bs := [.ref (base + r160)]) (rest := []) (aX4_readLocation 17 rfl) wc_RX4_124 (by decide) rfl wi_yX4_readWidth wv_yX4_readWidth (c110 hS151) (s110 hS151) rfl rfl rfl (Nat.le_of_ble_eq_true rfl) (Nat.le_of_ble_eq_true rfl) (k_width2 (d := d + 140) hS151 hF133 hI129 hR134 (r160) lt164 sh166 ow165 (by have := congrArg Int32.toInt (show FI126 110 7 = x170 from h171); have := congrArg Int32.toInt (show FI126 110 7 = x170 from h171); have := congrArg Int32.toInt (show FI126 111 4 = x4 from (gf_at f130 (c111 hS) (shd_f (by decide) (s111 hS)) rfl ((gf_at f101 (c111 hS) (shd_f (by decide) (s111 hS)) rfl ((gf_at f77 (c111 hS) (shd_f (by decide) (s111 hS)) rfl (h5))))))); omega) (by have := congrArg Int32.toInt (show FI126 110 5 = x173 from h174); have := congrArg Int32.toInt (show FI126 110 8 = x175 from h176); omega) (by have := congrArg Int32.toInt (show FI126 110 7 = x170 from h171); have := congrArg Int32.toInt (show FI126 111 4 = x4 from (gf_at f130 (c111 hS) (shd_f (by decide) (s111 hS)) rfl ((gf_at f101 (c111 hS) (shd_f (by decide) (s111 hS)) rfl ((gf_at f77 (c111 hS) (shd_f (by decide) (s111 hS)) rfl (h5))))))); have := congrArg Int32.toInt (show FI126 110 8 = x175 from h176); omega) (gK_mx (L := [(110, 4), (110, 5), (110, 6), (110, 7), (110, 8)]) (A := [117]) (T := [1006]) hS gg1 (gf_tr ex_rf (gf_tr ex_rf (gf_tr ex_rf gf_rf f77 rfl rfl rfl) f101 rfl rfl rfl) f130 rfl rfl rfl) (by decide))) (fun v179 sv180 p181 => ?_)
      have := congrArg Int32.toInt (show FI126 111 4 = x4 from (gf_at f130 (c111 hS) (shd_f (by decide) (s111 hS)) rfl ((gf_at f101 (c111 hS) (shd_f (by decide) (s111 hS)) rfl ((gf_at f77 (c111 hS) (shd_f (by decide) (s111 hS)) rfl (h5)))))))
      have := congrArg Int32.toInt (show FI126 111 4 = x4 from (gf_at f130 (c111 hS) (shd_f (by decide) (s111 hS)) rfl ((gf_at f101 (c111 hS) (shd_f (by decide) (s111 hS)) rfl ((gf_at f77 (c111 hS) (shd_f (by decide) (s111 hS)) rfl (h5)))))))
      have := congrArg Int32.toInt (show FI126 110 7 = x170 from h171)
      have := congrArg Int32.toInt (show FI126 110 5 = x173 from h174)
      have := congrArg Int32.toInt (show FI126 110 5 = x173 from h174)
      obtain ⟨rfl, FI183, FL184, rfl, hI185, f186, f187, t190, t191, t192, t193, t194⟩ := p181
      clear t136 t137
      have hT197 : g_T n147 SH149 FI183 FR128 gp153 gw154 gs155 := gT_mw (L := [(110, 5), (110, 6), (110, 7), (110, 8)]) (A := []) (T := [1006]) (L2 := []) (A2 := []) (T2 := []) hS151 hT156 f186 gf_rf (by decide) (by decide)
      obtain ⟨x198, h199⟩ : ∃ y, FI183 110 7 = y := ⟨_, rfl⟩
      have h199l := congrArg Int32.toInt h199
      have b200 := gI_110_7 hI185; rw [h199] at b200
      obtain ⟨x201, h202⟩ : ∃ y, FI183 110 5 = y := ⟨_, rfl⟩
      have h202l := congrArg Int32.toInt h202
      have := i_rng x201
      obtain ⟨x203, h204⟩ : ∃ y, FI183 110 8 = y := ⟨_, rfl⟩
      have h204l := congrArg Int32.toInt h204
      have := i_rng x203
      show hw sk base _ _ _ _ _ [] _ _
      refine hw_aloadn (aX4_readLocation 18 rfl) rfl ?_
      refine hw_astoren (L2 := [(2, .ref (base + r160)), (1, .ref (base + r160)), (0, .ref (base + 110))]) (aX4_readLocation 19 rfl) (by decide) rfl ?_
      refine hw_ic (v := (1 : Int32)) (aX4_readLocation 20 rfl) (by decide) ?_
      refine xw_istoren (L2 := [(3, .int ((1 : Int32))), (2, .ref (base + r160)), (1, .ref (base + r160)), (0, .ref (base + 110))]) (aX4_readLocation 21 rfl) (by decide) rfl ?_
      have lp237 : ∀ (m : Nat) (y3 : Int32) (y2 : Option Nat) (FIv211 : Nat → Nat → Int32) (FLv212 : Nat → Nat → Int64) (FRv213 : Nat → Nat → Option Nat) (n205 sl206 : Nat) (SH207 : Nat → Nat × Nat) (gp214 gw215 gs216 : Nat → Nat), (g_ex n147 SH149 n205 SH207) → (h_S n205 SH207) → (g_T n205 SH207 FIv211 FRv213 gp214 gw215 gs216) → (∀ c, c < n → gp214 c = gp c ∧ gw215 c = gw c ∧ gs216 c = gs c) → (∀ q, y2 = some q → q < n205 ∧ own q ∧ SH207 q = (6, (SH207 q).2)) → (g_fr n (shd SH) [(110, 4), (110, 5), (110, 6), (110, 7), (110, 8)] [117] [1006] FI FIv211) → (g_fr n (shd SH) [(110, 9)] [] [] FL FLv212) → (g_fr n (shd SH) [] [] [] FR FRv213) → (g_I FIv211) → (h_FR FRv213) → (g_R n205 SH207 FRv213) → (FIv211 111 4 = x4) → (1 ≤ (y3).toInt ∧ (y3).toInt ≤ 9) → (0 ≤ (FIv211 110 7).toInt ∧ (FIv211 110 7).toInt < (FI 111 4).toInt) → ((FIv211 110 5).toInt = 0 ∨ (FIv211 110 8).toInt = 1) → ((FIv211 110 7).toInt + 1 < (FI 111 4).toInt ∨ (FIv211 110 8).toInt ≤ 3) → ((FI 110 7).toInt ≤ (FIv211 110 7).toInt) → ((FI 110 5).toInt = 0 ∨ (FIv211 110 5).toInt = (FI 110 5).toInt) → ((FIv211 110 5).toInt ≠ 0 ∨ ((FIv211 110 4).toInt = (FI 110 4).toInt + 1 ∧ (FI 110 4).toInt ≤ 11)) → ((FI 110 5).toInt = 0) → ((n205 : Int) ≤ n + 17 * ((FIv211 110 7).toInt - (FI 110 7).toInt) + 9) → ((sl206 : Int) ≤ sl + 7 * ((n205 : Int) - n) + ((FIv211 110 7).toInt - (FI 110 7).toInt)) → ((n : Int) ≤ n205) → (∀ m, (y2) = some m → n ≤ m ∧ FRv213 m 5 = none ∧ gs216 m + gw215 m + 220 * n ≤ 220 * n205) → ((y2) ≠ none) → 9 - (y3).toInt < m → hw sk base (d + 143) none 47 39 [(3, .int (y3)), (2, va_rf (h_rf base (y2))), (1, .ref (base + r160)), (0, .ref (base + 110))] [] (n205, sl206, SH207, FIv211, FLv212, FRv213) (h_A base (fun r s => ∃ n' sl' SH' FI' FL' FR', s = (n', sl', SH', FI', FL', FR') ∧ g_ex n SH n' SH' ∧ h_S n' SH' ∧ g_I FI' ∧ g_fr n (shd SH) [(110, 4), (110, 5), (110, 6), (110, 7), (110, 8)] [117] [1006] FI FI' ∧ g_fr n (shd SH) [(110, 9)] [] [] FL FL' ∧ g_fr n (shd SH) [] [] [] FR FR' ∧ h_FR FR' ∧ g_R n' SH' FR' ∧ (0 ≤ (FI' 110 7).toInt ∧ (FI' 110 7).toInt < (FI 111 4).toInt) ∧ ((FI' 110 5).toInt = 0 ∨ (FI' 110 8).toInt = 1) ∧ ((FI' 110 7).toInt + 1 < (FI 111 4).toInt ∨ (FI' 110 8).toInt ≤ 3) ∧ ((FI 110 7).toInt ≤ (FI' 110 7).toInt) ∧ ((FI 110 5).toInt = 0 ∨ (FI' 110 5).toInt = (FI 110 5).toInt) ∧ ((FI' 110 5).toInt ≠ 0 ∨ (FI' 110 4).toInt = (FI 110 4).toInt) ∧ ((n' : Int) ≤ n + 17 * ((FI' 110 7).toInt - (FI 110 7).toInt) + 9) ∧ ((sl' : Int) ≤ sl + 7 * ((n' : Int) - n) + ((FI' 110 7).toInt - (FI 110 7).toInt)) ∧ ((n : Int) ≤ n') ∧ (∃ gp2 gw2 gs2, g_T n' SH' FI' FR' gp2 gw2 gs2 ∧ (∀ c, c < n → gp2 c = gp c ∧ gw2 c = gw c ∧ gs2 c = gs c) ∧ True) ∧ (∀ q, r = some q → q < n' ∧ own q ∧ SH' q = (6, (SH' q).2)) ∧ r ≠ none ∧ (∀ q, r = some q → n ≤ q))) := by
        intro m
        induction m with
        | zero => intro y3 y2 FIv211 FLv212 FRv213 n205 sl206 SH207 gp214 gw215 gs216 ex208 hS209 hT217 hk218 ty210 fr219 fr220 fr221 hI222 hF223 hR224 kp225 iv226 iv227 iv228 iv229 iv230 iv231 iv232 iv233 iv234 iv235 iv236 xi39_0 xi39_1 hm; omega
        | succ m ih =>
          intro y3 y2 FIv211 FLv212 FRv213 n205 sl206 SH207 gp214 gw215 gs216 ex208 hS209 hT217 hk218 ty210 fr219 fr220 fr221 hI222 hF223 hR224 kp225 iv226 iv227 iv228 iv229 iv230 iv231 iv232 iv233 iv234 iv235 iv236 xi39_0 xi39_1 hm
          have rg_y3 := i_rng y3
          have := congrArg Int32.toInt kp225
          have lt238 := ex_lt ex208 lt164
          have sh239 := ex_sh ex208 lt164 sh166
          have ex240 := ex_tr ex150 ex208
          obtain ⟨x241, h242⟩ : ∃ y, FIv211 110 7 = y := ⟨_, rfl⟩
          have h242l := congrArg Int32.toInt h242
          have b243 := gI_110_7 hI222; rw [h242] at b243
          obtain ⟨x244, h245⟩ : ∃ y, FIv211 110 5 = y := ⟨_, rfl⟩
          have h245l := congrArg Int32.toInt h245
          have := i_rng x244
          obtain ⟨x246, h247⟩ : ∃ y, FIv211 110 8 = y := ⟨_, rfl⟩
          have h247l := congrArg Int32.toInt h247
          have := i_rng x246
          obtain ⟨x248, h249⟩ : ∃ y, FIv211 110 4 = y := ⟨_, rfl⟩
          have h249l := congrArg Int32.toInt h249
          have := i_rng x248
          refine xw_iloadn (aX4_readLocation 22 rfl) rfl ?_
          refine hw_bp (v := (8 : Int32)) (aX4_readLocation 23 rfl) (by decide) ?_
          refine hw_icgt (tgt := 104) (aX4_readLocation 24 rfl) (by decide) rfl (by decide : (8 : Int32).toInt = 8) (fun cd250 => ?_) (fun cd250 => ?_)
          · refine hw_aloadn (aX4_readLocation 53 rfl) rfl ?_
            refine hw_bp (v := (125 : Int32)) (aX4_readLocation 54 rfl) (by decide) ?_
            refine hw_callV (Bs := [.int ((125 : Int32))]) (rest := []) (aX4_readLocation 55 rfl) wc_RX4_83 (by decide) rfl wi_yX4_expect wv_yX4_expect (c110 hS209) (s110 hS209) rfl rfl rfl (Nat.le_of_ble_eq_true rfl) (Nat.le_of_ble_eq_true rfl) (k_expect2 (d := d + 141) hS209 hF223 hI222 hR224 ((125 : Int32)) (by have := congrArg Int32.toInt (show FIv211 110 7 = x241 from h242); have := congrArg Int32.toInt (show FIv211 110 7 = x241 from h242); have := congrArg Int32.toInt (show FIv211 111 4 = x4 from kp225); omega) (by have := congrArg Int32.toInt (show FIv211 110 5 = x244 from h245); have := congrArg Int32.toInt (show FIv211 110 8 = x246 from h247); omega) (by have := congrArg Int32.toInt (show FIv211 110 7 = x241 from h242); have := congrArg Int32.toInt (show FIv211 111 4 = x4 from kp225); have := congrArg Int32.toInt (show FIv211 110 8 = x246 from h247); omega) (gK_mx (L := [(110, 4), (110, 5), (110, 6), (110, 7), (110, 8)]) (A := [117]) (T := [1006]) hS gg1 fr219 (by decide))) (fun v251 sv252 p253 => ?_)
            have := congrArg Int32.toInt (show FIv211 111 4 = x4 from kp225)
            have := congrArg Int32.toInt (show FIv211 111 4 = x4 from kp225)
            have := congrArg Int32.toInt (show FIv211 110 7 = x241 from h242)
            have := congrArg Int32.toInt (show FIv211 110 5 = x244 from h245)
            have := congrArg Int32.toInt (show FIv211 110 5 = x244 from h245)
            obtain ⟨rfl, FI255, FL256, rfl, hI257, f258, f259, t262, t263, t264, t265, t266⟩ := p253
            clear t191 t192
            have hT269 : g_T n205 SH207 FI255 FRv213 gp214 gw215 gs216 := gT_mw (L := [(110, 5), (110, 6), (110, 7), (110, 8)]) (A := []) (T := []) (L2 := []) (A2 := []) (T2 := []) hS209 hT217 f258 gf_rf (by decide) (by decide)
            obtain ⟨x270, h271⟩ : ∃ y, FI255 110 7 = y := ⟨_, rfl⟩
            have h271l := congrArg Int32.toInt h271
            have b272 := gI_110_7 hI257; rw [h271] at b272
            obtain ⟨x273, h274⟩ : ∃ y, FI255 110 5 = y := ⟨_, rfl⟩
            have h274l := congrArg Int32.toInt h274
            have := i_rng x273
            obtain ⟨x275, h276⟩ : ∃ y, FI255 110 8 = y := ⟨_, rfl⟩
            have h276l := congrArg Int32.toInt h276
            have := i_rng x275
            show hw sk base _ _ _ _ _ [] _ _
            refine hw_aloadn (aX4_readLocation 56 rfl) rfl ?_
            refine xw_dup (aX4_readLocation 57 rfl) rfl ?_
            refine hw_get (v := .int (x248)) (aX4_readLocation 58 rfl) wf_RX4_36 (c110 hS209) (s110 hS209) (by decide) (congrArg Value.int (show FI255 110 4 = x248 from (gf_at f258 (c110 hS209) (shd_f (by decide) (s110 hS209)) rfl (h249)))) ?_
            refine hw_ic (v := (1 : Int32)) (aX4_readLocation 59 rfl) (by decide) ?_
            refine xw_isub (aX4_readLocation 60 rfl) ?_
            have := i_rng ((x248) - ((1 : Int32)))
            have : (x273).toInt ≠ 0 ∨ (((x248) - ((1 : Int32)))).toInt = (x248).toInt - 1 := by { by_cases h9 : (x273).toInt = 0; { right; exact i_sub (rfl : (x248).toInt = (x248).toInt) (by decide : (1 : Int32).toInt = 1) (by omega) (by omega) }; { left; exact h9 } }
            refine hv_puti (aX4_readLocation 61 rfl) wf_RX4_36 (c110 hS209) (s110 hS209) (by decide) rfl rfl (fun FI277 u278 => ?_)
            have hT279 : g_T n205 SH207 FI277 FRv213 gp214 gw215 gs216 := gT_wi hT269 (fun h => absurd h (by rw [(s110 hS209)]; decide)) u278
            have hI280 : g_I FI277 := gU_F hI257 u278 rfl
            refine hw_aloadn (aX4_readLocation 62 rfl) rfl ?_
            refine xw_aret (v := h_rf base (some (r160))) (aX4_readLocation 63 rfl) rfl (by first | exact Or.inl ⟨_, rfl⟩ | exact Or.inr ⟨_, rfl⟩) ?_
            exact ⟨some (r160), rfl, n205, sl206, SH207, FI277, FL256, FRv213, rfl, ex240, hS209, hI280, (gf_f (gf_tr (ex_shd ex240) fr219 f258 rfl rfl rfl) u278 (by decide)), (gf_tr (ex_shd ex240) fr220 f259 rfl rfl rfl), fr221, hF223, hR224, (by have := congrArg Int32.toInt (show FI277 110 7 = x270 from (up_k u278 (by decide) (h271))); omega), (by have := congrArg Int32.toInt (show FI277 110 5 = x273 from (up_k u278 (by decide) (h274))); have := congrArg Int32.toInt (show FI277 110 8 = x275 from (up_k u278 (by decide) (h276))); omega), (by have := congrArg Int32.toInt (show FI277 110 7 = x270 from (up_k u278 (by decide) (h271))); have := congrArg Int32.toInt (show FI277 110 8 = x275 from (up_k u278 (by decide) (h276))); omega), (by have := congrArg Int32.toInt (show FI277 110 7 = x270 from (up_k u278 (by decide) (h271))); omega), (by have := congrArg Int32.toInt (show FI277 110 5 = x273 from (up_k u278 (by decide) (h274))); omega), (by have := congrArg Int32.toInt (show FI277 110 4 = ((x248) - ((1 : Int32))) from up_eq u278); have := congrArg Int32.toInt (show FI277 110 5 = x273 from (up_k u278 (by decide) (h274))); omega), (by have := congrArg Int32.toInt (show FI277 110 7 = x270 from (up_k u278 (by decide) (h271))); omega), (by have := congrArg Int32.toInt (show FI277 110 7 = x270 from (up_k u278 (by decide) (h271))); omega), (by omega), (by exact ⟨gp214, gw215, gs216, hT279, hk218, trivial⟩), ((fun r e => by cases e; exact ⟨lt238, ow165, by rw [sh239]⟩)), (by simp), (fun q e => by cases e; exact (Nat.le_trans (Nat.le_refl _) fq161))⟩
          · refine hw_aloadn (aX4_readLocation 25 rfl) rfl ?_
            refine hw_get (v := .int (x246)) (aX4_readLocation 26 rfl) wf_RX4_51 (c110 hS209) (s110 hS209) (by decide) (congrArg Value.int (show FIv211 110 8 = x246 from h247)) ?_
            refine hw_bp (v := (44 : Int32)) (aX4_readLocation 27 rfl) (by decide) ?_
            refine hw_icne (tgt := 104) (aX4_readLocation 28 rfl) (by decide) rfl (by decide : (44 : Int32).toInt = 44) (fun cd281 => ?_) (fun cd281 => ?_)
            · refine hw_aloadn (aX4_readLocation 53 rfl) rfl ?_
              refine hw_bp (v := (125 : Int32)) (aX4_readLocation 54 rfl) (by decide) ?_
              refine hw_callV (Bs := [.int ((125 : Int32))]) (rest := []) (aX4_readLocation 55 rfl) wc_RX4_83 (by decide) rfl wi_yX4_expect wv_yX4_expect (c110 hS209) (s110 hS209) rfl rfl rfl (Nat.le_of_ble_eq_true rfl) (Nat.le_of_ble_eq_true rfl) (k_expect2 (d := d + 141) hS209 hF223 hI222 hR224 ((125 : Int32)) (by have := congrArg Int32.toInt (show FIv211 110 7 = x241 from h242); have := congrArg Int32.toInt (show FIv211 110 7 = x241 from h242); have := congrArg Int32.toInt (show FIv211 111 4 = x4 from kp225); omega) (by have := congrArg Int32.toInt (show FIv211 110 5 = x244 from h245); have := congrArg Int32.toInt (show FIv211 110 8 = x246 from h247); omega) (by have := congrArg Int32.toInt (show FIv211 110 7 = x241 from h242); have := congrArg Int32.toInt (show FIv211 111 4 = x4 from kp225); have := congrArg Int32.toInt (show FIv211 110 8 = x246 from h247); omega) (gK_mx (L := [(110, 4), (110, 5), (110, 6), (110, 7), (110, 8)]) (A := [117]) (T := [1006]) hS gg1 fr219 (by decide))) (fun v282 sv283 p284 => ?_)
              have := congrArg Int32.toInt (show FIv211 111 4 = x4 from kp225)
              have := congrArg Int32.toInt (show FIv211 111 4 = x4 from kp225)
              have := congrArg Int32.toInt (show FIv211 110 7 = x241 from h242)
              have := congrArg Int32.toInt (show FIv211 110 5 = x244 from h245)
              have := congrArg Int32.toInt (show FIv211 110 5 = x244 from h245)
              obtain ⟨rfl, FI286, FL287, rfl, hI288, f289, f290, t293, t294, t295, t296, t297⟩ := p284
              clear t191 t192
              have hT300 : g_T n205 SH207 FI286 FRv213 gp214 gw215 gs216 := gT_mw (L := [(110, 5), (110, 6), (110, 7), (110, 8)]) (A := []) (T := []) (L2 := []) (A2 := []) (T2 := []) hS209 hT217 f289 gf_rf (by decide) (by decide)
              obtain ⟨x301, h302⟩ : ∃ y, FI286 110 7 = y := ⟨_, rfl⟩
              have h302l := congrArg Int32.toInt h302
              have b303 := gI_110_7 hI288; rw [h302] at b303
              obtain ⟨x304, h305⟩ : ∃ y, FI286 110 5 = y := ⟨_, rfl⟩
              have h305l := congrArg Int32.toInt h305
              have := i_rng x304
              obtain ⟨x306, h307⟩ : ∃ y, FI286 110 8 = y := ⟨_, rfl⟩
              have h307l := congrArg Int32.toInt h307
              have := i_rng x306
              show hw sk base _ _ _ _ _ [] _ _
              refine hw_aloadn (aX4_readLocation 56 rfl) rfl ?_
              refine xw_dup (aX4_readLocation 57 rfl) rfl ?_
              refine hw_get (v := .int (x248)) (aX4_readLocation 58 rfl) wf_RX4_36 (c110 hS209) (s110 hS209) (by decide) (congrArg Value.int (show FI286 110 4 = x248 from (gf_at f289 (c110 hS209) (shd_f (by decide) (s110 hS209)) rfl (h249)))) ?_
              refine hw_ic (v := (1 : Int32)) (aX4_readLocation 59 rfl) (by decide) ?_
              refine xw_isub (aX4_readLocation 60 rfl) ?_
              have := i_rng ((x248) - ((1 : Int32)))
              have : (x304).toInt ≠ 0 ∨ (((x248) - ((1 : Int32)))).toInt = (x248).toInt - 1 := by { by_cases h9 : (x304).toInt = 0; { right; exact i_sub (rfl : (x248).toInt = (x248).toInt) (by decide : (1 : Int32).toInt = 1) (by omega) (by omega) }; { left; exact h9 } }
              refine hv_puti (aX4_readLocation 61 rfl) wf_RX4_36 (c110 hS209) (s110 hS209) (by decide) rfl rfl (fun FI308 u309 => ?_)
              have hT310 : g_T n205 SH207 FI308 FRv213 gp214 gw215 gs216 := gT_wi hT300 (fun h => absurd h (by rw [(s110 hS209)]; decide)) u309
              have hI311 : g_I FI308 := gU_F hI288 u309 rfl
              refine hw_aloadn (aX4_readLocation 62 rfl) rfl ?_
              refine xw_aret (v := h_rf base (some (r160))) (aX4_readLocation 63 rfl) rfl (by first | exact Or.inl ⟨_, rfl⟩ | exact Or.inr ⟨_, rfl⟩) ?_
              exact ⟨some (r160), rfl, n205, sl206, SH207, FI308, FL287, FRv213, rfl, ex240, hS209, hI311, (gf_f (gf_tr (ex_shd ex240) fr219 f289 rfl rfl rfl) u309 (by decide)), (gf_tr (ex_shd ex240) fr220 f290 rfl rfl rfl), fr221, hF223, hR224, (by have := congrArg Int32.toInt (show FI308 110 7 = x301 from (up_k u309 (by decide) (h302))); omega), (by have := congrArg Int32.toInt (show FI308 110 5 = x304 from (up_k u309 (by decide) (h305))); have := congrArg Int32.toInt (show FI308 110 8 = x306 from (up_k u309 (by decide) (h307))); omega), (by have := congrArg Int32.toInt (show FI308 110 7 = x301 from (up_k u309 (by decide) (h302))); have := congrArg Int32.toInt (show FI308 110 8 = x306 from (up_k u309 (by decide) (h307))); omega), (by have := congrArg Int32.toInt (show FI308 110 7 = x301 from (up_k u309 (by decide) (h302))); omega), (by have := congrArg Int32.toInt (show FI308 110 5 = x304 from (up_k u309 (by decide) (h305))); omega), (by have := congrArg Int32.toInt (show FI308 110 4 = ((x248) - ((1 : Int32))) from up_eq u309); have := congrArg Int32.toInt (show FI308 110 5 = x304 from (up_k u309 (by decide) (h305))); omega), (by have := congrArg Int32.toInt (show FI308 110 7 = x301 from (up_k u309 (by decide) (h302))); omega), (by have := congrArg Int32.toInt (show FI308 110 7 = x301 from (up_k u309 (by decide) (h302))); omega), (by omega), (by exact ⟨gp214, gw215, gs216, hT310, hk218, trivial⟩), ((fun r e => by cases e; exact ⟨lt238, ow165, by rw [sh239]⟩)), (by simp), (fun q e => by cases e; exact (Nat.le_trans (Nat.le_refl _) fq161))⟩
            · have : (x244).toInt = 0 := by omega
              obtain ⟨r312, rfl⟩ := Option.ne_none_iff_exists'.mp xi39_1
              obtain ⟨lt313, ow314, sh315⟩ := ty210 r312 rfl
              show hw sk base _ _ _ _ [(3, .int (y3)), (2, .ref (base + r312)), (1, .ref (base + r160)), (0, .ref (base + 110))] [] _ _
              obtain ⟨f316, f317, f318⟩ := xi39_0 r312 rfl
              clear xi39_0 xi39_1
              refine hw_aloadn (aX4_readLocation 29 rfl) rfl ?_
              refine hw_callV (Bs := []) (rest := []) (aX4_readLocation 30 rfl) wc_RX4_48 (by decide) rfl wi_yX4_take wv_yX4_take (c110 hS209) (s110 hS209) rfl rfl rfl (Nat.le_of_ble_eq_true rfl) (Nat.le_of_ble_eq_true rfl) (k_take2 (d := d + 142) hS209 hF223 hI222 hR224 (by have := congrArg Int32.toInt (show FIv211 110 7 = x241 from h242); have := congrArg Int32.toInt (show FIv211 110 7 = x241 from h242); have := congrArg Int32.toInt (show FIv211 111 4 = x4 from kp225); omega) (by have := congrArg Int32.toInt (show FIv211 110 5 = x244 from h245); have := congrArg Int32.toInt (show FIv211 110 8 = x246 from h247); omega) (by have := congrArg Int32.toInt (show FIv211 110 7 = x241 from h242); have := congrArg Int32.toInt (show FIv211 111 4 = x4 from kp225); have := congrArg Int32.toInt (show FIv211 110 8 = x246 from h247); omega) (gK_mx (L := [(110, 4), (110, 5), (110, 6), (110, 7), (110, 8)]) (A := [117]) (T := [1006]) hS gg1 fr219 (by decide))) (fun v319 sv320 p321 => ?_)
              have := congrArg Int32.toInt (show FIv211 111 4 = x4 from kp225)
              have := congrArg Int32.toInt (show FIv211 111 4 = x4 from kp225)
              have := congrArg Int32.toInt (show FIv211 110 7 = x241 from h242)
              have := congrArg Int32.toInt (show FIv211 110 5 = x244 from h245)
              have := congrArg Int32.toInt (show FIv211 110 5 = x244 from h245)
              have := congrArg Int32.toInt (show FIv211 110 5 = x244 from h245)
              have := congrArg Int32.toInt (show FIv211 110 5 = x244 from h245)
              have := congrArg Int32.toInt (show FIv211 110 7 = x241 from h242)
              have := congrArg Int32.toInt (show FIv211 111 4 = x4 from kp225)
              have := congrArg Int32.toInt (show FIv211 110 7 = x241 from h242)
              have := congrArg Int32.toInt (show FIv211 110 7 = x241 from h242)
              have := congrArg Int32.toInt (show FIv211 110 5 = x244 from h245)
              have := congrArg Int32.toInt (show FIv211 110 8 = x246 from h247)
              obtain ⟨rfl, FI323, FL324, rfl, hI325, f326, f327, t330, t331, t332, t333, t334, t335, t336, t337, t338⟩ := p321
              replace t336 := (t336.resolve_left (by omega)).resolve_left (by omega)
              clear t191 t192 t338
              have hT341 : g_T n205 SH207 FI323 FRv213 gp214 gw215 gs216 := gT_mw (L := [(110, 7), (110, 8)]) (A := []) (T := []) (L2 := []) (A2 := []) (T2 := []) hS209 hT217 f326 gf_rf (by decide) (by decide)
              obtain ⟨x342, h343⟩ : ∃ y, FI323 110 7 = y := ⟨_, rfl⟩
              have h343l := congrArg Int32.toInt h343
              have b344 := gI_110_7 hI325; rw [h343] at b344
              obtain ⟨x345, h346⟩ : ∃ y, FI323 110 8 = y := ⟨_, rfl⟩
              have h346l := congrArg Int32.toInt h346
              have := i_rng x345
              show hw sk base _ _ _ _ _ [] _ _
              refine xw_iloadn (aX4_readLocation 31 rfl) rfl ?_
              refine hw_bp (v := (8 : Int32)) (aX4_readLocation 32 rfl) (by decide) ?_
              refine hw_icne (tgt := 80) (aX4_readLocation 33 rfl) (by decide) rfl (by decide : (8 : Int32).toInt = 8) (fun cd347 => ?_) (fun cd347 => ?_)
              · refine hw_aloadn (aX4_readLocation 41 rfl) rfl ?_
                refine hw_aloadn (aX4_readLocation 42 rfl) rfl ?_
                refine hw_callV (Bs := []) (rest := [.ref (base + r312)]) (aX4_readLocation 43 rfl) wc_RX4_121 (by decide) rfl wi_yX4_readPlace wv_yX4_readPlace (c110 hS209) (s110 hS209) rfl rfl rfl (Nat.le_of_ble_eq_true rfl) (Nat.le_of_ble_eq_true rfl) (k_readPlace (d := d) hS209 hF223 hI325 hR224 (gp214) (gw215) (gs216) (by have := congrArg Int32.toInt (show FI323 110 7 = x342 from h343); have := congrArg Int32.toInt (show FI323 110 7 = x342 from h343); have := congrArg Int32.toInt (show FI323 111 4 = x4 from (gf_at f326 (c111 hS209) (shd_f (by decide) (s111 hS209)) rfl (kp225))); omega) (by have := congrArg Int32.toInt (show FI323 110 5 = x244 from (gf_at f326 (c110 hS209) (shd_f (by decide) (s110 hS209)) rfl (h245))); have := congrArg Int32.toInt (show FI323 110 8 = x345 from h346); omega) (by have := congrArg Int32.toInt (show FI323 110 7 = x342 from h343); have := congrArg Int32.toInt (show FI323 111 4 = x4 from (gf_at f326 (c111 hS209) (shd_f (by decide) (s111 hS209)) rfl (kp225))); have := congrArg Int32.toInt (show FI323 110 8 = x345 from h346); omega) (by have := congrArg Int32.toInt (show FI323 110 5 = x244 from (gf_at f326 (c110 hS209) (shd_f (by decide) (s110 hS209)) rfl (h245))); have := congrArg Int32.toInt (show FI323 110 4 = x248 from (gf_at f326 (c110 hS209) (shd_f (by decide) (s110 hS209)) rfl (h249))); omega) (by have := congrArg Int32.toInt (show FI323 110 5 = x244 from (gf_at f326 (c110 hS209) (shd_f (by decide) (s110 hS209)) rfl (h245))); have := congrArg Int32.toInt (show FI323 110 4 = x248 from (gf_at f326 (c110 hS209) (shd_f (by decide) (s110 hS209)) rfl (h249))); omega) (hT341) (gK_mx (L := [(110, 4), (110, 5), (110, 6), (110, 7), (110, 8)]) (A := [117]) (T := [1006]) hS gg1 (gf_tr (ex_shd ex240) fr219 f326 rfl rfl rfl) (by decide))) (fun v348 sv349 p350 => ?_)
                have := congrArg Int32.toInt (show FI323 111 4 = x4 from (gf_at f326 (c111 hS209) (shd_f (by decide) (s111 hS209)) rfl (kp225)))
                have := congrArg Int32.toInt (show FI323 111 4 = x4 from (gf_at f326 (c111 hS209) (shd_f (by decide) (s111 hS209)) rfl (kp225)))
                have := congrArg Int32.toInt (show FI323 110 7 = x342 from h343)
                have := congrArg Int32.toInt (show FI323 110 5 = x244 from (gf_at f326 (c110 hS209) (shd_f (by decide) (s110 hS209)) rfl (h245)))
                have := congrArg Int32.toInt (show FI323 110 5 = x244 from (gf_at f326 (c110 hS209) (shd_f (by decide) (s110 hS209)) rfl (h245)))
                have := congrArg Int32.toInt (show FI323 110 4 = x248 from (gf_at f326 (c110 hS209) (shd_f (by decide) (s110 hS209)) rfl (h249)))
                have := congrArg Int32.toInt (show FI323 110 7 = x342 from h343)
                have := congrArg Int32.toInt (show FI323 110 7 = x342 from h343)
                obtain ⟨r351, rfl, n373, sl374, SH375, FI352, FL353, FR354, rfl, ex376, hS377, hI355, f356, f357, f358, hF359, hR360, t361, t362, t363, t364, t365, t366, t367, t368, t369, u370, ht371, nn372, hfr378⟩ := p350
                clear t331 t332
                obtain ⟨gp379, gw380, gs381, hT382, hkp383, hq384⟩ := u370
                obtain ⟨e385, e386, e387⟩ := hkp383 r160 lt238
                obtain ⟨e388, e389, e390⟩ := hkp383 r312 lt313
                have hk391 : ∀ c, c < n → gp379 c = gp c ∧ gw380 c = gw c ∧ gs381 c = gs c := fun c hc => by obtain ⟨k1, k2, k3⟩ := hk218 c hc; obtain ⟨m1, m2, m3⟩ := hkp383 c (Nat.lt_of_lt_of_le hc (ex240).1); exact ⟨m1.trans k1, m2.trans k2, m3.trans k3⟩
                have lt392 := ex_lt ex376 lt238
                have sh393 := ex_sh ex376 lt238 sh239
                have lt394 := ex_lt ex376 lt313
                have sh395 := ex_sh ex376 lt313 sh315
                have ex396 := ex_tr ex208 ex376
                have ex397 := ex_tr ex240 ex376
                obtain ⟨r398, rfl⟩ : ∃ q, r351 = some q := Option.ne_none_iff_exists'.mp nn372
                have fq399 := hfr378 r398 rfl
                have dq400 : 176 ≤ r398 := Nat.le_trans hS209.1 fq399
                obtain ⟨lt402, ow403, sh404⟩ := ht371 r398 rfl
                obtain ⟨e405, e406, e407⟩ := hq384 r398 rfl
                obtain ⟨x408, h409⟩ : ∃ y, FI352 110 7 = y := ⟨_, rfl⟩
                have h409l := congrArg Int32.toInt h409
                have b410 := gI_110_7 hI355; rw [h409] at b410
                obtain ⟨x411, h412⟩ : ∃ y, FI352 110 5 = y := ⟨_, rfl⟩
                have h412l := congrArg Int32.toInt h412
                have := i_rng x411
                obtain ⟨x413, h414⟩ : ∃ y, FI352 110 8 = y := ⟨_, rfl⟩
                have h414l := congrArg Int32.toInt h414
                have := i_rng x413
                obtain ⟨x415, h416⟩ : ∃ y, FI352 110 4 = y := ⟨_, rfl⟩
                have h416l := congrArg Int32.toInt h416
                have := i_rng x415
                show hw sk base _ _ _ _ _ [.ref (base + r398), .ref (base + r312)] _ _
                refine hv_putr (r := some (r398)) (aX4_readLocation 44 rfl) wf_RX4_132 lt394 sh395 (by decide) (by first | exact Or.inl ⟨_, rfl⟩ | exact Or.inr ⟨_, rfl⟩) (Or.inl rfl) (fun FR417 u418 => ?_)
                obtain ⟨gs420, hg421⟩ : ∃ f, f = va_up gs381 r398 (gs381 r312 + gw380 r312 + 20) := ⟨_, rfl⟩
                have : gs420 r398 = gs381 r312 + gw380 r312 + 20 := by rw [hg421]; exact va_s
                have : gs420 r160 = gs381 r160 := by rw [hg421]; exact va_o (Nat.ne_of_lt (Nat.lt_of_lt_of_le lt238 fq399))
                have : gs420 r312 = gs381 r312 := by rw [hg421]; exact va_o (Nat.ne_of_lt (Nat.lt_of_lt_of_le lt313 fq399))
                have hk422 : ∀ c, c < n → gp379 c = gp c ∧ gw380 c = gw c ∧ gs420 c = gs c := fun c hc => by
                  obtain ⟨k1, k2, k3⟩ := hk391 c hc
                  exact ⟨k1, k2, by rw [hg421]; exact (va_o (show c ≠ r398 from Nat.ne_of_lt (Nat.lt_of_lt_of_le hc (Nat.le_trans (ex240).1 fq399)))).trans k3⟩
                have hT419 : g_T n373 SH375 FI352 FR417 gp379 gw380 gs420 := by rw [hg421]; exact gT_pn hS377 hR360 hT382 lt394 sh395 lt402 sh404 (show FR354 r398 5 = none from e407) (Nat.ne_of_lt (Nat.lt_of_lt_of_le lt313 fq399)) (by omega) (by omega) u418
                have hF423 : h_FR FR417 := hF_up hS377 hF359 u418 sh395 (by decide +kernel)
                have hR424 : g_R n373 SH375 FR417 := gR_up hR360 u418 sh395 (fun r e => by cases e; exact ⟨lt402, ow403, by rw [sh404]; rfl⟩) (fun _ r e => by cases e; exact (dyn_tag hS377 sh404 (by decide +kernel))) (fun _ => by simp) (fun h => absurd h.1 (ne_tag sh395 (s49 hS377) (by decide)))
                refine hw_aloadn (aX4_readLocation 45 rfl) rfl ?_
                refine hw_get (v := .ref (base + r398)) (aX4_readLocation 46 rfl) wf_RX4_132 lt394 sh395 (by decide) (congrArg (fun r => va_rf (h_rf base r)) (show FR417 r312 5 = some r398 from up_eq u418)) ?_
                refine hw_astoren (L2 := [(2, .ref (base + r398)), (3, .int (y3)), (1, .ref (base + r160)), (0, .ref (base + 110))]) (aX4_readLocation 47 rfl) (by decide) rfl ?_
                refine hw_aloadn (aX4_readLocation 48 rfl) rfl ?_
                refine hw_aloadn (aX4_readLocation 49 rfl) rfl ?_
                refine hw_callV (Bs := [.ref (base + r398)]) (rest := []) (aX4_readLocation 50 rfl) wc_RX4_124 (by decide) rfl wi_yX4_readWidth wv_yX4_readWidth (c110 hS377) (s110 hS377) rfl rfl rfl (Nat.le_of_ble_eq_true rfl) (Nat.le_of_ble_eq_true rfl) (k_width2 (d := d + 140) hS377 hF423 hI355 hR424 (r398) lt402 sh404 ow403 (by have := congrArg Int32.toInt (show FI352 110 7 = x408 from h409); have := congrArg Int32.toInt (show FI352 110 7 = x408 from h409); have := congrArg Int32.toInt (show FI352 111 4 = x4 from (gf_at f356 (c111 hS209) (shd_f (by decide) (s111 hS209)) rfl ((gf_at f326 (c111 hS209) (shd_f (by decide) (s111 hS209)) rfl (kp225))))); omega) (by have := congrArg Int32.toInt (show FI352 110 5 = x411 from h412); have := congrArg Int32.toInt (show FI352 110 8 = x413 from h414); omega) (by have := congrArg Int32.toInt (show FI352 110 7 = x408 from h409); have := congrArg Int32.toInt (show FI352 111 4 = x4 from (gf_at f356 (c111 hS209) (shd_f (by decide) (s111 hS209)) rfl ((gf_at f326 (c111 hS209) (shd_f (by decide) (s111 hS209)) rfl (kp225))))); have := congrArg Int32.toInt (show FI352 110 8 = x413 from h414); omega) (gK_mx (L := [(110, 4), (110, 5), (110, 6), (110, 7), (110, 8)]) (A := [117]) (T := [1006]) hS gg1 (gf_tr (ex_shd ex240) (gf_tr (ex_shd ex240) fr219 f326 rfl rfl rfl) f356 rfl rfl rfl) (by decide))) (fun v425 sv426 p427 => ?_)
                have := congrArg Int32.toInt (show FI352 111 4 = x4 from (gf_at f356 (c111 hS209) (shd_f (by decide) (s111 hS209)) rfl ((gf_at f326 (c111 hS209) (shd_f (by decide) (s111 hS209)) rfl (kp225)))))
                have := congrArg Int32.toInt (show FI352 111 4 = x4 from (gf_at f356 (c111 hS209) (shd_f (by decide) (s111 hS209)) rfl ((gf_at f326 (c111 hS209) (shd_f (by decide) (s111 hS209)) rfl (kp225)))))
                have := congrArg Int32.toInt (show FI352 110 7 = x408 from h409)
                have := congrArg Int32.toInt (show FI352 110 5 = x411 from h412)
                have := congrArg Int32.toInt (show FI352 110 5 = x411 from h412)
                obtain ⟨rfl, FI429, FL430, rfl, hI431, f432, f433, t436, t437, t438, t439, t440⟩ := p427
                clear t362 t363
                have hT443 : g_T n373 SH375 FI429 FR417 gp379 gw380 gs420 := gT_mw (L := [(110, 5), (110, 6), (110, 7), (110, 8)]) (A := []) (T := [1006]) (L2 := []) (A2 := []) (T2 := []) hS377 hT419 f432 gf_rf (by decide) (by decide)
                obtain ⟨x444, h445⟩ : ∃ y, FI429 110 7 = y := ⟨_, rfl⟩
                have h445l := congrArg Int32.toInt h445
                have b446 := gI_110_7 hI431; rw [h445] at b446
                obtain ⟨x447, h448⟩ : ∃ y, FI429 110 5 = y := ⟨_, rfl⟩
                have h448l := congrArg Int32.toInt h448
                have := i_rng x447
                obtain ⟨x449, h450⟩ : ∃ y, FI429 110 8 = y := ⟨_, rfl⟩
                have h450l := congrArg Int32.toInt h450
                have := i_rng x449
                show hw sk base _ _ _ _ _ [] _ _
                obtain ⟨x451, q453⟩ : ∃ y : Int32, (y3) + Int32.ofInt (1) = y := ⟨_, rfl⟩
                have e452 : (x451).toInt = (y3).toInt + (1) := by rw [← q453]; exact i_add rfl (by decide) (by omega) (by omega)
                refine xw_iinc (L2 := [(3, .int (x451)), (2, .ref (base + r398)), (1, .ref (base + r160)), (0, .ref (base + 110))]) (aX4_readLocation 51 rfl) rfl (by decide) (by rw [q453]; rfl) ?_
                refine xw_goto (tgt := 39) (aX4_readLocation 52 rfl) (by decide) ?_
                exact hw_L (ih (x451) (some (r398)) FI429 FL430 FR417 n373 sl374 SH375 gp379 gw380 gs420 ex396 hS377 hT443 hk422 ((fun r e => by cases e; exact ⟨lt402, ow403, by rw [sh404]⟩)) (gf_tr (ex_shd ex397) (gf_tr (ex_shd ex240) (gf_tr (ex_shd ex240) fr219 f326 rfl rfl rfl) f356 rfl rfl rfl) f432 rfl rfl rfl) (gf_tr (ex_shd ex397) (gf_tr (ex_shd ex240) (gf_tr (ex_shd ex240) fr220 f327 rfl rfl rfl) f357 rfl rfl rfl) f433 rfl rfl rfl) (gf_n (gf_tr (ex_shd ex240) fr221 f358 rfl rfl rfl) u418 f316) hI431 hF423 hR424 (show FI429 111 4 = x4 from (gf_at f432 (c111 hS377) (shd_f (by decide) (s111 hS377)) rfl ((gf_at f356 (c111 hS209) (shd_f (by decide) (s111 hS209)) rfl ((gf_at f326 (c111 hS209) (shd_f (by decide) (s111 hS209)) rfl (kp225))))))) (by have := (e452 : (x451).toInt = (y3).toInt + (1)); omega) (by have := (e452 : (x451).toInt = (y3).toInt + (1)); have := congrArg Int32.toInt (show FI429 110 7 = x444 from h445); omega) (by have := (e452 : (x451).toInt = (y3).toInt + (1)); have := congrArg Int32.toInt (show FI429 110 5 = x447 from h448); have := congrArg Int32.toInt (show FI429 110 8 = x449 from h450); omega) (by have := (e452 : (x451).toInt = (y3).toInt + (1)); have := congrArg Int32.toInt (show FI429 110 7 = x444 from h445); have := congrArg Int32.toInt (show FI429 110 8 = x449 from h450); omega) (by have := (e452 : (x451).toInt = (y3).toInt + (1)); have := congrArg Int32.toInt (show FI429 110 7 = x444 from h445); omega) (by have := (e452 : (x451).toInt = (y3).toInt + (1)); have := congrArg Int32.toInt (show FI429 110 5 = x447 from h448); omega) (by have := (e452 : (x451).toInt = (y3).toInt + (1)); have := congrArg Int32.toInt (show FI429 110 4 = x415 from (gf_at f432 (c110 hS377) (shd_f (by decide) (s110 hS377)) rfl (h416))); have := congrArg Int32.toInt (show FI429 110 5 = x447 from h448); omega) (by have := (e452 : (x451).toInt = (y3).toInt + (1)); omega) (by have := (e452 : (x451).toInt = (y3).toInt + (1)); have := congrArg Int32.toInt (show FI429 110 7 = x444 from h445); omega) (by have := (e452 : (x451).toInt = (y3).toInt + (1)); have := congrArg Int32.toInt (show FI429 110 7 = x444 from h445); omega) (by have := (e452 : (x451).toInt = (y3).toInt + (1)); omega) (show ∀ m, (some (r398)) = some m → n ≤ m ∧ FR417 m 5 = none ∧ gs420 m + gw380 m + 220 * n ≤ 220 * n373 from (by have := (e452 : (x451).toInt = (y3).toInt + (1)); exact (fun m hm => by cases hm; exact ⟨(Nat.le_trans (ex240).1 fq399), (show FR417 r398 5 = none from (up_c u418 (Nat.ne_of_gt (Nat.lt_of_lt_of_le lt313 fq399)) (e407))), by omega⟩))) (show (some (r398)) ≠ none from (by have := (e452 : (x451).toInt = (y3).toInt + (1)); exact (by simp))) (by have := (e452 : (x451).toInt = (y3).toInt + (1)); omega)) ⟨rfl, rfl, rfl, rfl, trivial⟩
              · refine hw_aloadn (aX4_readLocation 34 rfl) rfl ?_
                refine hw_get (v := .int (x345)) (aX4_readLocation 35 rfl) wf_RX4_51 (c110 hS209) (s110 hS209) (by decide) (congrArg Value.int (show FI323 110 8 = x345 from h346)) ?_
                refine hw_callS (As := [.int (x345)]) (rest := []) (aX4_readLocation 36 rfl) wc_RX4_128 (by decide) rfl wt_yX4_beginsPlace rfl rfl (Nat.le_of_ble_eq_true rfl) (Nat.le_of_ble_eq_true rfl) (k_begins2 (d := d + 142) hS209 hF223 hI325 hR224 (x345) ) (fun v454 sv455 p456 => ?_)
                obtain ⟨r457, rfl, rfl, t461, t462⟩ := p456
                show hw sk base _ _ _ _ _ [.int (r457)] _ _
                refine hw_ifeq (tgt := 80) (aX4_readLocation 37 rfl) (by decide) rfl (fun cd465 => ?_) (fun cd465 => ?_)
                · clear t461
                  refine hw_aloadn (aX4_readLocation 41 rfl) rfl ?_
                  refine hw_aloadn (aX4_readLocation 42 rfl) rfl ?_
                  refine hw_callV (Bs := []) (rest := [.ref (base + r312)]) (aX4_readLocation 43 rfl) wc_RX4_121 (by decide) rfl wi_yX4_readPlace wv_yX4_readPlace (c110 hS209) (s110 hS209) rfl rfl rfl (Nat.le_of_ble_eq_true rfl) (Nat.le_of_ble_eq_true rfl) (k_readPlace (d := d) hS209 hF223 hI325 hR224 (gp214) (gw215) (gs216) (by have := congrArg Int32.toInt (show FI323 110 7 = x342 from h343); have := congrArg Int32.toInt (show FI323 110 7 = x342 from h343); have := congrArg Int32.toInt (show FI323 111 4 = x4 from (gf_at f326 (c111 hS209) (shd_f (by decide) (s111 hS209)) rfl (kp225))); omega) (by have := congrArg Int32.toInt (show FI323 110 5 = x244 from (gf_at f326 (c110 hS209) (shd_f (by decide) (s110 hS209)) rfl (h245))); have := congrArg Int32.toInt (show FI323 110 8 = x345 from h346); omega) (by have := congrArg Int32.toInt (show FI323 110 7 = x342 from h343); have := congrArg Int32.toInt (show FI323 111 4 = x4 from (gf_at f326 (c111 hS209) (shd_f (by decide) (s111 hS209)) rfl (kp225))); have := congrArg Int32.toInt (show FI323 110 8 = x345 from h346); omega) (by have := congrArg Int32.toInt (show FI323 110 5 = x244 from (gf_at f326 (c110 hS209) (shd_f (by decide) (s110 hS209)) rfl (h245))); have := congrArg Int32.toInt (show FI323 110 4 = x248 from (gf_at f326 (c110 hS209) (shd_f (by decide) (s110 hS209)) rfl (h249))); omega) (by have := congrArg Int32.toInt (show FI323 110 5 = x244 from (gf_at f326 (c110 hS209) (shd_f (by decide) (s110 hS209)) rfl (h245))); have := congrArg Int32.toInt (show FI323 110 4 = x248 from (gf_at f326 (c110 hS209) (shd_f (by decide) (s110 hS209)) rfl (h249))); omega) (hT341) (gK_mx (L := [(110, 4), (110, 5), (110, 6), (110, 7), (110, 8)]) (A := [117]) (T := [1006]) hS gg1 (gf_tr (ex_shd ex240) fr219 f326 rfl rfl rfl) (by decide))) (fun v466 sv467 p468 => ?_)
                  have := congrArg Int32.toInt (show FI323 111 4 = x4 from (gf_at f326 (c111 hS209) (shd_f (by decide) (s111 hS209)) rfl (kp225)))
                  have := congrArg Int32.toInt (show FI323 111 4 = x4 from (gf_at f326 (c111 hS209) (shd_f (by decide) (s111 hS209)) rfl (kp225)))
                  have := congrArg Int32.toInt (show FI323 110 7 = x342 from h343)
                  have := congrArg Int32.toInt (show FI323 110 5 = x244 from (gf_at f326 (c110 hS209) (shd_f (by decide) (s110 hS209)) rfl (h245)))
                  have := congrArg Int32.toInt (show FI323 110 5 = x244 from (gf_at f326 (c110 hS209) (shd_f (by decide) (s110 hS209)) rfl (h245)))
                  have := congrArg Int32.toInt (show FI323 110 4 = x248 from (gf_at f326 (c110 hS209) (shd_f (by decide) (s110 hS209)) rfl (h249)))
                  have := congrArg Int32.toInt (show FI323 110 7 = x342 from h343)
                  have := congrArg Int32.toInt (show FI323 110 7 = x342 from h343)
                  obtain ⟨r469, rfl, n491, sl492, SH493, FI470, FL471, FR472, rfl, ex494, hS495, hI473, f474, f475, f476, hF477, hR478, t479, t480, t481, t482, t483, t484, t485, t486, t487, u488, ht489, nn490, hfr496⟩ := p468
                  clear t331 t332
                  obtain ⟨gp497, gw498, gs499, hT500, hkp501, hq502⟩ := u488
                  obtain ⟨e503, e504, e505⟩ := hkp501 r160 lt238
                  obtain ⟨e506, e507, e508⟩ := hkp501 r312 lt313
                  have hk509 : ∀ c, c < n → gp497 c = gp c ∧ gw498 c = gw c ∧ gs499 c = gs c := fun c hc => by obtain ⟨k1, k2, k3⟩ := hk218 c hc; obtain ⟨m1, m2, m3⟩ := hkp501 c (Nat.lt_of_lt_of_le hc (ex240).1); exact ⟨m1.trans k1, m2.trans k2, m3.trans k3⟩
                  have lt510 := ex_lt ex494 lt238
                  have sh511 := ex_sh ex494 lt238 sh239
                  have lt512 := ex_lt ex494 lt313
                  have sh513 := ex_sh ex494 lt313 sh315
                  have ex514 := ex_tr ex208 ex494
                  have ex515 := ex_tr ex240 ex494
                  obtain ⟨r516, rfl⟩ : ∃ q, r469 = some q := Option.ne_none_iff_exists'.mp nn490
                  have fq517 := hfr496 r516 rfl
                  have dq518 : 176 ≤ r516 := Nat.le_trans hS209.1 fq517
                  obtain ⟨lt520, ow521, sh522⟩ := ht489 r516 rfl
                  obtain ⟨e523, e524, e525⟩ := hq502 r516 rfl
                  obtain ⟨x526, h527⟩ : ∃ y, FI470 110 7 = y := ⟨_, rfl⟩
                  have h527l := congrArg Int32.toInt h527
                  have b528 := gI_110_7 hI473; rw [h527] at b528
                  obtain ⟨x529, h530⟩ : ∃ y, FI470 110 5 = y := ⟨_, rfl⟩
                  have h530l := congrArg Int32.toInt h530
                  have := i_rng x529
                  obtain ⟨x531, h532⟩ : ∃ y, FI470 110 8 = y := ⟨_, rfl⟩
                  have h532l := congrArg Int32.toInt h532
                  have := i_rng x531
                  obtain ⟨x533, h534⟩ : ∃ y, FI470 110 4 = y := ⟨_, rfl⟩
                  have h534l := congrArg Int32.toInt h534
                  have := i_rng x533
                  show hw sk base _ _ _ _ _ [.ref (base + r516), .ref (base + r312)] _ _
                  refine hv_putr (r := some (r516)) (aX4_readLocation 44 rfl) wf_RX4_132 lt512 sh513 (by decide) (by first | exact Or.inl ⟨_, rfl⟩ | exact Or.inr ⟨_, rfl⟩) (Or.inl rfl) (fun FR535 u536 => ?_)
                  obtain ⟨gs538, hg539⟩ : ∃ f, f = va_up gs499 r516 (gs499 r312 + gw498 r312 + 20) := ⟨_, rfl⟩
                  have : gs538 r516 = gs499 r312 + gw498 r312 + 20 := by rw [hg539]; exact va_s
                  have : gs538 r160 = gs499 r160 := by rw [hg539]; exact va_o (Nat.ne_of_lt (Nat.lt_of_lt_of_le lt238 fq517))
                  have : gs538 r312 = gs499 r312 := by rw [hg539]; exact va_o (Nat.ne_of_lt (Nat.lt_of_lt_of_le lt313 fq517))
                  have hk540 : ∀ c, c < n → gp497 c = gp c ∧ gw498 c = gw c ∧ gs538 c = gs c := fun c hc => by
                    obtain ⟨k1, k2, k3⟩ := hk509 c hc
                    exact ⟨k1, k2, by rw [hg539]; exact (va_o (show c ≠ r516 from Nat.ne_of_lt (Nat.lt_of_lt_of_le hc (Nat.le_trans (ex240).1 fq517)))).trans k3⟩
                  have hT537 : g_T n491 SH493 FI470 FR535 gp497 gw498 gs538 := by rw [hg539]; exact gT_pn hS495 hR478 hT500 lt512 sh513 lt520 sh522 (show FR472 r516 5 = none from e525) (Nat.ne_of_lt (Nat.lt_of_lt_of_le lt313 fq517)) (by omega) (by omega) u536
                  have hF541 : h_FR FR535 := hF_up hS495 hF477 u536 sh513 (by decide +kernel)
                  have hR542 : g_R n491 SH493 FR535 := gR_up hR478 u536 sh513 (fun r e => by cases e; exact ⟨lt520, ow521, by rw [sh522]; rfl⟩) (fun _ r e => by cases e; exact (dyn_tag hS495 sh522 (by decide +kernel))) (fun _ => by simp) (fun h => absurd h.1 (ne_tag sh513 (s49 hS495) (by decide)))
                  refine hw_aloadn (aX4_readLocation 45 rfl) rfl ?_
                  refine hw_get (v := .ref (base + r516)) (aX4_readLocation 46 rfl) wf_RX4_132 lt512 sh513 (by decide) (congrArg (fun r => va_rf (h_rf base r)) (show FR535 r312 5 = some r516 from up_eq u536)) ?_
                  refine hw_astoren (L2 := [(2, .ref (base + r516)), (3, .int (y3)), (1, .ref (base + r160)), (0, .ref (base + 110))]) (aX4_readLocation 47 rfl) (by decide) rfl ?_
                  refine hw_aloadn (aX4_readLocation 48 rfl) rfl ?_
                  refine hw_aloadn (aX4_readLocation 49 rfl) rfl ?_
                  refine hw_callV (Bs := [.ref (base + r516)]) (rest := []) (aX4_readLocation 50 rfl) wc_RX4_124 (by decide) rfl wi_yX4_readWidth wv_yX4_readWidth (c110 hS495) (s110 hS495) rfl rfl rfl (Nat.le_of_ble_eq_true rfl) (Nat.le_of_ble_eq_true rfl) (k_width2 (d := d + 140) hS495 hF541 hI473 hR542 (r516) lt520 sh522 ow521 (by have := congrArg Int32.toInt (show FI470 110 7 = x526 from h527); have := congrArg Int32.toInt (show FI470 110 7 = x526 from h527); have := congrArg Int32.toInt (show FI470 111 4 = x4 from (gf_at f474 (c111 hS209) (shd_f (by decide) (s111 hS209)) rfl ((gf_at f326 (c111 hS209) (shd_f (by decide) (s111 hS209)) rfl (kp225))))); omega) (by have := congrArg Int32.toInt (show FI470 110 5 = x529 from h530); have := congrArg Int32.toInt (show FI470 110 8 = x531 from h532); omega) (by have := congrArg Int32.toInt (show FI470 110 7 = x526 from h527); have := congrArg Int32.toInt (show FI470 111 4 = x4 from (gf_at f474 (c111 hS209) (shd_f (by decide) (s111 hS209)) rfl ((gf_at f326 (c111 hS209) (shd_f (by decide) (s111 hS209)) rfl (kp225))))); have := congrArg Int32.toInt (show FI470 110 8 = x531 from h532); omega) (gK_mx (L := [(110, 4), (110, 5), (110, 6), (110, 7), (110, 8)]) (A := [117]) (T := [1006]) hS gg1 (gf_tr (ex_shd ex240) (gf_tr (ex_shd ex240) fr219 f326 rfl rfl rfl) f474 rfl rfl rfl) (by decide))) (fun v543 sv544 p545 => ?_)
                  have := congrArg Int32.toInt (show FI470 111 4 = x4 from (gf_at f474 (c111 hS209) (shd_f (by decide) (s111 hS209)) rfl ((gf_at f326 (c111 hS209) (shd_f (by decide) (s111 hS209)) rfl (kp225)))))
                  have := congrArg Int32.toInt (show FI470 111 4 = x4 from (gf_at f474 (c111 hS209) (shd_f (by decide) (s111 hS209)) rfl ((gf_at f326 (c111 hS209) (shd_f (by decide) (s111 hS209)) rfl (kp225)))))
                  have := congrArg Int32.toInt (show FI470 110 7 = x526 from h527)
                  have := congrArg Int32.toInt (show FI470 110 5 = x529 from h530)
                  have := congrArg Int32.toInt (show FI470 110 5 = x529 from h530)
                  obtain ⟨rfl, FI547, FL548, rfl, hI549, f550, f551, t554, t555, t556, t557, t558⟩ := p545
                  clear t480 t481
                  have hT561 : g_T n491 SH493 FI547 FR535 gp497 gw498 gs538 := gT_mw (L := [(110, 5), (110, 6), (110, 7), (110, 8)]) (A := []) (T := [1006]) (L2 := []) (A2 := []) (T2 := []) hS495 hT537 f550 gf_rf (by decide) (by decide)
                  obtain ⟨x562, h563⟩ : ∃ y, FI547 110 7 = y := ⟨_, rfl⟩
                  have h563l := congrArg Int32.toInt h563
                  have b564 := gI_110_7 hI549; rw [h563] at b564
                  obtain ⟨x565, h566⟩ : ∃ y, FI547 110 5 = y := ⟨_, rfl⟩
                  have h566l := congrArg Int32.toInt h566
                  have := i_rng x565
                  obtain ⟨x567, h568⟩ : ∃ y, FI547 110 8 = y := ⟨_, rfl⟩
                  have h568l := congrArg Int32.toInt h568
                  have := i_rng x567
                  show hw sk base _ _ _ _ _ [] _ _
                  obtain ⟨x569, q571⟩ : ∃ y : Int32, (y3) + Int32.ofInt (1) = y := ⟨_, rfl⟩
                  have e570 : (x569).toInt = (y3).toInt + (1) := by rw [← q571]; exact i_add rfl (by decide) (by omega) (by omega)
                  refine xw_iinc (L2 := [(3, .int (x569)), (2, .ref (base + r516)), (1, .ref (base + r160)), (0, .ref (base + 110))]) (aX4_readLocation 51 rfl) rfl (by decide) (by rw [q571]; rfl) ?_
                  refine xw_goto (tgt := 39) (aX4_readLocation 52 rfl) (by decide) ?_
                  exact hw_L (ih (x569) (some (r516)) FI547 FL548 FR535 n491 sl492 SH493 gp497 gw498 gs538 ex514 hS495 hT561 hk540 ((fun r e => by cases e; exact ⟨lt520, ow521, by rw [sh522]⟩)) (gf_tr (ex_shd ex515) (gf_tr (ex_shd ex240) (gf_tr (ex_shd ex240) fr219 f326 rfl rfl rfl) f474 rfl rfl rfl) f550 rfl rfl rfl) (gf_tr (ex_shd ex515) (gf_tr (ex_shd ex240) (gf_tr (ex_shd ex240) fr220 f327 rfl rfl rfl) f475 rfl rfl rfl) f551 rfl rfl rfl) (gf_n (gf_tr (ex_shd ex240) fr221 f476 rfl rfl rfl) u536 f316) hI549 hF541 hR542 (show FI547 111 4 = x4 from (gf_at f550 (c111 hS495) (shd_f (by decide) (s111 hS495)) rfl ((gf_at f474 (c111 hS209) (shd_f (by decide) (s111 hS209)) rfl ((gf_at f326 (c111 hS209) (shd_f (by decide) (s111 hS209)) rfl (kp225))))))) (by have := (e570 : (x569).toInt = (y3).toInt + (1)); omega) (by have := (e570 : (x569).toInt = (y3).toInt + (1)); have := congrArg Int32.toInt (show FI547 110 7 = x562 from h563); omega) (by have := (e570 : (x569).toInt = (y3).toInt + (1)); have := congrArg Int32.toInt (show FI547 110 5 = x565 from h566); have := congrArg Int32.toInt (show FI547 110 8 = x567 from h568); omega) (by have := (e570 : (x569).toInt = (y3).toInt + (1)); have := congrArg Int32.toInt (show FI547 110 7 = x562 from h563); have := congrArg Int32.toInt (show FI547 110 8 = x567 from h568); omega) (by have := (e570 : (x569).toInt = (y3).toInt + (1)); have := congrArg Int32.toInt (show FI547 110 7 = x562 from h563); omega) (by have := (e570 : (x569).toInt = (y3).toInt + (1)); have := congrArg Int32.toInt (show FI547 110 5 = x565 from h566); omega) (by have := (e570 : (x569).toInt = (y3).toInt + (1)); have := congrArg Int32.toInt (show FI547 110 4 = x533 from (gf_at f550 (c110 hS495) (shd_f (by decide) (s110 hS495)) rfl (h534))); have := congrArg Int32.toInt (show FI547 110 5 = x565 from h566); omega) (by have := (e570 : (x569).toInt = (y3).toInt + (1)); omega) (by have := (e570 : (x569).toInt = (y3).toInt + (1)); have := congrArg Int32.toInt (show FI547 110 7 = x562 from h563); omega) (by have := (e570 : (x569).toInt = (y3).toInt + (1)); have := congrArg Int32.toInt (show FI547 110 7 = x562 from h563); omega) (by have := (e570 : (x569).toInt = (y3).toInt + (1)); omega) (show ∀ m, (some (r516)) = some m → n ≤ m ∧ FR535 m 5 = none ∧ gs538 m + gw498 m + 220 * n ≤ 220 * n491 from (by have := (e570 : (x569).toInt = (y3).toInt + (1)); exact (fun m hm => by cases hm; exact ⟨(Nat.le_trans (ex240).1 fq517), (show FR535 r516 5 = none from (up_c u536 (Nat.ne_of_gt (Nat.lt_of_lt_of_le lt313 fq517)) (e525))), by omega⟩))) (show (some (r516)) ≠ none from (by have := (e570 : (x569).toInt = (y3).toInt + (1)); exact (by simp))) (by have := (e570 : (x569).toInt = (y3).toInt + (1)); omega)) ⟨rfl, rfl, rfl, rfl, trivial⟩
                · replace t461 := t461 (by omega)
                  refine hw_aloadn (aX4_readLocation 38 rfl) rfl ?_
                  refine hw_bp (v := (6 : Int32)) (aX4_readLocation 39 rfl) (by decide) ?_
                  refine hw_callV (Bs := [.int ((6 : Int32))]) (rest := []) (aX4_readLocation 40 rfl) wc_RX4_69 (by decide) rfl wi_yX4_refuse wv_yX4_refuse (c110 hS209) (s110 hS209) rfl rfl rfl (Nat.le_of_ble_eq_true rfl) (Nat.le_of_ble_eq_true rfl) (k_refuse2 (d := d + 142) hS209 hF223 hI325 hR224 ((6 : Int32)) (by have := congrArg Int32.toInt (show FI323 110 7 = x342 from h343); have := congrArg Int32.toInt (show FI323 110 7 = x342 from h343); have := congrArg Int32.toInt (show FI323 111 4 = x4 from (gf_at f326 (c111 hS209) (shd_f (by decide) (s111 hS209)) rfl (kp225))); omega) (by have := congrArg Int32.toInt (show FI323 110 5 = x244 from (gf_at f326 (c110 hS209) (shd_f (by decide) (s110 hS209)) rfl (h245))); have := congrArg Int32.toInt (show FI323 110 8 = x345 from h346); omega) (by have := congrArg Int32.toInt (show FI323 110 7 = x342 from h343); have := congrArg Int32.toInt (show FI323 111 4 = x4 from (gf_at f326 (c111 hS209) (shd_f (by decide) (s111 hS209)) rfl (kp225))); have := congrArg Int32.toInt (show FI323 110 8 = x345 from h346); omega) (by have := ((by decide : (6 : Int32).toInt = 6) : ((6 : Int32)).toInt = 6); have := ((by decide : (6 : Int32).toInt = 6) : ((6 : Int32)).toInt = 6); omega)) (fun v572 sv573 p574 => ?_)
                  have := congrArg Int32.toInt (show FI323 110 5 = x244 from (gf_at f326 (c110 hS209) (shd_f (by decide) (s110 hS209)) rfl (h245)))
                  have := congrArg Int32.toInt (show FI323 110 5 = x244 from (gf_at f326 (c110 hS209) (shd_f (by decide) (s110 hS209)) rfl (h245)))
                  obtain ⟨rfl, FI576, rfl, hI577, f578, t581, t582⟩ := p574
                  have hT585 : g_T n205 SH207 FI576 FRv213 gp214 gw215 gs216 := gT_mw (L := [(110, 5), (110, 6), (110, 8)]) (A := []) (T := []) (L2 := []) (A2 := []) (T2 := []) hS209 hT341 f578 gf_rf (by decide) (by decide)
                  obtain ⟨x586, h587⟩ : ∃ y, FI576 110 5 = y := ⟨_, rfl⟩
                  have h587l := congrArg Int32.toInt h587
                  have := i_rng x586
                  obtain ⟨x588, h589⟩ : ∃ y, FI576 110 8 = y := ⟨_, rfl⟩
                  have h589l := congrArg Int32.toInt h589
                  have := i_rng x588
                  show hw sk base _ _ _ _ _ [] _ _
                  refine hw_aloadn (aX4_readLocation 41 rfl) rfl ?_
                  refine hw_aloadn (aX4_readLocation 42 rfl) rfl ?_
                  refine hw_callV (Bs := []) (rest := [.ref (base + r312)]) (aX4_readLocation 43 rfl) wc_RX4_121 (by decide) rfl wi_yX4_readPlace wv_yX4_readPlace (c110 hS209) (s110 hS209) rfl rfl rfl (Nat.le_of_ble_eq_true rfl) (Nat.le_of_ble_eq_true rfl) (k_readPlace (d := d) hS209 hF223 hI577 hR224 (gp214) (gw215) (gs216) (by have := congrArg Int32.toInt (show FI576 110 7 = x342 from (gf_at f578 (c110 hS209) (shd_f (by decide) (s110 hS209)) rfl (h343))); have := congrArg Int32.toInt (show FI576 110 7 = x342 from (gf_at f578 (c110 hS209) (shd_f (by decide) (s110 hS209)) rfl (h343))); have := congrArg Int32.toInt (show FI576 111 4 = x4 from (gf_at f578 (c111 hS209) (shd_f (by decide) (s111 hS209)) rfl ((gf_at f326 (c111 hS209) (shd_f (by decide) (s111 hS209)) rfl (kp225))))); omega) (by have := congrArg Int32.toInt (show FI576 110 5 = x586 from h587); have := congrArg Int32.toInt (show FI576 110 8 = x588 from h589); omega) (by have := congrArg Int32.toInt (show FI576 110 7 = x342 from (gf_at f578 (c110 hS209) (shd_f (by decide) (s110 hS209)) rfl (h343))); have := congrArg Int32.toInt (show FI576 111 4 = x4 from (gf_at f578 (c111 hS209) (shd_f (by decide) (s111 hS209)) rfl ((gf_at f326 (c111 hS209) (shd_f (by decide) (s111 hS209)) rfl (kp225))))); have := congrArg Int32.toInt (show FI576 110 8 = x588 from h589); omega) (by have := congrArg Int32.toInt (show FI576 110 5 = x586 from h587); have := congrArg Int32.toInt (show FI576 110 4 = x248 from (gf_at f578 (c110 hS209) (shd_f (by decide) (s110 hS209)) rfl ((gf_at f326 (c110 hS209) (shd_f (by decide) (s110 hS209)) rfl (h249))))); omega) (by have := congrArg Int32.toInt (show FI576 110 5 = x586 from h587); have := congrArg Int32.toInt (show FI576 110 4 = x248 from (gf_at f578 (c110 hS209) (shd_f (by decide) (s110 hS209)) rfl ((gf_at f326 (c110 hS209) (shd_f (by decide) (s110 hS209)) rfl (h249))))); omega) (hT585) (gK_mx (L := [(110, 4), (110, 5), (110, 6), (110, 7), (110, 8)]) (A := [117]) (T := [1006]) hS gg1 (gf_tr (ex_shd ex240) (gf_tr (ex_shd ex240) fr219 f326 rfl rfl rfl) f578 rfl rfl rfl) (by decide))) (fun v590 sv591 p592 => ?_)
                  have := congrArg Int32.toInt (show FI576 111 4 = x4 from (gf_at f578 (c111 hS209) (shd_f (by decide) (s111 hS209)) rfl ((gf_at f326 (c111 hS209) (shd_f (by decide) (s111 hS209)) rfl (kp225)))))
                  have := congrArg Int32.toInt (show FI576 111 4 = x4 from (gf_at f578 (c111 hS209) (shd_f (by decide) (s111 hS209)) rfl ((gf_at f326 (c111 hS209) (shd_f (by decide) (s111 hS209)) rfl (kp225)))))
                  have := congrArg Int32.toInt (show FI576 110 7 = x342 from (gf_at f578 (c110 hS209) (shd_f (by decide) (s110 hS209)) rfl (h343)))
                  have := congrArg Int32.toInt (show FI576 110 5 = x586 from h587)
                  have := congrArg Int32.toInt (show FI576 110 5 = x586 from h587)
                  have := congrArg Int32.toInt (show FI576 110 4 = x248 from (gf_at f578 (c110 hS209) (shd_f (by decide) (s110 hS209)) rfl ((gf_at f326 (c110 hS209) (shd_f (by decide) (s110 hS209)) rfl (h249)))))
                  have := congrArg Int32.toInt (show FI576 110 7 = x342 from (gf_at f578 (c110 hS209) (shd_f (by decide) (s110 hS209)) rfl (h343)))
                  have := congrArg Int32.toInt (show FI576 110 7 = x342 from (gf_at f578 (c110 hS209) (shd_f (by decide) (s110 hS209)) rfl (h343)))
                  obtain ⟨r593, rfl, n615, sl616, SH617, FI594, FL595, FR596, rfl, ex618, hS619, hI597, f598, f599, f600, hF601, hR602, t603, t604, t605, t606, t607, t608, t609, t610, t611, u612, ht613, nn614, hfr620⟩ := p592
                  clear t331 t332
                  obtain ⟨gp621, gw622, gs623, hT624, hkp625, hq626⟩ := u612
                  obtain ⟨e627, e628, e629⟩ := hkp625 r160 lt238
                  obtain ⟨e630, e631, e632⟩ := hkp625 r312 lt313
                  have hk633 : ∀ c, c < n → gp621 c = gp c ∧ gw622 c = gw c ∧ gs623 c = gs c := fun c hc => by obtain ⟨k1, k2, k3⟩ := hk218 c hc; obtain ⟨m1, m2, m3⟩ := hkp625 c (Nat.lt_of_lt_of_le hc (ex240).1); exact ⟨m1.trans k1, m2.trans k2, m3.trans k3⟩
                  have lt634 := ex_lt ex618 lt238
                  have sh635 := ex_sh ex618 lt238 sh239
                  have lt636 := ex_lt ex618 lt313
                  have sh637 := ex_sh ex618 lt313 sh315
                  have ex638 := ex_tr ex208 ex618
                  have ex639 := ex_tr ex240 ex618
                  obtain ⟨r640, rfl⟩ : ∃ q, r593 = some q := Option.ne_none_iff_exists'.mp nn614
                  have fq641 := hfr620 r640 rfl
                  have dq642 : 176 ≤ r640 := Nat.le_trans hS209.1 fq641
                  obtain ⟨lt644, ow645, sh646⟩ := ht613 r640 rfl
                  obtain ⟨e647, e648, e649⟩ := hq626 r640 rfl
                  obtain ⟨x650, h651⟩ : ∃ y, FI594 110 7 = y := ⟨_, rfl⟩
                  have h651l := congrArg Int32.toInt h651
                  have b652 := gI_110_7 hI597; rw [h651] at b652
                  obtain ⟨x653, h654⟩ : ∃ y, FI594 110 5 = y := ⟨_, rfl⟩
                  have h654l := congrArg Int32.toInt h654
                  have := i_rng x653
                  obtain ⟨x655, h656⟩ : ∃ y, FI594 110 8 = y := ⟨_, rfl⟩
                  have h656l := congrArg Int32.toInt h656
                  have := i_rng x655
                  obtain ⟨x657, h658⟩ : ∃ y, FI594 110 4 = y := ⟨_, rfl⟩
                  have h658l := congrArg Int32.toInt h658
                  have := i_rng x657
                  show hw sk base _ _ _ _ _ [.ref (base + r640), .ref (base + r312)] _ _
                  refine hv_putr (r := some (r640)) (aX4_readLocation 44 rfl) wf_RX4_132 lt636 sh637 (by decide) (by first | exact Or.inl ⟨_, rfl⟩ | exact Or.inr ⟨_, rfl⟩) (Or.inl rfl) (fun FR659 u660 => ?_)
                  obtain ⟨gs662, hg663⟩ : ∃ f, f = va_up gs623 r640 (gs623 r312 + gw622 r312 + 20) := ⟨_, rfl⟩
                  have : gs662 r640 = gs623 r312 + gw622 r312 + 20 := by rw [hg663]; exact va_s
                  have : gs662 r160 = gs623 r160 := by rw [hg663]; exact va_o (Nat.ne_of_lt (Nat.lt_of_lt_of_le lt238 fq641))
                  have : gs662 r312 = gs623 r312 := by rw [hg663]; exact va_o (Nat.ne_of_lt (Nat.lt_of_lt_of_le lt313 fq641))
                  have hk664 : ∀ c, c < n → gp621 c = gp c ∧ gw622 c = gw c ∧ gs662 c = gs c := fun c hc => by
                    obtain ⟨k1, k2, k3⟩ := hk633 c hc
                    exact ⟨k1, k2, by rw [hg663]; exact (va_o (show c ≠ r640 from Nat.ne_of_lt (Nat.lt_of_lt_of_le hc (Nat.le_trans (ex240).1 fq641)))).trans k3⟩
                  have hT661 : g_T n615 SH617 FI594 FR659 gp621 gw622 gs662 := by rw [hg663]; exact gT_pn hS619 hR602 hT624 lt636 sh637 lt644 sh646 (show FR596 r640 5 = none from e649) (Nat.ne_of_lt (Nat.lt_of_lt_of_le lt313 fq641)) (by omega) (by omega) u660
                  have hF665 : h_FR FR659 := hF_up hS619 hF601 u660 sh637 (by decide +kernel)
                  have hR666 : g_R n615 SH617 FR659 := gR_up hR602 u660 sh637 (fun r e => by cases e; exact ⟨lt644, ow645, by rw [sh646]; rfl⟩) (fun _ r e => by cases e; exact (dyn_tag hS619 sh646 (by decide +kernel))) (fun _ => by simp) (fun h => absurd h.1 (ne_tag sh637 (s49 hS619) (by decide)))
                  refine hw_aloadn (aX4_readLocation 45 rfl) rfl ?_
                  refine hw_get (v := .ref (base + r640)) (aX4_readLocation 46 rfl) wf_RX4_132 lt636 sh637 (by decide) (congrArg (fun r => va_rf (h_rf base r)) (show FR659 r312 5 = some r640 from up_eq u660)) ?_
                  refine hw_astoren (L2 := [(2, .ref (base + r640)), (3, .int (y3)), (1, .ref (base + r160)), (0, .ref (base + 110))]) (aX4_readLocation 47 rfl) (by decide) rfl ?_
                  refine hw_aloadn (aX4_readLocation 48 rfl) rfl ?_
                  refine hw_aloadn (aX4_readLocation 49 rfl) rfl ?_
                  refine hw_callV (Bs := [.ref (base + r640)]) (rest := []) (aX4_readLocation 50 rfl) wc_RX4_124 (by decide) rfl wi_yX4_readWidth wv_yX4_readWidth (c110 hS619) (s110 hS619) rfl rfl rfl (Nat.le_of_ble_eq_true rfl) (Nat.le_of_ble_eq_true rfl) (k_width2 (d := d + 140) hS619 hF665 hI597 hR666 (r640) lt644 sh646 ow645 (by have := congrArg Int32.toInt (show FI594 110 7 = x650 from h651); have := congrArg Int32.toInt (show FI594 110 7 = x650 from h651); have := congrArg Int32.toInt (show FI594 111 4 = x4 from (gf_at f598 (c111 hS209) (shd_f (by decide) (s111 hS209)) rfl ((gf_at f578 (c111 hS209) (shd_f (by decide) (s111 hS209)) rfl ((gf_at f326 (c111 hS209) (shd_f (by decide) (s111 hS209)) rfl (kp225))))))); omega) (by have := congrArg Int32.toInt (show FI594 110 5 = x653 from h654); have := congrArg Int32.toInt (show FI594 110 8 = x655 from h656); omega) (by have := congrArg Int32.toInt (show FI594 110 7 = x650 from h651); have := congrArg Int32.toInt (show FI594 111 4 = x4 from (gf_at f598 (c111 hS209) (shd_f (by decide) (s111 hS209)) rfl ((gf_at f578 (c111 hS209) (shd_f (by decide) (s111 hS209)) rfl ((gf_at f326 (c111 hS209) (shd_f (by decide) (s111 hS209)) rfl (kp225))))))); have := congrArg Int32.toInt (show FI594 110 8 = x655 from h656); omega) (gK_mx (L := [(110, 4), (110, 5), (110, 6), (110, 7), (110, 8)]) (A := [117]) (T := [1006]) hS gg1 (gf_tr (ex_shd ex240) (gf_tr (ex_shd ex240) (gf_tr (ex_shd ex240) fr219 f326 rfl rfl rfl) f578 rfl rfl rfl) f598 rfl rfl rfl) (by decide))) (fun v667 sv668 p669 => ?_)
                  have := congrArg Int32.toInt (show FI594 111 4 = x4 from (gf_at f598 (c111 hS209) (shd_f (by decide) (s111 hS209)) rfl ((gf_at f578 (c111 hS209) (shd_f (by decide) (s111 hS209)) rfl ((gf_at f326 (c111 hS209) (shd_f (by decide) (s111 hS209)) rfl (kp225)))))))
                  have := congrArg Int32.toInt (show FI594 111 4 = x4 from (gf_at f598 (c111 hS209) (shd_f (by decide) (s111 hS209)) rfl ((gf_at f578 (c111 hS209) (shd_f (by decide) (s111 hS209)) rfl ((gf_at f326 (c111 hS209) (shd_f (by decide) (s111 hS209)) rfl (kp225)))))))
                  have := congrArg Int32.toInt (show FI594 110 7 = x650 from h651)
                  have := congrArg Int32.toInt (show FI594 110 5 = x653 from h654)
                  have := congrArg Int32.toInt (show FI594 110 5 = x653 from h654)
                  obtain ⟨rfl, FI671, FL672, rfl, hI673, f674, f675, t678, t679, t680, t681, t682⟩ := p669
                  clear t604 t605
                  have hT685 : g_T n615 SH617 FI671 FR659 gp621 gw622 gs662 := gT_mw (L := [(110, 5), (110, 6), (110, 7), (110, 8)]) (A := []) (T := [1006]) (L2 := []) (A2 := []) (T2 := []) hS619 hT661 f674 gf_rf (by decide) (by decide)
                  obtain ⟨x686, h687⟩ : ∃ y, FI671 110 7 = y := ⟨_, rfl⟩
                  have h687l := congrArg Int32.toInt h687
                  have b688 := gI_110_7 hI673; rw [h687] at b688
                  obtain ⟨x689, h690⟩ : ∃ y, FI671 110 5 = y := ⟨_, rfl⟩
                  have h690l := congrArg Int32.toInt h690
                  have := i_rng x689
                  obtain ⟨x691, h692⟩ : ∃ y, FI671 110 8 = y := ⟨_, rfl⟩
                  have h692l := congrArg Int32.toInt h692
                  have := i_rng x691
                  show hw sk base _ _ _ _ _ [] _ _
                  obtain ⟨x693, q695⟩ : ∃ y : Int32, (y3) + Int32.ofInt (1) = y := ⟨_, rfl⟩
                  have e694 : (x693).toInt = (y3).toInt + (1) := by rw [← q695]; exact i_add rfl (by decide) (by omega) (by omega)
                  refine xw_iinc (L2 := [(3, .int (x693)), (2, .ref (base + r640)), (1, .ref (base + r160)), (0, .ref (base + 110))]) (aX4_readLocation 51 rfl) rfl (by decide) (by rw [q695]; rfl) ?_
                  refine xw_goto (tgt := 39) (aX4_readLocation 52 rfl) (by decide) ?_
                  exact hw_L (ih (x693) (some (r640)) FI671 FL672 FR659 n615 sl616 SH617 gp621 gw622 gs662 ex638 hS619 hT685 hk664 ((fun r e => by cases e; exact ⟨lt644, ow645, by rw [sh646]⟩)) (gf_tr (ex_shd ex639) (gf_tr (ex_shd ex240) (gf_tr (ex_shd ex240) (gf_tr (ex_shd ex240) fr219 f326 rfl rfl rfl) f578 rfl rfl rfl) f598 rfl rfl rfl) f674 rfl rfl rfl) (gf_tr (ex_shd ex639) (gf_tr (ex_shd ex240) (gf_tr (ex_shd ex240) fr220 f327 rfl rfl rfl) f599 rfl rfl rfl) f675 rfl rfl rfl) (gf_n (gf_tr (ex_shd ex240) fr221 f600 rfl rfl rfl) u660 f316) hI673 hF665 hR666 (show FI671 111 4 = x4 from (gf_at f674 (c111 hS619) (shd_f (by decide) (s111 hS619)) rfl ((gf_at f598 (c111 hS209) (shd_f (by decide) (s111 hS209)) rfl ((gf_at f578 (c111 hS209) (shd_f (by decide) (s111 hS209)) rfl ((gf_at f326 (c111 hS209) (shd_f (by decide) (s111 hS209)) rfl (kp225))))))))) (by have := (e694 : (x693).toInt = (y3).toInt + (1)); omega) (by have := (e694 : (x693).toInt = (y3).toInt + (1)); have := congrArg Int32.toInt (show FI671 110 7 = x686 from h687); omega) (by have := (e694 : (x693).toInt = (y3).toInt + (1)); have := congrArg Int32.toInt (show FI671 110 5 = x689 from h690); have := congrArg Int32.toInt (show FI671 110 8 = x691 from h692); omega) (by have := (e694 : (x693).toInt = (y3).toInt + (1)); have := congrArg Int32.toInt (show FI671 110 7 = x686 from h687); have := congrArg Int32.toInt (show FI671 110 8 = x691 from h692); omega) (by have := (e694 : (x693).toInt = (y3).toInt + (1)); have := congrArg Int32.toInt (show FI671 110 7 = x686 from h687); omega) (by have := (e694 : (x693).toInt = (y3).toInt + (1)); have := congrArg Int32.toInt (show FI671 110 5 = x689 from h690); omega) (by have := (e694 : (x693).toInt = (y3).toInt + (1)); have := congrArg Int32.toInt (show FI671 110 4 = x657 from (gf_at f674 (c110 hS619) (shd_f (by decide) (s110 hS619)) rfl (h658))); have := congrArg Int32.toInt (show FI671 110 5 = x689 from h690); omega) (by have := (e694 : (x693).toInt = (y3).toInt + (1)); omega) (by have := (e694 : (x693).toInt = (y3).toInt + (1)); have := congrArg Int32.toInt (show FI671 110 7 = x686 from h687); omega) (by have := (e694 : (x693).toInt = (y3).toInt + (1)); have := congrArg Int32.toInt (show FI671 110 7 = x686 from h687); omega) (by have := (e694 : (x693).toInt = (y3).toInt + (1)); omega) (show ∀ m, (some (r640)) = some m → n ≤ m ∧ FR659 m 5 = none ∧ gs662 m + gw622 m + 220 * n ≤ 220 * n615 from (by have := (e694 : (x693).toInt = (y3).toInt + (1)); exact (fun m hm => by cases hm; exact ⟨(Nat.le_trans (ex240).1 fq641), (show FR659 r640 5 = none from (up_c u660 (Nat.ne_of_gt (Nat.lt_of_lt_of_le lt313 fq641)) (e649))), by omega⟩))) (show (some (r640)) ≠ none from (by have := (e694 : (x693).toInt = (y3).toInt + (1)); exact (by simp))) (by have := (e694 : (x693).toInt = (y3).toInt + (1)); omega)) ⟨rfl, rfl, rfl, rfl, trivial⟩
      exact hw_L (lp237 ((9 - 1 : Int).toNat + 1) ((1 : Int32)) (some (r160)) FI183 FL184 FR128 n147 sl148 SH149 gp153 gw154 gs155 ex_rf hS151 hT197 hk159 ((fun r e => by cases e; exact ⟨lt164, ow165, by rw [sh166]⟩)) (gf_tr (ex_shd ex150) (gf_tr ex_rf (gf_tr ex_rf (gf_tr ex_rf gf_rf f77 rfl rfl rfl) f101 rfl rfl rfl) f130 rfl rfl rfl) f186 rfl rfl rfl) (gf_tr (ex_shd ex150) (gf_tr ex_rf (gf_tr ex_rf gf_rf f102 rfl rfl rfl) f131 rfl rfl rfl) f187 rfl rfl rfl) (gf_tr ex_rf gf_rf f132 rfl rfl rfl) hI185 hF133 hR134 (show FI183 111 4 = x4 from (gf_at f186 (c111 hS151) (shd_f (by decide) (s111 hS151)) rfl ((gf_at f130 (c111 hS) (shd_f (by decide) (s111 hS)) rfl ((gf_at f101 (c111 hS) (shd_f (by decide) (s111 hS)) rfl ((gf_at f77 (c111 hS) (shd_f (by decide) (s111 hS)) rfl (h5))))))))) (by have := ((by decide : (1 : Int32).toInt = 1) : ((1 : Int32)).toInt = 1); omega) (by have := ((by decide : (1 : Int32).toInt = 1) : ((1 : Int32)).toInt = 1); have := congrArg Int32.toInt (show FI183 110 7 = x198 from h199); omega) (by have := ((by decide : (1 : Int32).toInt = 1) : ((1 : Int32)).toInt = 1); have := congrArg Int32.toInt (show FI183 110 5 = x201 from h202); have := congrArg Int32.toInt (show FI183 110 8 = x203 from h204); omega) (by have := ((by decide : (1 : Int32).toInt = 1) : ((1 : Int32)).toInt = 1); have := congrArg Int32.toInt (show FI183 110 7 = x198 from h199); have := congrArg Int32.toInt (show FI183 110 8 = x203 from h204); omega) (by have := ((by decide : (1 : Int32).toInt = 1) : ((1 : Int32)).toInt = 1); have := congrArg Int32.toInt (show FI183 110 7 = x198 from h199); omega) (by have := ((by decide : (1 : Int32).toInt = 1) : ((1 : Int32)).toInt = 1); have := congrArg Int32.toInt (show FI183 110 5 = x201 from h202); omega) (by have := ((by decide : (1 : Int32).toInt = 1) : ((1 : Int32)).toInt = 1); have := congrArg Int32.toInt (show FI183 110 4 = x177 from (gf_at f186 (c110 hS151) (shd_f (by decide) (s110 hS151)) rfl (h178))); have := congrArg Int32.toInt (show FI183 110 5 = x201 from h202); omega) (by have := ((by decide : (1 : Int32).toInt = 1) : ((1 : Int32)).toInt = 1); omega) (by have := ((by decide : (1 : Int32).toInt = 1) : ((1 : Int32)).toInt = 1); have := congrArg Int32.toInt (show FI183 110 7 = x198 from h199); omega) (by have := ((by decide : (1 : Int32).toInt = 1) : ((1 : Int32)).toInt = 1); have := congrArg Int32.toInt (show FI183 110 7 = x198 from h199); omega) (by have := ((by decide : (1 : Int32).toInt = 1) : ((1 : Int32)).toInt = 1); omega) (show ∀ m, (some (r160)) = some m → n ≤ m ∧ FR128 m 5 = none ∧ gs155 m + gw154 m + 220 * n ≤ 220 * n147 from (by have := ((by decide : (1 : Int32).toInt = 1) : ((1 : Int32)).toInt = 1); exact (fun m hm => by cases hm; exact ⟨(Nat.le_trans (Nat.le_refl _) fq161), (show FR128 r160 5 = none from e169), by omega⟩))) (show (some (r160)) ≠ none from (by have := ((by decide : (1 : Int32).toInt = 1) : ((1 : Int32)).toInt = 1); exact (by simp))) (by have := ((by decide : (1 : Int32).toInt = 1) : ((1 : Int32)).toInt = 1); omega)) ⟨rfl, rfl, rfl, rfl, trivial⟩
    · clear t80
      replace t81 := t81 (by omega)
      refine hw_aloadn (aX4_readLocation 7 rfl) rfl ?_
      refine hw_callV (Bs := []) (rest := []) (aX4_readLocation 8 rfl) wc_RX4_121 (by decide) rfl wi_yX4_readPlace wv_yX4_readPlace (c110 hS) (s110 hS) rfl rfl rfl (Nat.le_of_ble_eq_true rfl) (Nat.le_of_ble_eq_true rfl) (k_readPlace (d := d) hS hF hI76 hR (gp) (gw) (gs) (by have := congrArg Int32.toInt (show FI75 110 7 = x1 from (gf_at f77 (c110 hS) (shd_f (by decide) (s110 hS)) rfl (h2))); have := congrArg Int32.toInt (show FI75 110 7 = x1 from (gf_at f77 (c110 hS) (shd_f (by decide) (s110 hS)) rfl (h2))); have := congrArg Int32.toInt (show FI75 111 4 = x4 from (gf_at f77 (c111 hS) (shd_f (by decide) (s111 hS)) rfl (h5))); omega) (by have := congrArg Int32.toInt (show FI75 110 5 = x89 from h90); have := congrArg Int32.toInt (show FI75 110 8 = x91 from h92); omega) (by have := congrArg Int32.toInt (show FI75 110 7 = x1 from (gf_at f77 (c110 hS) (shd_f (by decide) (s110 hS)) rfl (h2))); have := congrArg Int32.toInt (show FI75 111 4 = x4 from (gf_at f77 (c111 hS) (shd_f (by decide) (s111 hS)) rfl (h5))); have := congrArg Int32.toInt (show FI75 110 8 = x91 from h92); omega) (by have := congrArg Int32.toInt (show FI75 110 5 = x89 from h90); have := congrArg Int32.toInt (show FI75 110 4 = x87 from h88); omega) (by have := congrArg Int32.toInt (show FI75 110 5 = x89 from h90); have := congrArg Int32.toInt (show FI75 110 4 = x87 from h88); omega) (hT86) (gK_mx (L := [(110, 4), (110, 5), (110, 6), (110, 7), (110, 8)]) (A := [117]) (T := [1006]) hS gg1 (gf_tr ex_rf gf_rf f77 rfl rfl rfl) (by decide))) (fun v696 sv697 p698 => ?_)
      have := congrArg Int32.toInt (show FI75 111 4 = x4 from (gf_at f77 (c111 hS) (shd_f (by decide) (s111 hS)) rfl (h5)))
      have := congrArg Int32.toInt (show FI75 111 4 = x4 from (gf_at f77 (c111 hS) (shd_f (by decide) (s111 hS)) rfl (h5)))
      have := congrArg Int32.toInt (show FI75 110 7 = x1 from (gf_at f77 (c110 hS) (shd_f (by decide) (s110 hS)) rfl (h2)))
      have := congrArg Int32.toInt (show FI75 110 5 = x89 from h90)
      have := congrArg Int32.toInt (show FI75 110 5 = x89 from h90)
      have := congrArg Int32.toInt (show FI75 110 4 = x87 from h88)
      have := congrArg Int32.toInt (show FI75 110 7 = x1 from (gf_at f77 (c110 hS) (shd_f (by decide) (s110 hS)) rfl (h2)))
      have := congrArg Int32.toInt (show FI75 110 7 = x1 from (gf_at f77 (c110 hS) (shd_f (by decide) (s110 hS)) rfl (h2)))
      obtain ⟨r699, rfl, n721, sl722, SH723, FI700, FL701, FR702, rfl, ex724, hS725, hI703, f704, f705, f706, hF707, hR708, t709, t710, t711, t712, t713, t714, t715, t716, t717, u718, ht719, nn720, hfr726⟩ := p698
      obtain ⟨gp727, gw728, gs729, hT730, hkp731, hq732⟩ := u718
      have hk733 : ∀ c, c < n → gp727 c = gp c ∧ gw728 c = gw c ∧ gs729 c = gs c := fun c hc => by obtain ⟨k1, k2, k3⟩ := hk0 c hc; obtain ⟨m1, m2, m3⟩ := hkp731 c (Nat.lt_of_lt_of_le hc (Nat.le_refl _)); exact ⟨m1.trans k1, m2.trans k2, m3.trans k3⟩
      obtain ⟨r734, rfl⟩ : ∃ q, r699 = some q := Option.ne_none_iff_exists'.mp nn720
      have fq735 := hfr726 r734 rfl
      have dq736 : 176 ≤ r734 := Nat.le_trans hS.1 fq735
      obtain ⟨lt738, ow739, sh740⟩ := ht719 r734 rfl
      obtain ⟨e741, e742, e743⟩ := hq732 r734 rfl
      obtain ⟨x744, h745⟩ : ∃ y, FI700 110 7 = y := ⟨_, rfl⟩
      have h745l := congrArg Int32.toInt h745
      have b746 := gI_110_7 hI703; rw [h745] at b746
      obtain ⟨x747, h748⟩ : ∃ y, FI700 110 5 = y := ⟨_, rfl⟩
      have h748l := congrArg Int32.toInt h748
      have := i_rng x747
      obtain ⟨x749, h750⟩ : ∃ y, FI700 110 8 = y := ⟨_, rfl⟩
      have h750l := congrArg Int32.toInt h750
      have := i_rng x749
      obtain ⟨x751, h752⟩ : ∃ y, FI700 110 4 = y := ⟨_, rfl⟩
      have h752l := congrArg Int32.toInt h752
      have := i_rng x751
      show hw sk base _ _ _ _ _ [.ref (base + r734)] _ _
      refine xw_aret (v := h_rf base (some (r734))) (aX4_readLocation 9 rfl) rfl (by first | exact Or.inl ⟨_, rfl⟩ | exact Or.inr ⟨_, rfl⟩) ?_
      exact ⟨some (r734), rfl, n721, sl722, SH723, FI700, FL701, FR702, rfl, ex724, hS725, hI703, (gf_tr ex_rf (gf_tr ex_rf gf_rf f77 rfl rfl rfl) f704 rfl rfl rfl), (gf_tr ex_rf gf_rf f705 rfl rfl rfl), (gf_tr ex_rf gf_rf f706 rfl rfl rfl), hF707, hR708, (by have := congrArg Int32.toInt (show FI700 110 7 = x744 from h745); omega), (by have := congrArg Int32.toInt (show FI700 110 5 = x747 from h748); have := congrArg Int32.toInt (show FI700 110 8 = x749 from h750); omega), (by have := congrArg Int32.toInt (show FI700 110 7 = x744 from h745); have := congrArg Int32.toInt (show FI700 110 8 = x749 from h750); omega), (by have := congrArg Int32.toInt (show FI700 110 7 = x744 from h745); omega), (by have := congrArg Int32.toInt (show FI700 110 5 = x747 from h748); omega), (by have := congrArg Int32.toInt (show FI700 110 4 = x751 from h752); have := congrArg Int32.toInt (show FI700 110 5 = x747 from h748); omega), (by have := congrArg Int32.toInt (show FI700 110 7 = x744 from h745); omega), (by have := congrArg Int32.toInt (show FI700 110 7 = x744 from h745); omega), (by omega), (by exact ⟨gp727, gw728, gs729, hT730, hk733, trivial⟩), ((fun r e => by cases e; exact ⟨lt738, ow739, by rw [sh740]⟩)), (by simp), (fun q e => by cases e; exact (Nat.le_trans (Nat.le_refl _) fq735))⟩
end
section
/-! The variables of a text, while it is read: lo, how many cells there were before. -/
def g_PV (lo : Nat) (SH : Nat → Nat × Nat) (FR : Nat → Nat → Option Nat) (cn : Int) : Prop := ∃ pv, FR 110 2 = some pv ∧ SH pv = (104, 12) ∧ 176 ≤ pv ∧ lo ≤ pv ∧ ∀ i : Nat, (i : Int) < cn → ∃ v, FR pv i = some v ∧ lo ≤ v ∧ 176 ≤ v ∧ g_Vv SH FR v
theorem gK_up {FI FI2 : Nat → Nat → Int32} {c k : Nat} {x : Int32} (h : g_K FI) (hc : c ≠ 111 ∧ c ≠ 112 ∧ c ≠ 114 ∧ c ≠ 115) (u : FI2 = h_up FI c k x) : g_K FI2 := by
  unfold g_K
  rw [up_c u (show 111 ≠ c from fun e => hc.1 e.symm) rfl]
  refine ⟨h.1, by rw [up_c u (show 112 ≠ c from fun e => hc.2.1 e.symm) rfl]; exact h.2.1, fun i hi => ?_⟩
  rw [up_c u (show 115 ≠ c from fun e => hc.2.2.2 e.symm) rfl, up_c u (show 114 ≠ c from fun e => hc.2.2.1 e.symm) rfl]
  exact h.2.2 i hi
theorem gK_nw {FI FI2 : Nat → Nat → Int32} {n : Nat} (h : g_K FI) (hn : 176 ≤ n) (e : ∀ c k, c ≠ n → FI2 c k = FI c k) : g_K FI2 := by
  unfold g_K
  rw [e 111 4 (by omega)]
  refine ⟨h.1, by rw [e 112 _ (by omega)]; exact h.2.1, fun i hi => ?_⟩
  rw [e 115 i (by omega), e 114 i (by omega)]
  exact h.2.2 i hi
end
