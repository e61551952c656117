section
set_option maxHeartbeats 4000000 in
set_option maxRecDepth 100000 in
theorem k_level4S {sk : xK} {base d n sl : Nat} {SH : Nat → Nat × Nat} {FI : Nat → Nat → Int32} {FL : Nat → Nat → Int64} {FR : Nat → Nat → Option Nat} {E e : Nat} (ihU : ∀ (base d n sl : Nat) (SH : Nat → Nat × Nat) (FI : Nat → Nat → Int32) (FL : Nat → Nat → Int64) (FR : Nat → Nat → Option Nat) (hS : h_S n SH) (hF : h_FR FR) (hI : g_I FI) (hR : g_R n SH FR) (gp : Nat → Nat) (gw : Nat → Nat) (gs : Nat → Nat) (g0 : 0 ≤ (FI 110 7).toInt ∧ (FI 110 7).toInt < (FI 111 4).toInt) (g1 : (FI 110 5).toInt = 0 ∨ (FI 110 8).toInt = 1) (g2 : (FI 110 7).toInt + 1 < (FI 111 4).toInt ∨ (FI 110 8).toInt ≤ 3) (g3 : (FI 110 5).toInt ≠ 0 ∨ (FI 110 4).toInt ≤ 12) (g4 : (FI 110 5).toInt ≠ 0 ∨ 13 - (FI 110 4).toInt ≤ (e : Int)) (gg0 : g_T n SH FI FR gp gw gs) (gg1 : g_K FI) , hw sk base (E + d + 11) none 56 0 [(0, .ref (base + 110))] [] (n, sl, SH, FI, FL, FR) (h_A base (fun r s => ∃ n' sl' SH' FI' FL' FR', s = (n', sl', SH', FI', FL', FR') ∧ g_ex n SH n' SH' ∧ h_S n' SH' ∧ g_I FI' ∧ g_fr n (shd SH) [(110, 4), (110, 5), (110, 6), (110, 7), (110, 8)] [] [] FI FI' ∧ g_fr n (shd SH) [(110, 9)] [] [] FL FL' ∧ g_fr n (shd SH) [] [] [] FR FR' ∧ h_FR FR' ∧ g_R n' SH' FR' ∧ (0 ≤ (FI' 110 7).toInt ∧ (FI' 110 7).toInt < (FI 111 4).toInt) ∧ ((FI' 110 5).toInt = 0 ∨ (FI' 110 8).toInt = 1) ∧ ((FI' 110 7).toInt + 1 < (FI 111 4).toInt ∨ (FI' 110 8).toInt ≤ 3) ∧ ((FI 110 7).toInt ≤ (FI' 110 7).toInt) ∧ ((FI 110 5).toInt = 0 ∨ (FI' 110 5).toInt = (FI 110 5).toInt) ∧ ((FI' 110 5).toInt ≠ 0 ∨ (FI' 110 4).toInt = (FI 110 4).toInt) ∧ ((n' : Int) ≤ n + 17 * ((FI' 110 7).toInt - (FI 110 7).toInt) + 1) ∧ ((sl' : Int) ≤ sl + 7 * ((n' : Int) - n)) ∧ ((n : Int) ≤ n') ∧ (∃ gp2 gw2 gs2, g_T n' SH' FI' FR' gp2 gw2 gs2 ∧ (∀ c, c < n → gp2 c = gp c ∧ gw2 c = gw c ∧ gs2 c = gs c) ∧ (∀ q, r = some q → gp2 q = 0 ∧ gw2 q + 20 + 40 * n ≤ 40 * n' ∧ FR' q 6 = none)) ∧ (∀ q, r = some q → q < n' ∧ own q ∧ SH' q = (3, (SH' q).2)) ∧ r ≠ none ∧ (∀ q, r = some q → n ≤ q)))) (ihC : ∀ (base d n sl : Nat) (SH : Nat → Nat × Nat) (FI : Nat → Nat → Int32) (FL : Nat → Nat → Int64) (FR : Nat → Nat → Option Nat) (hS : h_S n SH) (hF : h_FR FR) (hI : g_I FI) (hR : g_R n SH FR) (gp : Nat → Nat) (gw : Nat → Nat) (gs : Nat → Nat) (g0 : 0 ≤ (FI 110 7).toInt ∧ (FI 110 7).toInt < (FI 111 4).toInt) (g1 : (FI 110 5).toInt = 0 ∨ (FI 110 8).toInt = 1) (g2 : (FI 110 7).toInt + 1 < (FI 111 4).toInt ∨ (FI 110 8).toInt ≤ 3) (g3 : (FI 110 5).toInt ≠ 0 ∨ (FI 110 4).toInt ≤ 12) (g4 : (FI 110 5).toInt ≠ 0 ∨ 13 - (FI 110 4).toInt ≤ (e : Int)) (gg0 : g_T n SH FI FR gp gw gs) (gg1 : g_K FI) , hw sk base (E + d + 11) none 53 0 [(0, .ref (base + 110))] [] (n, sl, SH, FI, FL, FR) (h_A base (fun r s => ∃ n' sl' SH' FI' FL' FR', s = (n', sl', SH', FI', FL', FR') ∧ g_ex n SH n' SH' ∧ h_S n' SH' ∧ g_I FI' ∧ g_fr n (shd SH) [(110, 4), (110, 5), (110, 6), (110, 7), (110, 8)] [] [] FI FI' ∧ g_fr n (shd SH) [(110, 9)] [] [] FL FL' ∧ g_fr n (shd SH) [] [] [] FR FR' ∧ h_FR FR' ∧ g_R n' SH' FR' ∧ (0 ≤ (FI' 110 7).toInt ∧ (FI' 110 7).toInt < (FI 111 4).toInt) ∧ ((FI' 110 5).toInt = 0 ∨ (FI' 110 8).toInt = 1) ∧ ((FI' 110 7).toInt + 1 < (FI 111 4).toInt ∨ (FI' 110 8).toInt ≤ 3) ∧ ((FI 110 7).toInt ≤ (FI' 110 7).toInt) ∧ ((FI 110 5).toInt = 0 ∨ (FI' 110 5).toInt = (FI 110 5).toInt) ∧ ((FI' 110 5).toInt ≠ 0 ∨ (FI' 110 4).toInt = (FI 110 4).toInt) ∧ ((n' : Int) ≤ n + 17 * ((FI' 110 7).toInt - (FI 110 7).toInt) + 8) ∧ ((sl' : Int) ≤ sl + 7 * ((n' : Int) - n)) ∧ ((n : Int) ≤ n') ∧ (∃ gp2 gw2 gs2, g_T n' SH' FI' FR' gp2 gw2 gs2 ∧ (∀ c, c < n → gp2 c = gp c ∧ gw2 c = gw c ∧ gs2 c = gs c) ∧ (∀ q, r = some q → gp2 q = 0 ∧ gw2 q + 20 + 40 * n ≤ 40 * n' ∧ FR' q 6 = none)) ∧ (∀ q, r = some q → q < n' ∧ own q ∧ SH' q = (3, (SH' q).2)) ∧ r ≠ none ∧ (∀ q, r = some q → n ≤ q)))) (hS : h_S n SH) (hF : h_FR FR) (hI : g_I FI) (hR : g_R n SH FR) (gp : Nat → Nat) (gw : Nat → Nat) (gs : Nat → Nat) (g0 : 0 ≤ (FI 110 7).toInt ∧ (FI 110 7).toInt < (FI 111 4).toInt) (g1 : (FI 110 7).toInt + 1 < (FI 111 4).toInt ∨ (FI 110 8).toInt ≤ 3) (g2 : (FI 110 5).toInt = 0) (g3 : (FI 110 4).toInt ≤ 12) (g4 : 13 - (FI 110 4).toInt ≤ (e : Int) + 1) (gg0 : g_T n SH FI FR gp gw gs) (gg1 : g_K FI) : hw sk base (E + d + 16) none 54 0 [(0, .ref (base + 110)), (1, .int ((4 : Int32)))] [] (n, sl, SH, FI, FL, FR) (h_A base (fun r s => ∃ n' sl' SH' FI' FL' FR', s = (n', sl', SH', FI', FL', FR') ∧ g_ex n SH n' SH' ∧ h_S n' SH' ∧ g_I FI' ∧ g_fr n (shd SH) [(110, 4), (110, 5), (110, 6), (110, 7), (110, 8)] [] [] FI FI' ∧ g_fr n (shd SH) [(110, 9)] [] [] FL FL' ∧ g_fr n (shd SH) [] [] [] FR FR' ∧ h_FR FR' ∧ g_R n' SH' FR' ∧ (0 ≤ (FI' 110 7).toInt ∧ (FI' 110 7).toInt < (FI 111 4).toInt) ∧ ((FI' 110 5).toInt = 0 ∨ (FI' 110 8).toInt = 1) ∧ ((FI' 110 7).toInt + 1 < (FI 111 4).toInt ∨ (FI' 110 8).toInt ≤ 3) ∧ ((FI 110 7).toInt ≤ (FI' 110 7).toInt) ∧ ((FI 110 5).toInt = 0 ∨ (FI' 110 5).toInt = (FI 110 5).toInt) ∧ ((FI' 110 5).toInt ≠ 0 ∨ (FI' 110 4).toInt = (FI 110 4).toInt) ∧ ((n' : Int) ≤ n + 17 * ((FI' 110 7).toInt - (FI 110 7).toInt) + 4) ∧ ((sl' : Int) ≤ sl + 7 * ((n' : Int) - n)) ∧ ((n : Int) ≤ n') ∧ (∃ gp2 gw2 gs2, g_T n' SH' FI' FR' gp2 gw2 gs2 ∧ (∀ c, c < n → gp2 c = gp c ∧ gw2 c = gw c ∧ gs2 c = gs c) ∧ (∀ q, r = some q → gp2 q = 0 ∧ gw2 q + 20 + 40 * n ≤ 40 * n' ∧ FR' q 6 = none)) ∧ (∀ q, r = some q → q < n' ∧ own q ∧ SH' q = (3, (SH' q).2)) ∧ r ≠ none ∧ (∀ q, r = some q → n ≤ q))) := by
  have hk0 : ∀ c, c < n → gp c = gp c ∧ gw c = gw c ∧ gs c = gs c := fun _ _ => ⟨rfl, rfl, rfl⟩
  obtain ⟨x1, h2⟩ : ∃ y, FI 110 7 = y := ⟨_, rfl⟩
  have h2l := congrArg Int32.toInt h2
  have b3 := gI_110_7 hI; rw [h2] at b3
  obtain ⟨x4, h5⟩ : ∃ y, FI 111 4 = y := ⟨_, rfl⟩
  have h5l := congrArg Int32.toInt h5
  have b6 := gI_111_4 hI; rw [h5] at b6
  obtain ⟨x7, h8⟩ : ∃ y, FI 110 8 = y := ⟨_, rfl⟩
  have h8l := congrArg Int32.toInt h8
  have := i_rng x7
  obtain ⟨x9, h10⟩ : ∃ y, FI 110 5 = y := ⟨_, rfl⟩
  have h10l := congrArg Int32.toInt h10
  have := i_rng x9
  obtain ⟨x11, h12⟩ : ∃ y, FI 110 4 = y := ⟨_, rfl⟩
  have h12l := congrArg Int32.toInt h12
  have := i_rng x11
  refine xw_iloadn (aX4_readLevel 0 rfl) rfl ?_
  refine hw_bp (v := (7 : Int32)) (aX4_readLevel 1 rfl) (by decide) ?_
  refine hw_iclt (tgt := 11) (aX4_readLevel 2 rfl) (by decide) (by decide : (4 : Int32).toInt = 4) (by decide : (7 : Int32).toInt = 7) (fun cd13 => ?_) (fun cd13 => ?_)
  · refine hw_aloadn (aX4_readLevel 6 rfl) rfl ?_
    refine xw_iloadn (aX4_readLevel 7 rfl) rfl ?_
    refine hw_ic (v := (1 : Int32)) (aX4_readLevel 8 rfl) (by decide) ?_
    refine xw_iadd (aX4_readLevel 9 rfl) ?_
    rw [show (((4 : Int32)) + ((1 : Int32)) : Int32) = (5 : Int32) from by decide]
    refine hw_callV (Bs := [.int ((5 : Int32))]) (rest := []) (aX4_readLevel 10 rfl) wc_RX4_177 (by decide) rfl wi_yX4_readLevel wv_yX4_readLevel (c110 hS) (s110 hS) rfl rfl rfl (Nat.le_of_ble_eq_true rfl) (Nat.le_of_ble_eq_true rfl) (k_level5S (d := d) ihU ihC hS hF hI hR (gp) (gw) (gs) (by have := congrArg Int32.toInt (show FI 110 7 = x1 from h2); have := congrArg Int32.toInt (show FI 110 7 = x1 from h2); have := congrArg Int32.toInt (show FI 111 4 = x4 from h5); omega) (by have := congrArg Int32.toInt (show FI 110 7 = x1 from h2); have := congrArg Int32.toInt (show FI 111 4 = x4 from h5); have := congrArg Int32.toInt (show FI 110 8 = x7 from h8); omega) (by have := congrArg Int32.toInt (show FI 110 5 = x9 from h10); omega) (by have := congrArg Int32.toInt (show FI 110 4 = x11 from h12); omega) (by have := congrArg Int32.toInt (show FI 110 4 = x11 from h12); omega) (gg0) (gK_mv (L := [(110, 4), (110, 5), (110, 6), (110, 7), (110, 8)]) (A := []) (T := []) hS gg1 gf_rf (by decide))) (fun v14 sv15 p16 => ?_)
    have := congrArg Int32.toInt (show FI 111 4 = x4 from h5)
    have := congrArg Int32.toInt (show FI 111 4 = x4 from h5)
    have := congrArg Int32.toInt (show FI 110 7 = x1 from h2)
    have := congrArg Int32.toInt (show FI 110 5 = x9 from h10)
    have := congrArg Int32.toInt (show FI 110 5 = x9 from h10)
    have := congrArg Int32.toInt (show FI 110 4 = x11 from h12)
    have := congrArg Int32.toInt (show FI 110 7 = x1 from h2)
    obtain ⟨r17, rfl, n39, sl40, SH41, FI18, FL19, FR20, rfl, ex42, hS43, hI21, f22, f23, f24, hF25, hR26, t27, t28, t29, t30, t31, t32, t33, t34, t35, u36, ht37, nn38, hfr44⟩ := p16
    clear t31
    obtain ⟨gp45, gw46, gs47, hT48, hkp49, hq50⟩ := u36
    have hk51 : ∀ c, c < n → gp45 c = gp c ∧ gw46 c = gw c ∧ gs47 c = gs c := fun c hc => by obtain ⟨k1, k2, k3⟩ := hk0 c hc; obtain ⟨m1, m2, m3⟩ := hkp49 c (Nat.lt_of_lt_of_le hc (Nat.le_refl _)); exact ⟨m1.trans k1, m2.trans k2, m3.trans k3⟩
    obtain ⟨r52, rfl⟩ : ∃ q, r17 = some q := Option.ne_none_iff_exists'.mp nn38
    have fq53 := hfr44 r52 rfl
    have dq54 : 176 ≤ r52 := Nat.le_trans hS.1 fq53
    obtain ⟨lt56, ow57, sh58⟩ := ht37 r52 rfl
    obtain ⟨e59, e60, e61⟩ := hq50 r52 rfl
    obtain ⟨x62, h63⟩ : ∃ y, FI18 110 7 = y := ⟨_, rfl⟩
    have h63l := congrArg Int32.toInt h63
    have b64 := gI_110_7 hI21; rw [h63] at b64
    obtain ⟨x65, h66⟩ : ∃ y, FI18 110 5 = y := ⟨_, rfl⟩
    have h66l := congrArg Int32.toInt h66
    have := i_rng x65
    obtain ⟨x67, h68⟩ : ∃ y, FI18 110 8 = y := ⟨_, rfl⟩
    have h68l := congrArg Int32.toInt h68
    have := i_rng x67
    obtain ⟨x69, h70⟩ : ∃ y, FI18 110 4 = y := ⟨_, rfl⟩
    have h70l := congrArg Int32.toInt h70
    have := i_rng x69
    show hw sk base _ _ _ _ _ [.ref (base + r52)] _ _
    refine hw_astoren (L2 := [(2, .ref (base + r52)), (0, .ref (base + 110)), (1, .int ((4 : Int32)))]) (aX4_readLevel 11 rfl) (by decide) rfl ?_
    refine hw_aloadn (aX4_readLevel 12 rfl) rfl ?_
    refine hw_get (v := .int (x67)) (aX4_readLevel 13 rfl) wf_RX4_51 (c110 hS43) (s110 hS43) (by decide) (congrArg Value.int (show FI18 110 8 = x67 from h68)) ?_
    refine hw_callS (As := [.int (x67)]) (rest := []) (aX4_readLevel 14 rfl) wc_RX4_198 (by decide) rfl wt_yX4_levelOf rfl rfl (Nat.le_of_ble_eq_true rfl) (Nat.le_of_ble_eq_true rfl) (k_levelOf2 (d := E + d + 15) hS43 hF25 hI21 hR26 (x67) ) (fun v71 sv72 p73 => ?_)
    obtain ⟨r74, rfl, rfl, t78⟩ := p73
    have rg_r74 := i_rng r74
    show hw sk base _ _ _ _ _ [.int (r74)] _ _
    refine xw_iloadn (aX4_readLevel 15 rfl) rfl ?_
    refine hw_iceq (tgt := 32) (aX4_readLevel 16 rfl) (by decide) rfl (by decide : (4 : Int32).toInt = 4) (fun cd81 => ?_) (fun cd81 => ?_)
    · refine hv_new (t := 3) hS43 hF25 hI21 hR26 (by unfold g_dt; omega) (aX4_readLevel 19 rfl) rfl (tin_5 (i := 88) rfl rfl) (tin_1 (i := 21) rfl rfl) (fun n82 sl83 SH84 FI85 FL86 FR87 hsl88 nw89 => ?_)
      obtain ⟨hn90, ex91, hS92, hF93, hI94, hR95, lt96, sh97, dy98, eI99, eL100, eR101, zI102, zL103, zR104⟩ := nw89
      have lt105 := ex_lt ex91 lt56
      have sh106 := ex_sh ex91 lt56 sh58
      have ex107 := ex_tr ex42 ex91
      refine xw_dup (aX4_readLevel 20 rfl) rfl ?_
      refine hw_bp (v := (25 : Int32)) (aX4_readLevel 21 rfl) (by decide) ?_
      refine hw_lc (v := (0 : Int64)) (aX4_readLevel 22 rfl) (by decide) ?_
      refine hw_callN (Bs := [.int ((25 : Int32)), .long ((0 : Int64))]) (rest := [.ref (base + n39)]) (aX4_readLevel 23 rfl) wc_RX4_183 (by decide) rfl wi_yX3_init rfl rfl rfl (Nat.le_of_ble_eq_true rfl) (Nat.le_of_ble_eq_true rfl) (k_X3_init (d := E + d + 14) hS92 hF93 hI94 hR95 (n39) lt96 sh97 (Or.inr dy98) dy98 ((25 : Int32)) ((0 : Int64)) ) (fun v108 sv109 p110 => ?_)
      have := ((by decide : (25 : Int32).toInt = 25) : ((25 : Int32)).toInt = 25)
      obtain ⟨rfl, FI112, FL113, rfl, hI114, f115, f116, t119⟩ := p110
      obtain ⟨gp122, hg123⟩ : ∃ f, f = va_up gp45 n39 (0) := ⟨_, rfl⟩
      have : gp122 n39 = 0 := by rw [hg123]; exact va_s
      have : gp122 r52 = gp45 r52 := by rw [hg123]; exact va_o (Nat.ne_of_lt lt56)
      obtain ⟨gw124, hg125⟩ : ∃ f, f = va_up gw46 n39 (20) := ⟨_, rfl⟩
      have : gw124 n39 = 20 := by rw [hg125]; exact va_s
      have : gw124 r52 = gw46 r52 := by rw [hg125]; exact va_o (Nat.ne_of_lt lt56)
      obtain ⟨gs126, hg127⟩ : ∃ f, f = va_up gs47 n39 (0) := ⟨_, rfl⟩
      have : gs126 n39 = 0 := by rw [hg127]; exact va_s
      have : gs126 r52 = gs47 r52 := by rw [hg127]; exact va_o (Nat.ne_of_lt lt56)
      have hk128 : ∀ c, c < n → gp122 c = gp c ∧ gw124 c = gw c ∧ gs126 c = gs c := fun c hc => by
        obtain ⟨k1, k2, k3⟩ := hk51 c hc
        exact ⟨by rw [hg123]; exact (va_o (show c ≠ n39 from Nat.ne_of_lt (Nat.lt_of_lt_of_le hc (ex42).1))).trans k1, by rw [hg125]; exact (va_o (show c ≠ n39 from Nat.ne_of_lt (Nat.lt_of_lt_of_le hc (ex42).1))).trans k2, by rw [hg127]; exact (va_o (show c ≠ n39 from Nat.ne_of_lt (Nat.lt_of_lt_of_le hc (ex42).1))).trans k3⟩
      have hT129 : g_T n82 SH84 FI112 FR87 gp122 gw124 gs126 := by rw [hg123, hg125, hg127]; exact gT_mk hS43 hR26 hT48 hn90 ex91 sh97 (by decide) (fun c hc => (f115 c 0 hc (by simp) (by simp) (by simp)).trans (eI99 c 0 (Nat.ne_of_lt hc))) (fun c k hc => eR101 c k (Nat.ne_of_lt hc)) zR104
      obtain ⟨x130, h131⟩ : ∃ y, FI112 n39 0 = y := ⟨_, rfl⟩
      have h131l := congrArg Int32.toInt h131
      have := i_rng x130
      show hw sk base _ _ _ _ _ [.ref (base + n39)] _ _
      refine hw_astoren (L2 := [(3, .ref (base + n39)), (2, .ref (base + r52)), (0, .ref (base + 110)), (1, .int ((4 : Int32)))]) (aX4_readLevel 24 rfl) (by decide) rfl ?_
      refine hw_aloadn (aX4_readLevel 25 rfl) rfl ?_
      refine hw_aloadn (aX4_readLevel 26 rfl) rfl ?_
      refine hv_putr (r := some (r52)) (aX4_readLevel 27 rfl) wf_RX4_186 lt96 sh97 (by decide) (by first | exact Or.inl ⟨_, rfl⟩ | exact Or.inr ⟨_, rfl⟩) (Or.inl rfl) (fun FR132 u133 => ?_)
      obtain ⟨gp135, hg136⟩ : ∃ f, f = va_up gp122 r52 (n39) := ⟨_, rfl⟩
      have : gp135 r52 = n39 := by rw [hg136]; exact va_s
      have : gp135 n39 = gp122 n39 := by rw [hg136]; exact va_o (Nat.ne_of_gt lt56)
      obtain ⟨gw137, hg138⟩ : ∃ f, f = va_up gw124 n39 (gw124 r52 + 20) := ⟨_, rfl⟩
      have : gw137 n39 = gw124 r52 + 20 := by rw [hg138]; exact va_s
      have : gw137 r52 = gw124 r52 := by rw [hg138]; exact va_o (Nat.ne_of_lt lt56)
      obtain ⟨gs139, hg140⟩ : ∃ f, f = va_up gs126 r52 (0) := ⟨_, rfl⟩
      have : gs139 r52 = 0 := by rw [hg140]; exact va_s
      have : gs139 n39 = gs126 n39 := by rw [hg140]; exact va_o (Nat.ne_of_gt lt56)
      have hk141 : ∀ c, c < n → gp135 c = gp c ∧ gw137 c = gw c ∧ gs139 c = gs c := fun c hc => by
        obtain ⟨k1, k2, k3⟩ := hk128 c hc
        exact ⟨by rw [hg136]; exact (va_o (show c ≠ r52 from Nat.ne_of_lt (Nat.lt_of_lt_of_le hc (Nat.le_trans (Nat.le_refl _) fq53)))).trans k1, by rw [hg138]; exact (va_o (show c ≠ n39 from Nat.ne_of_lt (Nat.lt_of_lt_of_le hc (ex42).1))).trans k2, by rw [hg140]; exact (va_o (show c ≠ r52 from Nat.ne_of_lt (Nat.lt_of_lt_of_le hc (Nat.le_trans (Nat.le_refl _) fq53)))).trans k3⟩
      have hT134 : g_T n82 SH84 FI112 FR132 gp135 gw137 gs139 := by rw [hg136, hg138, hg140]; exact gT_mem hS92 hR95 hT129 lt96 sh97 lt105 sh106 (by rw [show FI112 n39 0 = x130 from h131]; omega) (by omega) (by omega) (Nat.ne_of_lt lt56) lt96 sh97 (by omega) (by omega) (Or.inl ⟨rfl, rfl, (show FR87 n39 3 = none from (zR104 3))⟩) u133
      have hF142 : h_FR FR132 := hF_up hS92 hF93 u133 sh97 (by decide +kernel)
      have hR143 : g_R n82 SH84 FR132 := gR_up hR95 u133 sh97 (fun r e => by cases e; exact ⟨lt105, ow57, by rw [sh106]; rfl⟩) (fun _ r e => by cases e; exact (dyn_tag hS92 sh106 (by decide +kernel))) (fun _ => by simp) (fun h => absurd h.1 (ne_tag sh97 (s49 hS92) (by decide)))
      refine hw_aloadn (aX4_readLevel 28 rfl) rfl ?_
      refine hw_astore (L2 := [(4, .ref (base + r52)), (3, .ref (base + n39)), (2, .ref (base + r52)), (0, .ref (base + 110)), (1, .int ((4 : Int32)))]) (aX4_readLevel 29 rfl) (by decide) rfl ?_
      refine xw_iloadn (aX4_readLevel 30 rfl) rfl ?_
      refine hw_ic (v := (3 : Int32)) (aX4_readLevel 31 rfl) (by decide) ?_
      refine hw_icne (tgt := 60) (aX4_readLevel 32 rfl) (by decide) (by decide : (4 : Int32).toInt = 4) (by decide : (3 : Int32).toInt = 3) (fun cd144 => ?_) (fun cd144 => ?_)
      · refine hw_sp (v := (1000 : Int32)) (aX4_readLevel 35 rfl) (by decide) ?_
        refine xw_istore (L2 := [(5, .int ((1000 : Int32))), (4, .ref (base + r52)), (3, .ref (base + n39)), (2, .ref (base + r52)), (0, .ref (base + 110)), (1, .int ((4 : Int32)))]) (aX4_readLevel 36 rfl) (by decide) rfl ?_
        refine hw_ic (v := (0 : Int32)) (aX4_readLevel 37 rfl) (by decide) ?_
        refine xw_istore (L2 := [(6, .int ((0 : Int32))), (5, .int ((1000 : Int32))), (4, .ref (base + r52)), (3, .ref (base + n39)), (2, .ref (base + r52)), (0, .ref (base + 110)), (1, .int ((4 : Int32)))]) (aX4_readLevel 38 rfl) (by decide) rfl ?_
        have lp180 : ∀ (m : Nat) (y6 : Int32) (y4 : Option Nat) (FIv151 : Nat → Nat → Int32) (FLv152 : Nat → Nat → Int64) (FRv153 : Nat → Nat → Option Nat) (n145 sl146 : Nat) (SH147 : Nat → Nat × Nat) (gp154 gw155 gs156 : Nat → Nat), (g_ex n82 SH84 n145 SH147) → (h_S n145 SH147) → (g_T n145 SH147 FIv151 FRv153 gp154 gw155 gs156) → (∀ c, c < n → gp154 c = gp c ∧ gw155 c = gw c ∧ gs156 c = gs c) → (∀ q, y4 = some q → q < n145 ∧ own q ∧ SH147 q = (3, (SH147 q).2)) → (g_fr n (shd SH) [(110, 4), (110, 5), (110, 6), (110, 7), (110, 8)] [] [] FI FIv151) → (g_fr n (shd SH) [(110, 9)] [] [] FL FLv152) → (g_fr n (shd SH) [] [] [] FR FRv153) → (g_I FIv151) → (h_FR FRv153) → (g_R n145 SH147 FRv153) → (FIv151 111 4 = x4) → (FRv153 n39 4 = none) → (FRv153 n39 5 = none) → (FRv153 n39 6 = none) → (FIv151 n39 0 = x130) → (FRv153 n39 3 = r52) → (0 ≤ (y6).toInt ∧ (y6).toInt ≤ 1000) → (0 ≤ (FIv151 110 7).toInt ∧ (FIv151 110 7).toInt < (FI 111 4).toInt) → ((FIv151 110 5).toInt = 0 ∨ (FIv151 110 8).toInt = 1) → ((FIv151 110 7).toInt + 1 < (FI 111 4).toInt ∨ (FIv151 110 8).toInt ≤ 3) → ((FI 110 7).toInt ≤ (FIv151 110 7).toInt) → ((FIv151 110 5).toInt ≠ 0 ∨ (FIv151 110 4).toInt = (FI 110 4).toInt) → ((n145 : Int) ≤ n + 17 * ((FIv151 110 7).toInt - (FI 110 7).toInt) + 4) → ((sl146 : Int) ≤ sl + 7 * ((n145 : Int) - n)) → ((n : Int) ≤ n145) → (gp154 (n39) = 0 ∧ gw155 (n39) + 20 + 40 * n ≤ 40 * n145) → (∀ m, (y4) = some m → gp154 m = (n39) ∧ gw155 (n39) = gs156 m + gw155 m + 20 ∧ n ≤ m ∧ m ≠ (n39) ∧ FRv153 m 6 = none) → ((y4) ≠ none) → 1000 - (y6).toInt < m → hw sk base (E + d + 16) none 54 68 [(6, .int (y6)), (5, .int ((1000 : Int32))), (4, va_rf (h_rf base (y4))), (3, .ref (base + n39)), (0, .ref (base + 110)), (1, .int ((4 : Int32)))] [] (n145, sl146, SH147, FIv151, FLv152, FRv153) (h_A base (fun r s => ∃ n' sl' SH' FI' FL' FR', s = (n', sl', SH', FI', FL', FR') ∧ g_ex n SH n' SH' ∧ h_S n' SH' ∧ g_I FI' ∧ g_fr n (shd SH) [(110, 4), (110, 5), (110, 6), (110, 7), (110, 8)] [] [] FI FI' ∧ g_fr n (shd SH) [(110, 9)] [] [] FL FL' ∧ g_fr n (shd SH) [] [] [] FR FR' ∧ h_FR FR' ∧ g_R n' SH' FR' ∧ (0 ≤ (FI' 110 7).toInt ∧ (FI' 110 7).toInt < (FI 111 4).toInt) ∧ ((FI' 110 5).toInt = 0 ∨ (FI' 110 8).toInt = 1) ∧ ((FI' 110 7).toInt + 1 < (FI 111 4).toInt ∨ (FI' 110 8).toInt ≤ 3) ∧ ((FI 110 7).toInt ≤ (FI' 110 7).toInt) ∧ ((FI 110 5).toInt = 0 ∨ (FI' 110 5).toInt = (FI 110 5).toInt) ∧ ((FI' 110 5).toInt ≠ 0 ∨ (FI' 110 4).toInt = (FI 110 4).toInt) ∧ ((n' : Int) ≤ n + 17 * ((FI' 110 7).toInt - (FI 110 7).toInt) + 4) ∧ ((sl' : Int) ≤ sl + 7 * ((n' : Int) - n)) ∧ ((n : Int) ≤ n') ∧ (∃ gp2 gw2 gs2, g_T n' SH' FI' FR' gp2 gw2 gs2 ∧ (∀ c, c < n → gp2 c = gp c ∧ gw2 c = gw c ∧ gs2 c = gs c) ∧ (∀ q, r = some q → gp2 q = 0 ∧ gw2 q + 20 + 40 * n ≤ 40 * n' ∧ FR' q 6 = none)) ∧ (∀ q, r = some q → q < n' ∧ own q ∧ SH' q = (3, (SH' q).2)) ∧ r ≠ none ∧ (∀ q, r = some q → n ≤ q))) := by
          intro m
          induction m with
          | zero => intro y6 y4 FIv151 FLv152 FRv153 n145 sl146 SH147 gp154 gw155 gs156 ex148 hS149 hT157 hk158 ty150 fr159 fr160 fr161 hI162 hF163 hR164 kp165 kp166 kp167 kp168 kp169 kp170 iv171 iv172 iv173 iv174 iv175 iv176 iv177 iv178 iv179 xi68_0 xi68_1 xi68_2 hm; omega
          | succ m ih =>
            intro y6 y4 FIv151 FLv152 FRv153 n145 sl146 SH147 gp154 gw155 gs156 ex148 hS149 hT157 hk158 ty150 fr159 fr160 fr161 hI162 hF163 hR164 kp165 kp166 kp167 kp168 kp169 kp170 iv171 iv172 iv173 iv174 iv175 iv176 iv177 iv178 iv179 xi68_0 xi68_1 xi68_2 hm
            have rg_y6 := i_rng y6
            have := congrArg Int32.toInt kp165
            have := congrArg Int32.toInt kp169
            have lt181 := ex_lt ex148 lt96
            have sh182 := ex_sh ex148 lt96 sh97
            have lt183 := ex_lt ex148 lt105
            have sh184 := ex_sh ex148 lt105 sh106
            have ex185 := ex_tr ex107 ex148
            obtain ⟨x186, h187⟩ : ∃ y, FIv151 110 7 = y := ⟨_, rfl⟩
            have h187l := congrArg Int32.toInt h187
            have b188 := gI_110_7 hI162; rw [h187] at b188
            obtain ⟨x189, h190⟩ : ∃ y, FIv151 110 5 = y := ⟨_, rfl⟩
            have h190l := congrArg Int32.toInt h190
            have := i_rng x189
            obtain ⟨x191, h192⟩ : ∃ y, FIv151 110 8 = y := ⟨_, rfl⟩
            have h192l := congrArg Int32.toInt h192
            have := i_rng x191
            obtain ⟨x193, h194⟩ : ∃ y, FIv151 110 4 = y := ⟨_, rfl⟩
            have h194l := congrArg Int32.toInt h194
            have := i_rng x193
            refine xw_iload (aX4_readLevel 39 rfl) rfl ?_
            refine xw_iload (aX4_readLevel 40 rfl) rfl ?_
            refine hw_icge (tgt := 128) (aX4_readLevel 41 rfl) (by decide) rfl (by decide : (1000 : Int32).toInt = 1000) (fun cd195 => ?_) (fun cd195 => ?_)
            · obtain ⟨hz1, hz2⟩ := xi68_0
              refine hw_aloadn (aX4_readLevel 67 rfl) rfl ?_
              refine xw_aret (v := h_rf base (some (n39))) (aX4_readLevel 68 rfl) rfl (by first | exact Or.inl ⟨_, rfl⟩ | exact Or.inr ⟨_, rfl⟩) ?_
              exact ⟨some (n39), rfl, n145, sl146, SH147, FIv151, FLv152, FRv153, rfl, ex185, hS149, hI162, fr159, fr160, fr161, hF163, hR164, (by have := congrArg Int32.toInt (show FIv151 110 7 = x186 from h187); omega), (by have := congrArg Int32.toInt (show FIv151 110 5 = x189 from h190); have := congrArg Int32.toInt (show FIv151 110 8 = x191 from h192); omega), (by have := congrArg Int32.toInt (show FIv151 110 7 = x186 from h187); have := congrArg Int32.toInt (show FIv151 110 8 = x191 from h192); omega), (by have := congrArg Int32.toInt (show FIv151 110 7 = x186 from h187); omega), (by have := congrArg Int32.toInt (show FIv151 110 5 = x189 from h190); omega), (by have := congrArg Int32.toInt (show FIv151 110 4 = x193 from h194); have := congrArg Int32.toInt (show FIv151 110 5 = x189 from h190); omega), (by have := congrArg Int32.toInt (show FIv151 110 7 = x186 from h187); omega), (by omega), (by omega), (by exact ⟨gp154, gw155, gs156, hT157, hk158, fun q e => by cases e; exact ⟨by omega, by omega, (show FRv153 n39 6 = none from kp168)⟩⟩), ((fun r e => by cases e; exact ⟨lt181, (Or.inr dy98), by rw [sh182]⟩)), (by simp), (fun q e => by cases e; exact (ex42).1)⟩
            · refine hw_aloadn (aX4_readLevel 42 rfl) rfl ?_
              refine hw_get (v := .int (x191)) (aX4_readLevel 43 rfl) wf_RX4_51 (c110 hS149) (s110 hS149) (by decide) (congrArg Value.int (show FIv151 110 8 = x191 from h192)) ?_
              refine hw_callS (As := [.int (x191)]) (rest := []) (aX4_readLevel 44 rfl) wc_RX4_198 (by decide) rfl wt_yX4_levelOf rfl rfl (Nat.le_of_ble_eq_true rfl) (Nat.le_of_ble_eq_true rfl) (k_levelOf2 (d := E + d + 15) hS149 hF163 hI162 hR164 (x191) ) (fun v196 sv197 p198 => ?_)
              obtain ⟨r199, rfl, rfl, t203⟩ := p198
              have rg_r199 := i_rng r199
              show hw sk base _ _ _ _ _ [.int (r199)] _ _
              refine xw_iloadn (aX4_readLevel 45 rfl) rfl ?_
              refine hw_icne (tgt := 128) (aX4_readLevel 46 rfl) (by decide) rfl (by decide : (4 : Int32).toInt = 4) (fun cd206 => ?_) (fun cd206 => ?_)
              · obtain ⟨hz1, hz2⟩ := xi68_0
                refine hw_aloadn (aX4_readLevel 67 rfl) rfl ?_
                refine xw_aret (v := h_rf base (some (n39))) (aX4_readLevel 68 rfl) rfl (by first | exact Or.inl ⟨_, rfl⟩ | exact Or.inr ⟨_, rfl⟩) ?_
                exact ⟨some (n39), rfl, n145, sl146, SH147, FIv151, FLv152, FRv153, rfl, ex185, hS149, hI162, fr159, fr160, fr161, hF163, hR164, (by have := congrArg Int32.toInt (show FIv151 110 7 = x186 from h187); omega), (by have := congrArg Int32.toInt (show FIv151 110 5 = x189 from h190); have := congrArg Int32.toInt (show FIv151 110 8 = x191 from h192); omega), (by have := congrArg Int32.toInt (show FIv151 110 7 = x186 from h187); have := congrArg Int32.toInt (show FIv151 110 8 = x191 from h192); omega), (by have := congrArg Int32.toInt (show FIv151 110 7 = x186 from h187); omega), (by have := congrArg Int32.toInt (show FIv151 110 5 = x189 from h190); omega), (by have := congrArg Int32.toInt (show FIv151 110 4 = x193 from h194); have := congrArg Int32.toInt (show FIv151 110 5 = x189 from h190); omega), (by have := congrArg Int32.toInt (show FIv151 110 7 = x186 from h187); omega), (by omega), (by omega), (by exact ⟨gp154, gw155, gs156, hT157, hk158, fun q e => by cases e; exact ⟨by omega, by omega, (show FRv153 n39 6 = none from kp168)⟩⟩), ((fun r e => by cases e; exact ⟨lt181, (Or.inr dy98), by rw [sh182]⟩)), (by simp), (fun q e => by cases e; exact (ex42).1)⟩
              · refine hw_aloadn (aX4_readLevel 47 rfl) rfl ?_
                refine hw_get (v := .int (x191)) (aX4_readLevel 48 rfl) wf_RX4_51 (c110 hS149) (s110 hS149) (by decide) (congrArg Value.int (show FIv151 110 8 = x191 from h192)) ?_
                refine xw_istore (L2 := [(7, .int (x191)), (6, .int (y6)), (5, .int ((1000 : Int32))), (4, va_rf (h_rf base (y4))), (3, .ref (base + n39)), (0, .ref (base + 110)), (1, .int ((4 : Int32)))]) (aX4_readLevel 49 rfl) (by decide) (by first | rfl | simp [x_s1, x_s2, va_cat, va_ci, va_cl, va_cr, va_cn] | (simp [x_s1, x_s2, va_cat, va_ci, va_cl, va_cr, va_cn]; decide)) ?_
                obtain ⟨r207, rfl⟩ := Option.ne_none_iff_exists'.mp xi68_2
                obtain ⟨lt208, ow209, sh210⟩ := ty150 r207 rfl
                show hw sk base _ _ _ _ [(7, .int (x191)), (6, .int (y6)), (5, .int ((1000 : Int32))), (4, .ref (base + r207)), (3, .ref (base + n39)), (0, .ref (base + 110)), (1, .int ((4 : Int32)))] [] _ _
                obtain ⟨f211, f212, f213, f214, f215⟩ := xi68_1 r207 rfl
                obtain ⟨f216, f217⟩ := xi68_0
                clear xi68_1 xi68_2
                refine hw_aloadn (aX4_readLevel 50 rfl) rfl ?_
                refine hw_callV (Bs := []) (rest := []) (aX4_readLevel 51 rfl) wc_RX4_48 (by decide) rfl wi_yX4_take wv_yX4_take (c110 hS149) (s110 hS149) rfl rfl rfl (Nat.le_of_ble_eq_true rfl) (Nat.le_of_ble_eq_true rfl) (k_take2 (d := E + d + 15) hS149 hF163 hI162 hR164 (by have := congrArg Int32.toInt (show FIv151 110 7 = x186 from h187); have := congrArg Int32.toInt (show FIv151 110 7 = x186 from h187); have := congrArg Int32.toInt (show FIv151 111 4 = x4 from kp165); omega) (by have := congrArg Int32.toInt (show FIv151 110 5 = x189 from h190); have := congrArg Int32.toInt (show FIv151 110 8 = x191 from h192); omega) (by have := congrArg Int32.toInt (show FIv151 110 7 = x186 from h187); have := congrArg Int32.toInt (show FIv151 111 4 = x4 from kp165); have := congrArg Int32.toInt (show FIv151 110 8 = x191 from h192); omega) (gK_mv (L := [(110, 4), (110, 5), (110, 6), (110, 7), (110, 8)]) (A := []) (T := []) hS gg1 fr159 (by decide))) (fun v218 sv219 p220 => ?_)
                have := congrArg Int32.toInt (show FIv151 111 4 = x4 from kp165)
                have := congrArg Int32.toInt (show FIv151 111 4 = x4 from kp165)
                have := congrArg Int32.toInt (show FIv151 110 7 = x186 from h187)
                have := congrArg Int32.toInt (show FIv151 110 5 = x189 from h190)
                have := congrArg Int32.toInt (show FIv151 110 5 = x189 from h190)
                have := congrArg Int32.toInt (show FIv151 110 5 = x189 from h190)
                have := congrArg Int32.toInt (show FIv151 110 5 = x189 from h190)
                have := congrArg Int32.toInt (show FIv151 110 7 = x186 from h187)
                have := congrArg Int32.toInt (show FIv151 111 4 = x4 from kp165)
                have := congrArg Int32.toInt (show FIv151 110 7 = x186 from h187)
                have := congrArg Int32.toInt (show FIv151 110 7 = x186 from h187)
                have := congrArg Int32.toInt (show FIv151 110 5 = x189 from h190)
                have := congrArg Int32.toInt (show FIv151 110 8 = x191 from h192)
                obtain ⟨rfl, FI222, FL223, rfl, hI224, f225, f226, t229, t230, t231, t232, t233, t234, t235, t236, t237⟩ := p220
                replace t235 := (t235.resolve_left (by omega)).resolve_left (by omega)
                clear t28 t29 t233 t237
                have hT240 : g_T n145 SH147 FI222 FRv153 gp154 gw155 gs156 := gT_mw (L := [(110, 7), (110, 8)]) (A := []) (T := []) (L2 := []) (A2 := []) (T2 := []) hS149 hT157 f225 gf_rf (by decide) (by decide)
                obtain ⟨x241, h242⟩ : ∃ y, FI222 110 7 = y := ⟨_, rfl⟩
                have h242l := congrArg Int32.toInt h242
                have b243 := gI_110_7 hI224; rw [h242] at b243
                obtain ⟨x244, h245⟩ : ∃ y, FI222 110 8 = y := ⟨_, rfl⟩
                have h245l := congrArg Int32.toInt h245
                have := i_rng x244
                show hw sk base _ _ _ _ _ [] _ _
                refine hw_aload (aX4_readLevel 52 rfl) rfl ?_
                refine hw_aloadn (aX4_readLevel 53 rfl) rfl ?_
                refine xw_iloadn (aX4_readLevel 54 rfl) rfl ?_
                refine hw_ic (v := (1 : Int32)) (aX4_readLevel 55 rfl) (by decide) ?_
                refine xw_iadd (aX4_readLevel 56 rfl) ?_
                rw [show (((4 : Int32)) + ((1 : Int32)) : Int32) = (5 : Int32) from by decide]
                refine hw_callV (Bs := [.int ((5 : Int32))]) (rest := [.ref (base + r207)]) (aX4_readLevel 57 rfl) wc_RX4_177 (by decide) rfl wi_yX4_readLevel wv_yX4_readLevel (c110 hS149) (s110 hS149) rfl rfl rfl (Nat.le_of_ble_eq_true rfl) (Nat.le_of_ble_eq_true rfl) (k_level5S (d := d) ihU ihC hS149 hF163 hI224 hR164 (gp154) (gw155) (gs156) (by have := congrArg Int32.toInt (show FI222 110 7 = x241 from h242); have := congrArg Int32.toInt (show FI222 110 7 = x241 from h242); have := congrArg Int32.toInt (show FI222 111 4 = x4 from (gf_at f225 (c111 hS149) (shd_f (by decide) (s111 hS149)) rfl (kp165))); omega) (by have := congrArg Int32.toInt (show FI222 110 7 = x241 from h242); have := congrArg Int32.toInt (show FI222 111 4 = x4 from (gf_at f225 (c111 hS149) (shd_f (by decide) (s111 hS149)) rfl (kp165))); have := congrArg Int32.toInt (show FI222 110 8 = x244 from h245); omega) (by have := congrArg Int32.toInt (show FI222 110 5 = x189 from (gf_at f225 (c110 hS149) (shd_f (by decide) (s110 hS149)) rfl (h190))); omega) (by have := congrArg Int32.toInt (show FI222 110 4 = x193 from (gf_at f225 (c110 hS149) (shd_f (by decide) (s110 hS149)) rfl (h194))); omega) (by have := congrArg Int32.toInt (show FI222 110 4 = x193 from (gf_at f225 (c110 hS149) (shd_f (by decide) (s110 hS149)) rfl (h194))); omega) (hT240) (gK_mv (L := [(110, 4), (110, 5), (110, 6), (110, 7), (110, 8)]) (A := []) (T := []) hS gg1 (gf_tr (ex_shd ex185) fr159 f225 rfl rfl rfl) (by decide))) (fun v246 sv247 p248 => ?_)
                have := congrArg Int32.toInt (show FI222 111 4 = x4 from (gf_at f225 (c111 hS149) (shd_f (by decide) (s111 hS149)) rfl (kp165)))
                have := congrArg Int32.toInt (show FI222 111 4 = x4 from (gf_at f225 (c111 hS149) (shd_f (by decide) (s111 hS149)) rfl (kp165)))
                have := congrArg Int32.toInt (show FI222 110 7 = x241 from h242)
                have := congrArg Int32.toInt (show FI222 110 5 = x189 from (gf_at f225 (c110 hS149) (shd_f (by decide) (s110 hS149)) rfl (h190)))
                have := congrArg Int32.toInt (show FI222 110 5 = x189 from (gf_at f225 (c110 hS149) (shd_f (by decide) (s110 hS149)) rfl (h190)))
                have := congrArg Int32.toInt (show FI222 110 4 = x193 from (gf_at f225 (c110 hS149) (shd_f (by decide) (s110 hS149)) rfl (h194)))
                have := congrArg Int32.toInt (show FI222 110 7 = x241 from h242)
                obtain ⟨r249, rfl, n271, sl272, SH273, FI250, FL251, FR252, rfl, ex274, hS275, hI253, f254, f255, f256, hF257, hR258, t259, t260, t261, t262, t263, t264, t265, t266, t267, u268, ht269, nn270, hfr276⟩ := p248
                clear t230 t231 t263
                obtain ⟨gp277, gw278, gs279, hT280, hkp281, hq282⟩ := u268
                obtain ⟨e283, e284, e285⟩ := hkp281 n39 lt181
                obtain ⟨e286, e287, e288⟩ := hkp281 r207 lt208
                obtain ⟨e289, e290, e291⟩ := hkp281 r52 lt183
                have hk292 : ∀ c, c < n → gp277 c = gp c ∧ gw278 c = gw c ∧ gs279 c = gs c := fun c hc => by obtain ⟨k1, k2, k3⟩ := hk158 c hc; obtain ⟨m1, m2, m3⟩ := hkp281 c (Nat.lt_of_lt_of_le hc (ex185).1); exact ⟨m1.trans k1, m2.trans k2, m3.trans k3⟩
                have lt293 := ex_lt ex274 lt181
                have sh294 := ex_sh ex274 lt181 sh182
                have lt295 := ex_lt ex274 lt208
                have sh296 := ex_sh ex274 lt208 sh210
                have lt297 := ex_lt ex274 lt183
                have sh298 := ex_sh ex274 lt183 sh184
                have ex299 := ex_tr ex148 ex274
                have ex300 := ex_tr ex185 ex274
                obtain ⟨r301, rfl⟩ : ∃ q, r249 = some q := Option.ne_none_iff_exists'.mp nn270
                have fq302 := hfr276 r301 rfl
                have dq303 : 176 ≤ r301 := Nat.le_trans hS149.1 fq302
                obtain ⟨lt305, ow306, sh307⟩ := ht269 r301 rfl
                obtain ⟨e308, e309, e310⟩ := hq282 r301 rfl
                obtain ⟨x311, h312⟩ : ∃ y, FI250 110 7 = y := ⟨_, rfl⟩
                have h312l := congrArg Int32.toInt h312
                have b313 := gI_110_7 hI253; rw [h312] at b313
                obtain ⟨x314, h315⟩ : ∃ y, FI250 110 5 = y := ⟨_, rfl⟩
                have h315l := congrArg Int32.toInt h315
                have := i_rng x314
                obtain ⟨x316, h317⟩ : ∃ y, FI250 110 8 = y := ⟨_, rfl⟩
                have h317l := congrArg Int32.toInt h317
                have := i_rng x316
                obtain ⟨x318, h319⟩ : ∃ y, FI250 110 4 = y := ⟨_, rfl⟩
                have h319l := congrArg Int32.toInt h319
                have := i_rng x318
                show hw sk base _ _ _ _ _ [.ref (base + r301), .ref (base + r207)] _ _
                refine hv_putr (r := some (r301)) (aX4_readLevel 58 rfl) wf_RX4_202 lt295 sh296 (by decide) (by first | exact Or.inl ⟨_, rfl⟩ | exact Or.inr ⟨_, rfl⟩) (Or.inl rfl) (fun FR320 u321 => ?_)
                obtain ⟨gp323, hg324⟩ : ∃ f, f = va_up gp277 r301 (n39) := ⟨_, rfl⟩
                have : gp323 r301 = n39 := by rw [hg324]; exact va_s
                have : gp323 n39 = gp277 n39 := by rw [hg324]; exact va_o (Nat.ne_of_lt (Nat.lt_of_lt_of_le lt181 fq302))
                have : gp323 r207 = gp277 r207 := by rw [hg324]; exact va_o (Nat.ne_of_lt (Nat.lt_of_lt_of_le lt208 fq302))
                have : gp323 r52 = gp277 r52 := by rw [hg324]; exact va_o (Nat.ne_of_lt (Nat.lt_of_lt_of_le lt183 fq302))
                obtain ⟨gw325, hg326⟩ : ∃ f, f = va_up gw278 n39 (gs279 r207 + gw278 r207 + gw278 r301 + 40) := ⟨_, rfl⟩
                have : gw325 n39 = gs279 r207 + gw278 r207 + gw278 r301 + 40 := by rw [hg326]; exact va_s
                have : gw325 r207 = gw278 r207 := by rw [hg326]; exact va_o f214
                have : gw325 r301 = gw278 r301 := by rw [hg326]; exact va_o (Nat.ne_of_gt (Nat.lt_of_lt_of_le lt181 fq302))
                have : gw325 r52 = gw278 r52 := by rw [hg326]; exact va_o (Nat.ne_of_lt lt56)
                obtain ⟨gs327, hg328⟩ : ∃ f, f = va_up gs279 r301 (gs279 r207 + gw278 r207 + 20) := ⟨_, rfl⟩
                have : gs327 r301 = gs279 r207 + gw278 r207 + 20 := by rw [hg328]; exact va_s
                have : gs327 n39 = gs279 n39 := by rw [hg328]; exact va_o (Nat.ne_of_lt (Nat.lt_of_lt_of_le lt181 fq302))
                have : gs327 r207 = gs279 r207 := by rw [hg328]; exact va_o (Nat.ne_of_lt (Nat.lt_of_lt_of_le lt208 fq302))
                have : gs327 r52 = gs279 r52 := by rw [hg328]; exact va_o (Nat.ne_of_lt (Nat.lt_of_lt_of_le lt183 fq302))
                have hk329 : ∀ c, c < n → gp323 c = gp c ∧ gw325 c = gw c ∧ gs327 c = gs c := fun c hc => by
                  obtain ⟨k1, k2, k3⟩ := hk292 c hc
                  exact ⟨by rw [hg324]; exact (va_o (show c ≠ r301 from Nat.ne_of_lt (Nat.lt_of_lt_of_le hc (Nat.le_trans (ex185).1 fq302)))).trans k1, by rw [hg326]; exact (va_o (show c ≠ n39 from Nat.ne_of_lt (Nat.lt_of_lt_of_le hc (ex42).1))).trans k2, by rw [hg328]; exact (va_o (show c ≠ r301 from Nat.ne_of_lt (Nat.lt_of_lt_of_le hc (Nat.le_trans (ex185).1 fq302)))).trans k3⟩
                have hT322 : g_T n271 SH273 FI250 FR320 gp323 gw325 gs327 := by rw [hg324, hg326, hg328]; exact gT_mem hS275 hR258 hT280 lt293 sh294 lt305 sh307 (by rw [show FI250 n39 0 = x130 from (gf_as hS149 f254 lt181 sh182 (shd_d (dyn_tag hS149 sh182 (by decide +kernel)) sh182) (by decide +kernel) ((gf_as hS149 f225 lt181 sh182 (shd_d (dyn_tag hS149 sh182 (by decide +kernel)) sh182) (by decide +kernel) (kp169))))]; omega) (by omega) (by omega) (Nat.ne_of_gt (Nat.lt_of_lt_of_le lt181 fq302)) lt295 sh296 (by omega) (by omega) (Or.inr ⟨f214, (Ne.symm (Nat.ne_of_gt (Nat.lt_of_lt_of_le lt208 fq302))), rfl, by omega, by omega⟩) u321
                have hF330 : h_FR FR320 := hF_up hS275 hF257 u321 sh296 (by decide +kernel)
                have hR331 : g_R n271 SH273 FR320 := gR_up hR258 u321 sh296 (fun r e => by cases e; exact ⟨lt305, ow306, by rw [sh307]; rfl⟩) (fun _ r e => by cases e; exact (dyn_tag hS275 sh307 (by decide +kernel))) (fun _ => by simp) (fun h => absurd h.1 (ne_tag sh296 (s49 hS275) (by decide)))
                refine hw_aload (aX4_readLevel 59 rfl) rfl ?_
                refine hw_get (v := .ref (base + r301)) (aX4_readLevel 60 rfl) wf_RX4_202 lt295 sh296 (by decide) (congrArg (fun r => va_rf (h_rf base r)) (show FR320 r207 6 = some r301 from up_eq u321)) ?_
                refine hw_astore (L2 := [(4, .ref (base + r301)), (7, .int (x191)), (6, .int (y6)), (5, .int ((1000 : Int32))), (3, .ref (base + n39)), (0, .ref (base + 110)), (1, .int ((4 : Int32)))]) (aX4_readLevel 61 rfl) (by decide) rfl ?_
                refine hw_aload (aX4_readLevel 62 rfl) rfl ?_
                refine xw_iload (aX4_readLevel 63 rfl) rfl ?_
                refine hv_puti (aX4_readLevel 64 rfl) wf_RX4_204 lt305 sh307 (by decide) rfl rfl (fun FI332 u333 => ?_)
                have hT334 : g_T n271 SH273 FI332 FR320 gp323 gw325 gs327 := gT_wi hT322 (fun _ => by decide) u333
                have hI335 : g_I FI332 := gU_F hI253 u333 (g_hi (dyn_tag hS275 sh307 (by decide +kernel)))
                obtain ⟨x336, q338⟩ : ∃ y : Int32, (y6) + Int32.ofInt (1) = y := ⟨_, rfl⟩
                have e337 : (x336).toInt = (y6).toInt + (1) := by rw [← q338]; exact i_add rfl (by decide) (by omega) (by omega)
                refine xw_iinc (L2 := [(6, .int (x336)), (4, .ref (base + r301)), (7, .int (x191)), (5, .int ((1000 : Int32))), (3, .ref (base + n39)), (0, .ref (base + 110)), (1, .int ((4 : Int32)))]) (aX4_readLevel 65 rfl) rfl (by decide) (by rw [q338]; rfl) ?_
                refine xw_goto (tgt := 68) (aX4_readLevel 66 rfl) (by decide) ?_
                exact hw_L (ih (x336) (some (r301)) FI332 FL251 FR320 n271 sl272 SH273 gp323 gw325 gs327 ex299 hS275 hT334 hk329 ((fun r e => by cases e; exact ⟨lt305, ow306, by rw [sh307]⟩)) (gf_n (gf_tr (ex_shd ex185) (gf_tr (ex_shd ex185) fr159 f225 rfl rfl rfl) f254 rfl rfl rfl) u333 (Nat.le_trans (ex185).1 fq302)) (gf_tr (ex_shd ex185) (gf_tr (ex_shd ex185) fr160 f226 rfl rfl rfl) f255 rfl rfl rfl) (gf_n (gf_tr (ex_shd ex185) fr161 f256 rfl rfl rfl) u321 f213) hI335 hF330 hR331 (show FI332 111 4 = x4 from (up_c u333 (ne_tag (s111 hS275) sh307 (by decide)) ((gf_at f254 (c111 hS149) (shd_f (by decide) (s111 hS149)) rfl ((gf_at f225 (c111 hS149) (shd_f (by decide) (s111 hS149)) rfl (kp165))))))) (show FR320 n39 4 = none from (up_c u321 (Ne.symm f214) ((gf_at f256 lt181 (shd_d (dyn_tag hS149 sh182 (by decide +kernel)) sh182) rfl (kp166))))) (show FR320 n39 5 = none from (up_c u321 (Ne.symm f214) ((gf_at f256 lt181 (shd_d (dyn_tag hS149 sh182 (by decide +kernel)) sh182) rfl (kp167))))) (show FR320 n39 6 = none from (up_c u321 (Ne.symm f214) ((gf_at f256 lt181 (shd_d (dyn_tag hS149 sh182 (by decide +kernel)) sh182) rfl (kp168))))) (show FI332 n39 0 = x130 from (up_c u333 (Nat.ne_of_lt (Nat.lt_of_lt_of_le lt181 fq302)) ((gf_as hS149 f254 lt181 sh182 (shd_d (dyn_tag hS149 sh182 (by decide +kernel)) sh182) (by decide +kernel) ((gf_as hS149 f225 lt181 sh182 (shd_d (dyn_tag hS149 sh182 (by decide +kernel)) sh182) (by decide +kernel) (kp169))))))) (show FR320 n39 3 = r52 from (up_c u321 (Ne.symm f214) ((gf_at f256 lt181 (shd_d (dyn_tag hS149 sh182 (by decide +kernel)) sh182) rfl (kp170))))) (by have := (e337 : (x336).toInt = (y6).toInt + (1)); omega) (by have := (e337 : (x336).toInt = (y6).toInt + (1)); have := congrArg Int32.toInt (show FI332 110 7 = x311 from (up_c u333 (ne_tag (s110 hS275) sh307 (by decide)) (h312))); omega) (by have := (e337 : (x336).toInt = (y6).toInt + (1)); have := congrArg Int32.toInt (show FI332 110 5 = x314 from (up_c u333 (ne_tag (s110 hS275) sh307 (by decide)) (h315))); have := congrArg Int32.toInt (show FI332 110 8 = x316 from (up_c u333 (ne_tag (s110 hS275) sh307 (by decide)) (h317))); omega) (by have := (e337 : (x336).toInt = (y6).toInt + (1)); have := congrArg Int32.toInt (show FI332 110 7 = x311 from (up_c u333 (ne_tag (s110 hS275) sh307 (by decide)) (h312))); have := congrArg Int32.toInt (show FI332 110 8 = x316 from (up_c u333 (ne_tag (s110 hS275) sh307 (by decide)) (h317))); omega) (by have := (e337 : (x336).toInt = (y6).toInt + (1)); have := congrArg Int32.toInt (show FI332 110 7 = x311 from (up_c u333 (ne_tag (s110 hS275) sh307 (by decide)) (h312))); omega) (by have := (e337 : (x336).toInt = (y6).toInt + (1)); have := congrArg Int32.toInt (show FI332 110 4 = x318 from (up_c u333 (ne_tag (s110 hS275) sh307 (by decide)) (h319))); have := congrArg Int32.toInt (show FI332 110 5 = x314 from (up_c u333 (ne_tag (s110 hS275) sh307 (by decide)) (h315))); omega) (by have := (e337 : (x336).toInt = (y6).toInt + (1)); have := congrArg Int32.toInt (show FI332 110 7 = x311 from (up_c u333 (ne_tag (s110 hS275) sh307 (by decide)) (h312))); omega) (by have := (e337 : (x336).toInt = (y6).toInt + (1)); omega) (by have := (e337 : (x336).toInt = (y6).toInt + (1)); omega) (show gp323 (n39) = 0 ∧ gw325 (n39) + 20 + 40 * n ≤ 40 * n271 from (by have := (e337 : (x336).toInt = (y6).toInt + (1)); exact ⟨by omega, by omega⟩)) (show ∀ m, (some (r301)) = some m → gp323 m = (n39) ∧ gw325 (n39) = gs327 m + gw325 m + 20 ∧ n ≤ m ∧ m ≠ (n39) ∧ FR320 m 6 = none from (by have := (e337 : (x336).toInt = (y6).toInt + (1)); exact (fun m hm => by cases hm; exact ⟨by omega, by omega, (Nat.le_trans (ex185).1 fq302), (Nat.ne_of_gt (Nat.lt_of_lt_of_le lt181 fq302)), (show FR320 r301 6 = none from (up_c u321 (Nat.ne_of_gt (Nat.lt_of_lt_of_le lt208 fq302)) (e310)))⟩))) (show (some (r301)) ≠ none from (by have := (e337 : (x336).toInt = (y6).toInt + (1)); exact (by simp))) (by have := (e337 : (x336).toInt = (y6).toInt + (1)); omega)) ⟨rfl, rfl, rfl, rfl, rfl, rfl, trivial⟩
        exact hw_L (lp180 ((1000 - 0 : Int).toNat + 1) ((0 : Int32)) (some (r52)) FI112 FL113 FR132 n82 sl83 SH84 gp135 gw137 gs139 ex_rf hS92 hT134 hk141 ((fun r e => by cases e; exact ⟨lt105, ow57, by rw [sh106]⟩)) (gf_tr ⟨(ex42).1, ((ex_shd ex107)).2⟩ (gf_al (gf_tr ex_rf gf_rf f22 rfl rfl rfl) (ex42).1 eI99) f115 rfl rfl rfl) (gf_tr ⟨(ex42).1, ((ex_shd ex107)).2⟩ (gf_al (gf_tr ex_rf gf_rf f23 rfl rfl rfl) (ex42).1 eL100) f116 rfl rfl rfl) (gf_n (gf_al (gf_tr ex_rf gf_rf f24 rfl rfl rfl) (ex42).1 eR101) u133 (ex42).1) hI114 hF142 hR143 (show FI112 111 4 = x4 from ((f115 111 (4) (Nat.lt_of_lt_of_le (by decide : 111 < 176) dy98) (by simp) (by simp) (by simp)).trans (((eI99 111 (4) (Nat.ne_of_lt (c111 hS43))).trans ((gf_at f22 (c111 hS) (shd_f (by decide) (s111 hS)) rfl (h5))))))) (show FR132 n39 4 = none from (up_k u133 (by decide) ((zR104 4)))) (show FR132 n39 5 = none from (up_k u133 (by decide) ((zR104 5)))) (show FR132 n39 6 = none from (up_k u133 (by decide) ((zR104 6)))) (show FI112 n39 0 = x130 from h131) (show FR132 n39 3 = r52 from up_eq u133) (by have := ((by decide : (0 : Int32).toInt = 0) : ((0 : Int32)).toInt = 0); omega) (by have := ((by decide : (0 : Int32).toInt = 0) : ((0 : Int32)).toInt = 0); have := congrArg Int32.toInt (show FI112 110 7 = x62 from ((f115 110 (7) (Nat.lt_of_lt_of_le (by decide : 110 < 176) dy98) (by simp) (by simp) (by simp)).trans (((eI99 110 (7) (Nat.ne_of_lt (c110 hS43))).trans (h63))))); omega) (by have := ((by decide : (0 : Int32).toInt = 0) : ((0 : Int32)).toInt = 0); have := congrArg Int32.toInt (show FI112 110 5 = x65 from ((f115 110 (5) (Nat.lt_of_lt_of_le (by decide : 110 < 176) dy98) (by simp) (by simp) (by simp)).trans (((eI99 110 (5) (Nat.ne_of_lt (c110 hS43))).trans (h66))))); have := congrArg Int32.toInt (show FI112 110 8 = x67 from ((f115 110 (8) (Nat.lt_of_lt_of_le (by decide : 110 < 176) dy98) (by simp) (by simp) (by simp)).trans (((eI99 110 (8) (Nat.ne_of_lt (c110 hS43))).trans (h68))))); omega) (by have := ((by decide : (0 : Int32).toInt = 0) : ((0 : Int32)).toInt = 0); have := congrArg Int32.toInt (show FI112 110 7 = x62 from ((f115 110 (7) (Nat.lt_of_lt_of_le (by decide : 110 < 176) dy98) (by simp) (by simp) (by simp)).trans (((eI99 110 (7) (Nat.ne_of_lt (c110 hS43))).trans (h63))))); have := congrArg Int32.toInt (show FI112 110 8 = x67 from ((f115 110 (8) (Nat.lt_of_lt_of_le (by decide : 110 < 176) dy98) (by simp) (by simp) (by simp)).trans (((eI99 110 (8) (Nat.ne_of_lt (c110 hS43))).trans (h68))))); omega) (by have := ((by decide : (0 : Int32).toInt = 0) : ((0 : Int32)).toInt = 0); have := congrArg Int32.toInt (show FI112 110 7 = x62 from ((f115 110 (7) (Nat.lt_of_lt_of_le (by decide : 110 < 176) dy98) (by simp) (by simp) (by simp)).trans (((eI99 110 (7) (Nat.ne_of_lt (c110 hS43))).trans (h63))))); omega) (by have := ((by decide : (0 : Int32).toInt = 0) : ((0 : Int32)).toInt = 0); have := congrArg Int32.toInt (show FI112 110 4 = x69 from ((f115 110 (4) (Nat.lt_of_lt_of_le (by decide : 110 < 176) dy98) (by simp) (by simp) (by simp)).trans (((eI99 110 (4) (Nat.ne_of_lt (c110 hS43))).trans (h70))))); have := congrArg Int32.toInt (show FI112 110 5 = x65 from ((f115 110 (5) (Nat.lt_of_lt_of_le (by decide : 110 < 176) dy98) (by simp) (by simp) (by simp)).trans (((eI99 110 (5) (Nat.ne_of_lt (c110 hS43))).trans (h66))))); omega) (by have := ((by decide : (0 : Int32).toInt = 0) : ((0 : Int32)).toInt = 0); have := congrArg Int32.toInt (show FI112 110 7 = x62 from ((f115 110 (7) (Nat.lt_of_lt_of_le (by decide : 110 < 176) dy98) (by simp) (by simp) (by simp)).trans (((eI99 110 (7) (Nat.ne_of_lt (c110 hS43))).trans (h63))))); omega) (by have := ((by decide : (0 : Int32).toInt = 0) : ((0 : Int32)).toInt = 0); omega) (by have := ((by decide : (0 : Int32).toInt = 0) : ((0 : Int32)).toInt = 0); omega) (show gp135 (n39) = 0 ∧ gw137 (n39) + 20 + 40 * n ≤ 40 * n82 from (by have := ((by decide : (0 : Int32).toInt = 0) : ((0 : Int32)).toInt = 0); exact ⟨by omega, by omega⟩)) (show ∀ m, (some (r52)) = some m → gp135 m = (n39) ∧ gw137 (n39) = gs139 m + gw137 m + 20 ∧ n ≤ m ∧ m ≠ (n39) ∧ FR132 m 6 = none from (by have := ((by decide : (0 : Int32).toInt = 0) : ((0 : Int32)).toInt = 0); exact (fun m hm => by cases hm; exact ⟨by omega, by omega, (Nat.le_trans (Nat.le_refl _) fq53), (Nat.ne_of_lt lt56), (show FR132 r52 6 = none from (up_c u133 (Nat.ne_of_lt lt56) (((eR101 r52 (6) (Nat.ne_of_lt lt56)).trans (e61)))))⟩))) (show (some (r52)) ≠ none from (by have := ((by decide : (0 : Int32).toInt = 0) : ((0 : Int32)).toInt = 0); exact (by simp))) (by have := ((by decide : (0 : Int32).toInt = 0) : ((0 : Int32)).toInt = 0); omega)) ⟨rfl, rfl, rfl, rfl, rfl, rfl, trivial⟩
      · omega
    · refine hw_aloadn (aX4_readLevel 17 rfl) rfl ?_
      refine xw_aret (v := h_rf base (some (r52))) (aX4_readLevel 18 rfl) rfl (by first | exact Or.inl ⟨_, rfl⟩ | exact Or.inr ⟨_, rfl⟩) ?_
      exact ⟨some (r52), rfl, n39, sl40, SH41, FI18, FL19, FR20, rfl, ex42, hS43, hI21, (gf_tr ex_rf gf_rf f22 rfl rfl rfl), (gf_tr ex_rf gf_rf f23 rfl rfl rfl), (gf_tr ex_rf gf_rf f24 rfl rfl rfl), hF25, hR26, (by have := congrArg Int32.toInt (show FI18 110 7 = x62 from h63); omega), (by have := congrArg Int32.toInt (show FI18 110 5 = x65 from h66); have := congrArg Int32.toInt (show FI18 110 8 = x67 from h68); omega), (by have := congrArg Int32.toInt (show FI18 110 7 = x62 from h63); have := congrArg Int32.toInt (show FI18 110 8 = x67 from h68); omega), (by have := congrArg Int32.toInt (show FI18 110 7 = x62 from h63); omega), (by have := congrArg Int32.toInt (show FI18 110 5 = x65 from h66); omega), (by have := congrArg Int32.toInt (show FI18 110 4 = x69 from h70); have := congrArg Int32.toInt (show FI18 110 5 = x65 from h66); omega), (by have := congrArg Int32.toInt (show FI18 110 7 = x62 from h63); omega), (by omega), (by omega), (by exact ⟨gp45, gw46, gs47, hT48, hk51, fun q e => by cases e; exact ⟨by omega, by omega, (show FR20 r52 6 = none from e61)⟩⟩), ((fun r e => by cases e; exact ⟨lt56, ow57, by rw [sh58]⟩)), (by simp), (fun q e => by cases e; exact (Nat.le_trans (Nat.le_refl _) fq53))⟩
  · omega
end
section
set_option maxHeartbeats 4000000 in
set_option maxRecDepth 100000 in
theorem k_level3S {sk : xK} {base d n sl : Nat} {SH : Nat → Nat × Nat} {FI : Nat → Nat → Int32} {FL : Nat → Nat → Int64} {FR : Nat → Nat → Option Nat} {E e : Nat} (ihU : ∀ (base d n sl : Nat) (SH : Nat → Nat × Nat) (FI : Nat → Nat → Int32) (FL : Nat → Nat → Int64) (FR : Nat → Nat → Option Nat) (hS : h_S n SH) (hF : h_FR FR) (hI : g_I FI) (hR : g_R n SH FR) (gp : Nat → Nat) (gw : Nat → Nat) (gs : Nat → Nat) (g0 : 0 ≤ (FI 110 7).toInt ∧ (FI 110 7).toInt < (FI 111 4).toInt) (g1 : (FI 110 5).toInt = 0 ∨ (FI 110 8).toInt = 1) (g2 : (FI 110 7).toInt + 1 < (FI 111 4).toInt ∨ (FI 110 8).toInt ≤ 3) (g3 : (FI 110 5).toInt ≠ 0 ∨ (FI 110 4).toInt ≤ 12) (g4 : (FI 110 5).toInt ≠ 0 ∨ 13 - (FI 110 4).toInt ≤ (e : Int)) (gg0 : g_T n SH FI FR gp gw gs) (gg1 : g_K FI) , hw sk base (E + d + 11) none 56 0 [(0, .ref (base + 110))] [] (n, sl, SH, FI, FL, FR) (h_A base (fun r s => ∃ n' sl' SH' FI' FL' FR', s = (n', sl', SH', FI', FL', FR') ∧ g_ex n SH n' SH' ∧ h_S n' SH' ∧ g_I FI' ∧ g_fr n (shd SH) [(110, 4), (110, 5), (110, 6), (110, 7), (110, 8)] [] [] FI FI' ∧ g_fr n (shd SH) [(110, 9)] [] [] FL FL' ∧ g_fr n (shd SH) [] [] [] FR FR' ∧ h_FR FR' ∧ g_R n' SH' FR' ∧ (0 ≤ (FI' 110 7).toInt ∧ (FI' 110 7).toInt < (FI 111 4).toInt) ∧ ((FI' 110 5).toInt = 0 ∨ (FI' 110 8).toInt = 1) ∧ ((FI' 110 7).toInt + 1 < (FI 111 4).toInt ∨ (FI' 110 8).toInt ≤ 3) ∧ ((FI 110 7).toInt ≤ (FI' 110 7).toInt) ∧ ((FI 110 5).toInt = 0 ∨ (FI' 110 5).toInt = (FI 110 5).toInt) ∧ ((FI' 110 5).toInt ≠ 0 ∨ (FI' 110 4).toInt = (FI 110 4).toInt) ∧ ((n' : Int) ≤ n + 17 * ((FI' 110 7).toInt - (FI 110 7).toInt) + 1) ∧ ((sl' : Int) ≤ sl + 7 * ((n' : Int) - n)) ∧ ((n : Int) ≤ n') ∧ (∃ gp2 gw2 gs2, g_T n' SH' FI' FR' gp2 gw2 gs2 ∧ (∀ c, c < n → gp2 c = gp c ∧ gw2 c = gw c ∧ gs2 c = gs c) ∧ (∀ q, r = some q → gp2 q = 0 ∧ gw2 q + 20 + 40 * n ≤ 40 * n' ∧ FR' q 6 = none)) ∧ (∀ q, r = some q → q < n' ∧ own q ∧ SH' q = (3, (SH' q).2)) ∧ r ≠ none ∧ (∀ q, r = some q → n ≤ q)))) (ihC : ∀ (base d n sl : Nat) (SH : Nat → Nat × Nat) (FI : Nat → Nat → Int32) (FL : Nat → Nat → Int64) (FR : Nat → Nat → Option Nat) (hS : h_S n SH) (hF : h_FR FR) (hI : g_I FI) (hR : g_R n SH FR) (gp : Nat → Nat) (gw : Nat → Nat) (gs : Nat → Nat) (g0 : 0 ≤ (FI 110 7).toInt ∧ (FI 110 7).toInt < (FI 111 4).toInt) (g1 : (FI 110 5).toInt = 0 ∨ (FI 110 8).toInt = 1) (g2 : (FI 110 7).toInt + 1 < (FI 111 4).toInt ∨ (FI 110 8).toInt ≤ 3) (g3 : (FI 110 5).toInt ≠ 0 ∨ (FI 110 4).toInt ≤ 12) (g4 : (FI 110 5).toInt ≠ 0 ∨ 13 - (FI 110 4).toInt ≤ (e : Int)) (gg0 : g_T n SH FI FR gp gw gs) (gg1 : g_K FI) , hw sk base (E + d + 11) none 53 0 [(0, .ref (base + 110))] [] (n, sl, SH, FI, FL, FR) (h_A base (fun r s => ∃ n' sl' SH' FI' FL' FR', s = (n', sl', SH', FI', FL', FR') ∧ g_ex n SH n' SH' ∧ h_S n' SH' ∧ g_I FI' ∧ g_fr n (shd SH) [(110, 4), (110, 5), (110, 6), (110, 7), (110, 8)] [] [] FI FI' ∧ g_fr n (shd SH) [(110, 9)] [] [] FL FL' ∧ g_fr n (shd SH) [] [] [] FR FR' ∧ h_FR FR' ∧ g_R n' SH' FR' ∧ (0 ≤ (FI' 110 7).toInt ∧ (FI' 110 7).toInt < (FI 111 4).toInt) ∧ ((FI' 110 5).toInt = 0 ∨ (FI' 110 8).toInt = 1) ∧ ((FI' 110 7).toInt + 1 < (FI 111 4).toInt ∨ (FI' 110 8).toInt ≤ 3) ∧ ((FI 110 7).toInt ≤ (FI' 110 7).toInt) ∧ ((FI 110 5).toInt = 0 ∨ (FI' 110 5).toInt = (FI 110 5).toInt) ∧ ((FI' 110 5).toInt ≠ 0 ∨ (FI' 110 4).toInt = (FI 110 4).toInt) ∧ ((n' : Int) ≤ n + 17 * ((FI' 110 7).toInt - (FI 110 7).toInt) + 8) ∧ ((sl' : Int) ≤ sl + 7 * ((n' : Int) - n)) ∧ ((n : Int) ≤ n') ∧ (∃ gp2 gw2 gs2, g_T n' SH' FI' FR' gp2 gw2 gs2 ∧ (∀ c, c < n → gp2 c = gp c ∧ gw2 c = gw c ∧ gs2 c = gs c) ∧ (∀ q, r = some q → gp2 q = 0 ∧ gw2 q + 20 + 40 * n ≤ 40 * n' ∧ FR' q 6 = none)) ∧ (∀ q, r = some q → q < n' ∧ own q ∧ SH' q = (3, (SH' q).2)) ∧ r ≠ none ∧ (∀ q, r = some q → n ≤ q)))) (hS : h_S n SH) (hF : h_FR FR) (hI : g_I FI) (hR : g_R n SH FR) (gp : Nat → Nat) (gw : Nat → Nat) (gs : Nat → Nat) (g0 : 0 ≤ (FI 110 7).toInt ∧ (FI 110 7).toInt < (FI 111 4).toInt) (g1 : (FI 110 7).toInt + 1 < (FI 111 4).toInt ∨ (FI 110 8).toInt ≤ 3) (g2 : (FI 110 5).toInt = 0) (g3 : (FI 110 4).toInt ≤ 12) (g4 : 13 - (FI 110 4).toInt ≤ (e : Int) + 1) (gg0 : g_T n SH FI FR gp gw gs) (gg1 : g_K FI) : hw sk base (E + d + 17) none 54 0 [(0, .ref (base + 110)), (1, .int ((3 : Int32)))] [] (n, sl, SH, FI, FL, FR) (h_A base (fun r s => ∃ n' sl' SH' FI' FL' FR', s = (n', sl', SH', FI', FL', FR') ∧ g_ex n SH n' SH' ∧ h_S n' SH' ∧ g_I FI' ∧ g_fr n (shd SH) [(110, 4), (110, 5), (110, 6), (110, 7), (110, 8)] [] [] FI FI' ∧ g_fr n (shd SH) [(110, 9)] [] [] FL FL' ∧ g_fr n (shd SH) [] [] [] FR FR' ∧ h_FR FR' ∧ g_R n' SH' FR' ∧ (0 ≤ (FI' 110 7).toInt ∧ (FI' 110 7).toInt < (FI 111 4).toInt) ∧ ((FI' 110 5).toInt = 0 ∨ (FI' 110 8).toInt = 1) ∧ ((FI' 110 7).toInt + 1 < (FI 111 4).toInt ∨ (FI' 110 8).toInt ≤ 3) ∧ ((FI 110 7).toInt ≤ (FI' 110 7).toInt) ∧ ((FI 110 5).toInt = 0 ∨ (FI' 110 5).toInt = (FI 110 5).toInt) ∧ ((FI' 110 5).toInt ≠ 0 ∨ (FI' 110 4).toInt = (FI 110 4).toInt) ∧ ((n' : Int) ≤ n + 17 * ((FI' 110 7).toInt - (FI 110 7).toInt) + 5) ∧ ((sl' : Int) ≤ sl + 7 * ((n' : Int) - n)) ∧ ((n : Int) ≤ n') ∧ (∃ gp2 gw2 gs2, g_T n' SH' FI' FR' gp2 gw2 gs2 ∧ (∀ c, c < n → gp2 c = gp c ∧ gw2 c = gw c ∧ gs2 c = gs c) ∧ (∀ q, r = some q → gp2 q = 0 ∧ gw2 q + 20 + 40 * n ≤ 40 * n' ∧ FR' q 6 = none)) ∧ (∀ q, r = some q → q < n' ∧ own q ∧ SH' q = (3, (SH' q).2)) ∧ r ≠ none ∧ (∀ q, r = some q → n ≤ q))) := by
  have hk0 : ∀ c, c < n → gp c = gp c ∧ gw c = gw c ∧ gs c = gs c := fun _ _ => ⟨rfl, rfl, rfl⟩
  obtain ⟨x1, h2⟩ : ∃ y, FI 110 7 = y := ⟨_, rfl⟩
  have h2l := congrArg Int32.toInt h2
  have b3 := gI_110_7 hI; rw [h2] at b3
  obtain ⟨x4, h5⟩ : ∃ y, FI 111 4 = y := ⟨_, rfl⟩
  have h5l := congrArg Int32.toInt h5
  have b6 := gI_111_4 hI; rw [h5] at b6
  obtain ⟨x7, h8⟩ : ∃ y, FI 110 8 = y := ⟨_, rfl⟩
  have h8l := congrArg Int32.toInt h8
  have := i_rng x7
  obtain ⟨x9, h10⟩ : ∃ y, FI 110 5 = y := ⟨_, rfl⟩
  have h10l := congrArg Int32.toInt h10
  have := i_rng x9
  obtain ⟨x11, h12⟩ : ∃ y, FI 110 4 = y := ⟨_, rfl⟩
  have h12l := congrArg Int32.toInt h12
  have := i_rng x11
  refine xw_iloadn (aX4_readLevel 0 rfl) rfl ?_
  refine hw_bp (v := (7 : Int32)) (aX4_readLevel 1 rfl) (by decide) ?_
  refine hw_iclt (tgt := 11) (aX4_readLevel 2 rfl) (by decide) (by decide : (3 : Int32).toInt = 3) (by decide : (7 : Int32).toInt = 7) (fun cd13 => ?_) (fun cd13 => ?_)
  · refine hw_aloadn (aX4_readLevel 6 rfl) rfl ?_
    refine xw_iloadn (aX4_readLevel 7 rfl) rfl ?_
    refine hw_ic (v := (1 : Int32)) (aX4_readLevel 8 rfl) (by decide) ?_
    refine xw_iadd (aX4_readLevel 9 rfl) ?_
    rw [show (((3 : Int32)) + ((1 : Int32)) : Int32) = (4 : Int32) from by decide]
    refine hw_callV (Bs := [.int ((4 : Int32))]) (rest := []) (aX4_readLevel 10 rfl) wc_RX4_177 (by decide) rfl wi_yX4_readLevel wv_yX4_readLevel (c110 hS) (s110 hS) rfl rfl rfl (Nat.le_of_ble_eq_true rfl) (Nat.le_of_ble_eq_true rfl) (k_level4S (d := d) ihU ihC hS hF hI hR (gp) (gw) (gs) (by have := congrArg Int32.toInt (show FI 110 7 = x1 from h2); have := congrArg Int32.toInt (show FI 110 7 = x1 from h2); have := congrArg Int32.toInt (show FI 111 4 = x4 from h5); omega) (by have := congrArg Int32.toInt (show FI 110 7 = x1 from h2); have := congrArg Int32.toInt (show FI 111 4 = x4 from h5); have := congrArg Int32.toInt (show FI 110 8 = x7 from h8); omega) (by have := congrArg Int32.toInt (show FI 110 5 = x9 from h10); omega) (by have := congrArg Int32.toInt (show FI 110 4 = x11 from h12); omega) (by have := congrArg Int32.toInt (show FI 110 4 = x11 from h12); omega) (gg0) (gK_mv (L := [(110, 4), (110, 5), (110, 6), (110, 7), (110, 8)]) (A := []) (T := []) hS gg1 gf_rf (by decide))) (fun v14 sv15 p16 => ?_)
    have := congrArg Int32.toInt (show FI 111 4 = x4 from h5)
    have := congrArg Int32.toInt (show FI 111 4 = x4 from h5)
    have := congrArg Int32.toInt (show FI 110 7 = x1 from h2)
    have := congrArg Int32.toInt (show FI 110 5 = x9 from h10)
    have := congrArg Int32.toInt (show FI 110 5 = x9 from h10)
    have := congrArg Int32.toInt (show FI 110 4 = x11 from h12)
    have := congrArg Int32.toInt (show FI 110 7 = x1 from h2)
    obtain ⟨r17, rfl, n39, sl40, SH41, FI18, FL19, FR20, rfl, ex42, hS43, hI21, f22, f23, f24, hF25, hR26, t27, t28, t29, t30, t31, t32, t33, t34, t35, u36, ht37, nn38, hfr44⟩ := p16
    clear t31
    obtain ⟨gp45, gw46, gs47, hT48, hkp49, hq50⟩ := u36
    have hk51 : ∀ c, c < n → gp45 c = gp c ∧ gw46 c = gw c ∧ gs47 c = gs c := fun c hc => by obtain ⟨k1, k2, k3⟩ := hk0 c hc; obtain ⟨m1, m2, m3⟩ := hkp49 c (Nat.lt_of_lt_of_le hc (Nat.le_refl _)); exact ⟨m1.trans k1, m2.trans k2, m3.trans k3⟩
    obtain ⟨r52, rfl⟩ : ∃ q, r17 = some q := Option.ne_none_iff_exists'.mp nn38
    have fq53 := hfr44 r52 rfl
    have dq54 : 176 ≤ r52 := Nat.le_trans hS.1 fq53
    obtain ⟨lt56, ow57, sh58⟩ := ht37 r52 rfl
    obtain ⟨e59, e60, e61⟩ := hq50 r52 rfl
    obtain ⟨x62, h63⟩ : ∃ y, FI18 110 7 = y := ⟨_, rfl⟩
    have h63l := congrArg Int32.toInt h63
    have b64 := gI_110_7 hI21; rw [h63] at b64
    obtain ⟨x65, h66⟩ : ∃ y, FI18 110 5 = y := ⟨_, rfl⟩
    have h66l := congrArg Int32.toInt h66
    have := i_rng x65
    obtain ⟨x67, h68⟩ : ∃ y, FI18 110 8 = y := ⟨_, rfl⟩
    have h68l := congrArg Int32.toInt h68
    have := i_rng x67
    obtain ⟨x69, h70⟩ : ∃ y, FI18 110 4 = y := ⟨_, rfl⟩
    have h70l := congrArg Int32.toInt h70
    have := i_rng x69
    show hw sk base _ _ _ _ _ [.ref (base + r52)] _ _
    refine hw_astoren (L2 := [(2, .ref (base + r52)), (0, .ref (base + 110)), (1, .int ((3 : Int32)))]) (aX4_readLevel 11 rfl) (by decide) rfl ?_
    refine hw_aloadn (aX4_readLevel 12 rfl) rfl ?_
    refine hw_get (v := .int (x67)) (aX4_readLevel 13 rfl) wf_RX4_51 (c110 hS43) (s110 hS43) (by decide) (congrArg Value.int (show FI18 110 8 = x67 from h68)) ?_
    refine hw_callS (As := [.int (x67)]) (rest := []) (aX4_readLevel 14 rfl) wc_RX4_198 (by decide) rfl wt_yX4_levelOf rfl rfl (Nat.le_of_ble_eq_true rfl) (Nat.le_of_ble_eq_true rfl) (k_levelOf2 (d := E + d + 16) hS43 hF25 hI21 hR26 (x67) ) (fun v71 sv72 p73 => ?_)
    obtain ⟨r74, rfl, rfl, t78⟩ := p73
    have rg_r74 := i_rng r74
    show hw sk base _ _ _ _ _ [.int (r74)] _ _
    refine xw_iloadn (aX4_readLevel 15 rfl) rfl ?_
    refine hw_iceq (tgt := 32) (aX4_readLevel 16 rfl) (by decide) rfl (by decide : (3 : Int32).toInt = 3) (fun cd81 => ?_) (fun cd81 => ?_)
    · refine hv_new (t := 3) hS43 hF25 hI21 hR26 (by unfold g_dt; omega) (aX4_readLevel 19 rfl) rfl (tin_5 (i := 88) rfl rfl) (tin_1 (i := 21) rfl rfl) (fun n82 sl83 SH84 FI85 FL86 FR87 hsl88 nw89 => ?_)
      obtain ⟨hn90, ex91, hS92, hF93, hI94, hR95, lt96, sh97, dy98, eI99, eL100, eR101, zI102, zL103, zR104⟩ := nw89
      have lt105 := ex_lt ex91 lt56
      have sh106 := ex_sh ex91 lt56 sh58
      have ex107 := ex_tr ex42 ex91
      refine xw_dup (aX4_readLevel 20 rfl) rfl ?_
      refine hw_bp (v := (25 : Int32)) (aX4_readLevel 21 rfl) (by decide) ?_
      refine hw_lc (v := (0 : Int64)) (aX4_readLevel 22 rfl) (by decide) ?_
      refine hw_callN (Bs := [.int ((25 : Int32)), .long ((0 : Int64))]) (rest := [.ref (base + n39)]) (aX4_readLevel 23 rfl) wc_RX4_183 (by decide) rfl wi_yX3_init rfl rfl rfl (Nat.le_of_ble_eq_true rfl) (Nat.le_of_ble_eq_true rfl) (k_X3_init (d := E + d + 15) hS92 hF93 hI94 hR95 (n39) lt96 sh97 (Or.inr dy98) dy98 ((25 : Int32)) ((0 : Int64)) ) (fun v108 sv109 p110 => ?_)
      have := ((by decide : (25 : Int32).toInt = 25) : ((25 : Int32)).toInt = 25)
      obtain ⟨rfl, FI112, FL113, rfl, hI114, f115, f116, t119⟩ := p110
      obtain ⟨gp122, hg123⟩ : ∃ f, f = va_up gp45 n39 (0) := ⟨_, rfl⟩
      have : gp122 n39 = 0 := by rw [hg123]; exact va_s
      have : gp122 r52 = gp45 r52 := by rw [hg123]; exact va_o (Nat.ne_of_lt lt56)
      obtain ⟨gw124, hg125⟩ : ∃ f, f = va_up gw46 n39 (20) := ⟨_, rfl⟩
      have : gw124 n39 = 20 := by rw [hg125]; exact va_s
      have : gw124 r52 = gw46 r52 := by rw [hg125]; exact va_o (Nat.ne_of_lt lt56)
      obtain ⟨gs126, hg127⟩ : ∃ f, f = va_up gs47 n39 (0) := ⟨_, rfl⟩
      have : gs126 n39 = 0 := by rw [hg127]; exact va_s
      have : gs126 r52 = gs47 r52 := by rw [hg127]; exact va_o (Nat.ne_of_lt lt56)
      have hk128 : ∀ c, c < n → gp122 c = gp c ∧ gw124 c = gw c ∧ gs126 c = gs c := fun c hc => by
        obtain ⟨k1, k2, k3⟩ := hk51 c hc
        exact ⟨by rw [hg123]; exact (va_o (show c ≠ n39 from Nat.ne_of_lt (Nat.lt_of_lt_of_le hc (ex42).1))).trans k1, by rw [hg125]; exact (va_o (show c ≠ n39 from Nat.ne_of_lt (Nat.lt_of_lt_of_le hc (ex42).1))).trans k2, by rw [hg127]; exact (va_o (show c ≠ n39 from Nat.ne_of_lt (Nat.lt_of_lt_of_le hc (ex42).1))).trans k3⟩
      have hT129 : g_T n82 SH84 FI112 FR87 gp122 gw124 gs126 := by rw [hg123, hg125, hg127]; exact gT_mk hS43 hR26 hT48 hn90 ex91 sh97 (by decide) (fun c hc => (f115 c 0 hc (by simp) (by simp) (by simp)).trans (eI99 c 0 (Nat.ne_of_lt hc))) (fun c k hc => eR101 c k (Nat.ne_of_lt hc)) zR104
      obtain ⟨x130, h131⟩ : ∃ y, FI112 n39 0 = y := ⟨_, rfl⟩
      have h131l := congrArg Int32.toInt h131
      have := i_rng x130
      show hw sk base _ _ _ _ _ [.ref (base + n39)] _ _
      refine hw_astoren (L2 := [(3, .ref (base + n39)), (2, .ref (base + r52)), (0, .ref (base + 110)), (1, .int ((3 : Int32)))]) (aX4_readLevel 24 rfl) (by decide) rfl ?_
      refine hw_aloadn (aX4_readLevel 25 rfl) rfl ?_
      refine hw_aloadn (aX4_readLevel 26 rfl) rfl ?_
      refine hv_putr (r := some (r52)) (aX4_readLevel 27 rfl) wf_RX4_186 lt96 sh97 (by decide) (by first | exact Or.inl ⟨_, rfl⟩ | exact Or.inr ⟨_, rfl⟩) (Or.inl rfl) (fun FR132 u133 => ?_)
      obtain ⟨gp135, hg136⟩ : ∃ f, f = va_up gp122 r52 (n39) := ⟨_, rfl⟩
      have : gp135 r52 = n39 := by rw [hg136]; exact va_s
      have : gp135 n39 = gp122 n39 := by rw [hg136]; exact va_o (Nat.ne_of_gt lt56)
      obtain ⟨gw137, hg138⟩ : ∃ f, f = va_up gw124 n39 (gw124 r52 + 20) := ⟨_, rfl⟩
      have : gw137 n39 = gw124 r52 + 20 := by rw [hg138]; exact va_s
      have : gw137 r52 = gw124 r52 := by rw [hg138]; exact va_o (Nat.ne_of_lt lt56)
      obtain ⟨gs139, hg140⟩ : ∃ f, f = va_up gs126 r52 (0) := ⟨_, rfl⟩
      have : gs139 r52 = 0 := by rw [hg140]; exact va_s
      have : gs139 n39 = gs126 n39 := by rw [hg140]; exact va_o (Nat.ne_of_gt lt56)
      have hk141 : ∀ c, c < n → gp135 c = gp c ∧ gw137 c = gw c ∧ gs139 c = gs c := fun c hc => by
        obtain ⟨k1, k2, k3⟩ := hk128 c hc
        exact ⟨by rw [hg136]; exact (va_o (show c ≠ r52 from Nat.ne_of_lt (Nat.lt_of_lt_of_le hc (Nat.le_trans (Nat.le_refl _) fq53)))).trans k1, by rw [hg138]; exact (va_o (show c ≠ n39 from Nat.ne_of_lt (Nat.lt_of_lt_of_le hc (ex42).1))).trans k2, by rw [hg140]; exact (va_o (show c ≠ r52 from Nat.ne_of_lt (Nat.lt_of_lt_of_le hc (Nat.le_trans (Nat.le_refl _) fq53)))).trans k3⟩
      have hT134 : g_T n82 SH84 FI112 FR132 gp135 gw137 gs139 := by rw [hg136, hg138, hg140]; exact gT_mem hS92 hR95 hT129 lt96 sh97 lt105 sh106 (by rw [show FI112 n39 0 = x130 from h131]; omega) (by omega) (by omega) (Nat.ne_of_lt lt56) lt96 sh97 (by omega) (by omega) (Or.inl ⟨rfl, rfl, (show FR87 n39 3 = none from (zR104 3))⟩) u133
      have hF142 : h_FR FR132 := hF_up hS92 hF93 u133 sh97 (by decide +kernel)
      have hR143 : g_R n82 SH84 FR132 := gR_up hR95 u133 sh97 (fun r e => by cases e; exact ⟨lt105, ow57, by rw [sh106]; rfl⟩) (fun _ r e => by cases e; exact (dyn_tag hS92 sh106 (by decide +kernel))) (fun _ => by simp) (fun h => absurd h.1 (ne_tag sh97 (s49 hS92) (by decide)))
      refine hw_aloadn (aX4_readLevel 28 rfl) rfl ?_
      refine hw_astore (L2 := [(4, .ref (base + r52)), (3, .ref (base + n39)), (2, .ref (base + r52)), (0, .ref (base + 110)), (1, .int ((3 : Int32)))]) (aX4_readLevel 29 rfl) (by decide) rfl ?_
      refine xw_iloadn (aX4_readLevel 30 rfl) rfl ?_
      refine hw_ic (v := (3 : Int32)) (aX4_readLevel 31 rfl) (by decide) ?_
      refine hw_icne (tgt := 60) (aX4_readLevel 32 rfl) (by decide) (by decide : (3 : Int32).toInt = 3) (by decide : (3 : Int32).toInt = 3) (fun cd144 => ?_) (fun cd144 => ?_)
      · omega
      · refine hw_ic (v := (1 : Int32)) (aX4_readLevel 33 rfl) (by decide) ?_
        refine xw_goto (tgt := 63) (aX4_readLevel 34 rfl) (by decide) ?_
        refine xw_istore (L2 := [(5, .int ((1 : Int32))), (4, .ref (base + r52)), (3, .ref (base + n39)), (2, .ref (base + r52)), (0, .ref (base + 110)), (1, .int ((3 : Int32)))]) (aX4_readLevel 36 rfl) (by decide) rfl ?_
        refine hw_ic (v := (0 : Int32)) (aX4_readLevel 37 rfl) (by decide) ?_
        refine xw_istore (L2 := [(6, .int ((0 : Int32))), (5, .int ((1 : Int32))), (4, .ref (base + r52)), (3, .ref (base + n39)), (2, .ref (base + r52)), (0, .ref (base + 110)), (1, .int ((3 : Int32)))]) (aX4_readLevel 38 rfl) (by decide) rfl ?_
        have lp180 : ∀ (m : Nat) (y6 : Int32) (y4 : Option Nat) (FIv151 : Nat → Nat → Int32) (FLv152 : Nat → Nat → Int64) (FRv153 : Nat → Nat → Option Nat) (n145 sl146 : Nat) (SH147 : Nat → Nat × Nat) (gp154 gw155 gs156 : Nat → Nat), (g_ex n82 SH84 n145 SH147) → (h_S n145 SH147) → (g_T n145 SH147 FIv151 FRv153 gp154 gw155 gs156) → (∀ c, c < n → gp154 c = gp c ∧ gw155 c = gw c ∧ gs156 c = gs c) → (∀ q, y4 = some q → q < n145 ∧ own q ∧ SH147 q = (3, (SH147 q).2)) → (g_fr n (shd SH) [(110, 4), (110, 5), (110, 6), (110, 7), (110, 8)] [] [] FI FIv151) → (g_fr n (shd SH) [(110, 9)] [] [] FL FLv152) → (g_fr n (shd SH) [] [] [] FR FRv153) → (g_I FIv151) → (h_FR FRv153) → (g_R n145 SH147 FRv153) → (FIv151 111 4 = x4) → (FRv153 n39 4 = none) → (FRv153 n39 5 = none) → (FRv153 n39 6 = none) → (FIv151 n39 0 = x130) → (FRv153 n39 3 = r52) → (0 ≤ (y6).toInt ∧ (y6).toInt ≤ 1000) → (0 ≤ (FIv151 110 7).toInt ∧ (FIv151 110 7).toInt < (FI 111 4).toInt) → ((FIv151 110 5).toInt = 0 ∨ (FIv151 110 8).toInt = 1) → ((FIv151 110 7).toInt + 1 < (FI 111 4).toInt ∨ (FIv151 110 8).toInt ≤ 3) → ((FI 110 7).toInt ≤ (FIv151 110 7).toInt) → ((FIv151 110 5).toInt ≠ 0 ∨ (FIv151 110 4).toInt = (FI 110 4).toInt) → ((n145 : Int) ≤ n + 17 * ((FIv151 110 7).toInt - (FI 110 7).toInt) + 5) → ((sl146 : Int) ≤ sl + 7 * ((n145 : Int) - n)) → ((n : Int) ≤ n145) → (gp154 (n39) = 0 ∧ gw155 (n39) + 20 + 40 * n ≤ 40 * n145) → (∀ m, (y4) = some m → gp154 m = (n39) ∧ gw155 (n39) = gs156 m + gw155 m + 20 ∧ n ≤ m ∧ m ≠ (n39) ∧ FRv153 m 6 = none) → ((y4) ≠ none) → 1000 - (y6).toInt < m → hw sk base (E + d + 17) none 54 68 [(6, .int (y6)), (5, .int ((1 : Int32))), (4, va_rf (h_rf base (y4))), (3, .ref (base + n39)), (0, .ref (base + 110)), (1, .int ((3 : Int32)))] [] (n145, sl146, SH147, FIv151, FLv152, FRv153) (h_A base (fun r s => ∃ n' sl' SH' FI' FL' FR', s = (n', sl', SH', FI', FL', FR') ∧ g_ex n SH n' SH' ∧ h_S n' SH' ∧ g_I FI' ∧ g_fr n (shd SH) [(110, 4), (110, 5), (110, 6), (110, 7), (110, 8)] [] [] FI FI' ∧ g_fr n (shd SH) [(110, 9)] [] [] FL FL' ∧ g_fr n (shd SH) [] [] [] FR FR' ∧ h_FR FR' ∧ g_R n' SH' FR' ∧ (0 ≤ (FI' 110 7).toInt ∧ (FI' 110 7).toInt < (FI 111 4).toInt) ∧ ((FI' 110 5).toInt = 0 ∨ (FI' 110 8).toInt = 1) ∧ ((FI' 110 7).toInt + 1 < (FI 111 4).toInt ∨ (FI' 110 8).toInt ≤ 3) ∧ ((FI 110 7).toInt ≤ (FI' 110 7).toInt) ∧ ((FI 110 5).toInt = 0 ∨ (FI' 110 5).toInt = (FI 110 5).toInt) ∧ ((FI' 110 5).toInt ≠ 0 ∨ (FI' 110 4).toInt = (FI 110 4).toInt) ∧ ((n' : Int) ≤ n + 17 * ((FI' 110 7).toInt - (FI 110 7).toInt) + 5) ∧ ((sl' : Int) ≤ sl + 7 * ((n' : Int) - n)) ∧ ((n : Int) ≤ n') ∧ (∃ gp2 gw2 gs2, g_T n' SH' FI' FR' gp2 gw2 gs2 ∧ (∀ c, c < n → gp2 c = gp c ∧ gw2 c = gw c ∧ gs2 c = gs c) ∧ (∀ q, r = some q → gp2 q = 0 ∧ gw2 q + 20 + 40 * n ≤ 40 * n' ∧ FR' q 6 = none)) ∧ (∀ q, r = some q → q < n' ∧ own q ∧ SH' q = (3, (SH' q).2)) ∧ r ≠ none ∧ (∀ q, r = some q → n ≤ q))) := by
          intro m
          induction m with
          | zero => intro y6 y4 FIv151 FLv152 FRv153 n145 sl146 SH147 gp154 gw155 gs156 ex148 hS149 hT157 hk158 ty150 fr159 fr160 fr161 hI162 hF163 hR164 kp165 kp166 kp167 kp168 kp169 kp170 iv171 iv172 iv173 iv174 iv175 iv176 iv177 iv178 iv179 xi68_0 xi68_1 xi68_2 hm; omega
          | succ m ih =>
            intro y6 y4 FIv151 FLv152 FRv153 n145 sl146 SH147 gp154 gw155 gs156 ex148 hS149 hT157 hk158 ty150 fr159 fr160 fr161 hI162 hF163 hR164 kp165 kp166 kp167 kp168 kp169 kp170 iv171 iv172 iv173 iv174 iv175 iv176 iv177 iv178 iv179 xi68_0 xi68_1 xi68_2 hm
            have rg_y6 := i_rng y6
            have := congrArg Int32.toInt kp165
            have := congrArg Int32.toInt kp169
            have lt181 := ex_lt ex148 lt96
            have sh182 := ex_sh ex148 lt96 sh97
            have lt183 := ex_lt ex148 lt105
            have sh184 := ex_sh ex148 lt105 sh106
            have ex185 := ex_tr ex107 ex148
            obtain ⟨x186, h187⟩ : ∃ y, FIv151 110 7 = y := ⟨_, rfl⟩
            have h187l := congrArg Int32.toInt h187
            have b188 := gI_110_7 hI162; rw [h187] at b188
            obtain ⟨x189, h190⟩ : ∃ y, FIv151 110 5 = y := ⟨_, rfl⟩
            have h190l := congrArg Int32.toInt h190
            have := i_rng x189
            obtain ⟨x191, h192⟩ : ∃ y, FIv151 110 8 = y := ⟨_, rfl⟩
            have h192l := congrArg Int32.toInt h192
            have := i_rng x191
            obtain ⟨x193, h194⟩ : ∃ y, FIv151 110 4 = y := ⟨_, rfl⟩
            have h194l := congrArg Int32.toInt h194
            have := i_rng x193
            refine xw_iload (aX4_readLevel 39 rfl) rfl ?_
            refine xw_iload (aX4_readLevel 40 rfl) rfl ?_
            refine hw_icge (tgt := 128) (aX4_readLevel 41 rfl) (by decide) rfl (by decide : (1 : Int32).toInt = 1) (fun cd195 => ?_) (fun cd195 => ?_)
            · obtain ⟨hz1, hz2⟩ := xi68_0
              refine hw_aloadn (aX4_readLevel 67 rfl) rfl ?_
              refine xw_aret (v := h_rf base (some (n39))) (aX4_readLevel 68 rfl) rfl (by first | exact Or.inl ⟨_, rfl⟩ | exact Or.inr ⟨_, rfl⟩) ?_
              exact ⟨some (n39), rfl, n145, sl146, SH147, FIv151, FLv152, FRv153, rfl, ex185, hS149, hI162, fr159, fr160, fr161, hF163, hR164, (by have := congrArg Int32.toInt (show FIv151 110 7 = x186 from h187); omega), (by have := congrArg Int32.toInt (show FIv151 110 5 = x189 from h190); have := congrArg Int32.toInt (show FIv151 110 8 = x191 from h192); omega), (by have := congrArg Int32.toInt (show FIv151 110 7 = x186 from h187); have := congrArg Int32.toInt (show FIv151 110 8 = x191 from h192); omega), (by have := congrArg Int32.toInt (show FIv151 110 7 = x186 from h187); omega), (by have := congrArg Int32.toInt (show FIv151 110 5 = x189 from h190); omega), (by have := congrArg Int32.toInt (show FIv151 110 4 = x193 from h194); have := congrArg Int32.toInt (show FIv151 110 5 = x189 from h190); omega), (by have := congrArg Int32.toInt (show FIv151 110 7 = x186 from h187); omega), (by omega), (by omega), (by exact ⟨gp154, gw155, gs156, hT157, hk158, fun q e => by cases e; exact ⟨by omega, by omega, (show FRv153 n39 6 = none from kp168)⟩⟩), ((fun r e => by cases e; exact ⟨lt181, (Or.inr dy98), by rw [sh182]⟩)), (by simp), (fun q e => by cases e; exact (ex42).1)⟩
            · refine hw_aloadn (aX4_readLevel 42 rfl) rfl ?_
              refine hw_get (v := .int (x191)) (aX4_readLevel 43 rfl) wf_RX4_51 (c110 hS149) (s110 hS149) (by decide) (congrArg Value.int (show FIv151 110 8 = x191 from h192)) ?_
              refine hw_callS (As := [.int (x191)]) (rest := []) (aX4_readLevel 44 rfl) wc_RX4_198 (by decide) rfl wt_yX4_levelOf rfl rfl (Nat.le_of_ble_eq_true rfl) (Nat.le_of_ble_eq_true rfl) (k_levelOf2 (d := E + d + 16) hS149 hF163 hI162 hR164 (x191) ) (fun v196 sv197 p198 => ?_)
              obtain ⟨r199, rfl, rfl, t203⟩ := p198
              have rg_r199 := i_rng r199
              show hw sk base _ _ _ _ _ [.int (r199)] _ _
              refine xw_iloadn (aX4_readLevel 45 rfl) rfl ?_
              refine hw_icne (tgt := 128) (aX4_readLevel 46 rfl) (by decide) rfl (by decide : (3 : Int32).toInt = 3) (fun cd206 => ?_) (fun cd206 => ?_)
              · obtain ⟨hz1, hz2⟩ := xi68_0
                refine hw_aloadn (aX4_readLevel 67 rfl) rfl ?_
                refine xw_aret (v := h_rf base (some (n39))) (aX4_readLevel 68 rfl) rfl (by first | exact Or.inl ⟨_, rfl⟩ | exact Or.inr ⟨_, rfl⟩) ?_
                exact ⟨some (n39), rfl, n145, sl146, SH147, FIv151, FLv152, FRv153, rfl, ex185, hS149, hI162, fr159, fr160, fr161, hF163, hR164, (by have := congrArg Int32.toInt (show FIv151 110 7 = x186 from h187); omega), (by have := congrArg Int32.toInt (show FIv151 110 5 = x189 from h190); have := congrArg Int32.toInt (show FIv151 110 8 = x191 from h192); omega), (by have := congrArg Int32.toInt (show FIv151 110 7 = x186 from h187); have := congrArg Int32.toInt (show FIv151 110 8 = x191 from h192); omega), (by have := congrArg Int32.toInt (show FIv151 110 7 = x186 from h187); omega), (by have := congrArg Int32.toInt (show FIv151 110 5 = x189 from h190); omega), (by have := congrArg Int32.toInt (show FIv151 110 4 = x193 from h194); have := congrArg Int32.toInt (show FIv151 110 5 = x189 from h190); omega), (by have := congrArg Int32.toInt (show FIv151 110 7 = x186 from h187); omega), (by omega), (by omega), (by exact ⟨gp154, gw155, gs156, hT157, hk158, fun q e => by cases e; exact ⟨by omega, by omega, (show FRv153 n39 6 = none from kp168)⟩⟩), ((fun r e => by cases e; exact ⟨lt181, (Or.inr dy98), by rw [sh182]⟩)), (by simp), (fun q e => by cases e; exact (ex42).1)⟩
              · refine hw_aloadn (aX4_readLevel 47 rfl) rfl ?_
                refine hw_get (v := .int (x191)) (aX4_readLevel 48 rfl) wf_RX4_51 (c110 hS149) (s110 hS149) (by decide) (congrArg Value.int (show FIv151 110 8 = x191 from h192)) ?_
                refine xw_istore (L2 := [(7, .int (x191)), (6, .int (y6)), (5, .int ((1 : Int32))), (4, va_rf (h_rf base (y4))), (3, .ref (base + n39)), (0, .ref (base + 110)), (1, .int ((3 : Int32)))]) (aX4_readLevel 49 rfl) (by decide) (by first | rfl | simp [x_s1, x_s2, va_cat, va_ci, va_cl, va_cr, va_cn] | (simp [x_s1, x_s2, va_cat, va_ci, va_cl, va_cr, va_cn]; decide)) ?_
                obtain ⟨r207, rfl⟩ := Option.ne_none_iff_exists'.mp xi68_2
                obtain ⟨lt208, ow209, sh210⟩ := ty150 r207 rfl
                show hw sk base _ _ _ _ [(7, .int (x191)), (6, .int (y6)), (5, .int ((1 : Int32))), (4, .ref (base + r207)), (3, .ref (base + n39)), (0, .ref (base + 110)), (1, .int ((3 : Int32)))] [] _ _
                obtain ⟨f211, f212, f213, f214, f215⟩ := xi68_1 r207 rfl
                obtain ⟨f216, f217⟩ := xi68_0
                clear xi68_1 xi68_2
                refine hw_aloadn (aX4_readLevel 50 rfl) rfl ?_
                refine hw_callV (Bs := []) (rest := []) (aX4_readLevel 51 rfl) wc_RX4_48 (by decide) rfl wi_yX4_take wv_yX4_take (c110 hS149) (s110 hS149) rfl rfl rfl (Nat.le_of_ble_eq_true rfl) (Nat.le_of_ble_eq_true rfl) (k_take2 (d := E + d + 16) hS149 hF163 hI162 hR164 (by have := congrArg Int32.toInt (show FIv151 110 7 = x186 from h187); have := congrArg Int32.toInt (show FIv151 110 7 = x186 from h187); have := congrArg Int32.toInt (show FIv151 111 4 = x4 from kp165); omega) (by have := congrArg Int32.toInt (show FIv151 110 5 = x189 from h190); have := congrArg Int32.toInt (show FIv151 110 8 = x191 from h192); omega) (by have := congrArg Int32.toInt (show FIv151 110 7 = x186 from h187); have := congrArg Int32.toInt (show FIv151 111 4 = x4 from kp165); have := congrArg Int32.toInt (show FIv151 110 8 = x191 from h192); omega) (gK_mv (L := [(110, 4), (110, 5), (110, 6), (110, 7), (110, 8)]) (A := []) (T := []) hS gg1 fr159 (by decide))) (fun v218 sv219 p220 => ?_)
                have := congrArg Int32.toInt (show FIv151 111 4 = x4 from kp165)
                have := congrArg Int32.toInt (show FIv151 111 4 = x4 from kp165)
                have := congrArg Int32.toInt (show FIv151 110 7 = x186 from h187)
                have := congrArg Int32.toInt (show FIv151 110 5 = x189 from h190)
                have := congrArg Int32.toInt (show FIv151 110 5 = x189 from h190)
                have := congrArg Int32.toInt (show FIv151 110 5 = x189 from h190)
                have := congrArg Int32.toInt (show FIv151 110 5 = x189 from h190)
                have := congrArg Int32.toInt (show FIv151 110 7 = x186 from h187)
                have := congrArg Int32.toInt (show FIv151 111 4 = x4 from kp165)
                have := congrArg Int32.toInt (show FIv151 110 7 = x186 from h187)
                have := congrArg Int32.toInt (show FIv151 110 7 = x186 from h187)
                have := congrArg Int32.toInt (show FIv151 110 5 = x189 from h190)
                have := congrArg Int32.toInt (show FIv151 110 8 = x191 from h192)
                obtain ⟨rfl, FI222, FL223, rfl, hI224, f225, f226, t229, t230, t231, t232, t233, t234, t235, t236, t237⟩ := p220
                replace t235 := (t235.resolve_left (by omega)).resolve_left (by omega)
                clear t28 t29 t233 t237
                have hT240 : g_T n145 SH147 FI222 FRv153 gp154 gw155 gs156 := gT_mw (L := [(110, 7), (110, 8)]) (A := []) (T := []) (L2 := []) (A2 := []) (T2 := []) hS149 hT157 f225 gf_rf (by decide) (by decide)
                obtain ⟨x241, h242⟩ : ∃ y, FI222 110 7 = y := ⟨_, rfl⟩
                have h242l := congrArg Int32.toInt h242
                have b243 := gI_110_7 hI224; rw [h242] at b243
                obtain ⟨x244, h245⟩ : ∃ y, FI222 110 8 = y := ⟨_, rfl⟩
                have h245l := congrArg Int32.toInt h245
                have := i_rng x244
                show hw sk base _ _ _ _ _ [] _ _
                refine hw_aload (aX4_readLevel 52 rfl) rfl ?_
                refine hw_aloadn (aX4_readLevel 53 rfl) rfl ?_
                refine xw_iloadn (aX4_readLevel 54 rfl) rfl ?_
                refine hw_ic (v := (1 : Int32)) (aX4_readLevel 55 rfl) (by decide) ?_
                refine xw_iadd (aX4_readLevel 56 rfl) ?_
                rw [show (((3 : Int32)) + ((1 : Int32)) : Int32) = (4 : Int32) from by decide]
                refine hw_callV (Bs := [.int ((4 : Int32))]) (rest := [.ref (base + r207)]) (aX4_readLevel 57 rfl) wc_RX4_177 (by decide) rfl wi_yX4_readLevel wv_yX4_readLevel (c110 hS149) (s110 hS149) rfl rfl rfl (Nat.le_of_ble_eq_true rfl) (Nat.le_of_ble_eq_true rfl) (k_level4S (d := d) ihU ihC hS149 hF163 hI224 hR164 (gp154) (gw155) (gs156) (by have := congrArg Int32.toInt (show FI222 110 7 = x241 from h242); have := congrArg Int32.toInt (show FI222 110 7 = x241 from h242); have := congrArg Int32.toInt (show FI222 111 4 = x4 from (gf_at f225 (c111 hS149) (shd_f (by decide) (s111 hS149)) rfl (kp165))); omega) (by have := congrArg Int32.toInt (show FI222 110 7 = x241 from h242); have := congrArg Int32.toInt (show FI222 111 4 = x4 from (gf_at f225 (c111 hS149) (shd_f (by decide) (s111 hS149)) rfl (kp165))); have := congrArg Int32.toInt (show FI222 110 8 = x244 from h245); omega) (by have := congrArg Int32.toInt (show FI222 110 5 = x189 from (gf_at f225 (c110 hS149) (shd_f (by decide) (s110 hS149)) rfl (h190))); omega) (by have := congrArg Int32.toInt (show FI222 110 4 = x193 from (gf_at f225 (c110 hS149) (shd_f (by decide) (s110 hS149)) rfl (h194))); omega) (by have := congrArg Int32.toInt (show FI222 110 4 = x193 from (gf_at f225 (c110 hS149) (shd_f (by decide) (s110 hS149)) rfl (h194))); omega) (hT240) (gK_mv (L := [(110, 4), (110, 5), (110, 6), (110, 7), (110, 8)]) (A := []) (T := []) hS gg1 (gf_tr (ex_shd ex185) fr159 f225 rfl rfl rfl) (by decide))) (fun v246 sv247 p248 => ?_)
                have := congrArg Int32.toInt (show FI222 111 4 = x4 from (gf_at f225 (c111 hS149) (shd_f (by decide) (s111 hS149)) rfl (kp165)))
                have := congrArg Int32.toInt (show FI222 111 4 = x4 from (gf_at f225 (c111 hS149) (shd_f (by decide) (s111 hS149)) rfl (kp165)))
                have := congrArg Int32.toInt (show FI222 110 7 = x241 from h242)
                have := congrArg Int32.toInt (show FI222 110 5 = x189 from (gf_at f225 (c110 hS149) (shd_f (by decide) (s110 hS149)) rfl (h190)))
                have := congrArg Int32.toInt (show FI222 110 5 = x189 from (gf_at f225 (c110 hS149) (shd_f (by decide) (s110 hS149)) rfl (h190)))
                have := congrArg Int32.toInt (show FI222 110 4 = x193 from (gf_at f225 (c110 hS149) (shd_f (by decide) (s110 hS149)) rfl (h194)))
                have := congrArg Int32.toInt (show FI222 110 7 = x241 from h242)
                obtain ⟨r249, rfl, n271, sl272, SH273, FI250, FL251, FR252, rfl, ex274, hS275, hI253, f254, f255, f256, hF257, hR258, t259, t260, t261, t262, t263, t264, t265, t266, t267, u268, ht269, nn270, hfr276⟩ := p248
                clear t230 t231 t263
                obtain ⟨gp277, gw278, gs279, hT280, hkp281, hq282⟩ := u268
                obtain ⟨e283, e284, e285⟩ := hkp281 n39 lt181
                obtain ⟨e286, e287, e288⟩ := hkp281 r207 lt208
                obtain ⟨e289, e290, e291⟩ := hkp281 r52 lt183
                have hk292 : ∀ c, c < n → gp277 c = gp c ∧ gw278 c = gw c ∧ gs279 c = gs c := fun c hc => by obtain ⟨k1, k2, k3⟩ := hk158 c hc; obtain ⟨m1, m2, m3⟩ := hkp281 c (Nat.lt_of_lt_of_le hc (ex185).1); exact ⟨m1.trans k1, m2.trans k2, m3.trans k3⟩
                have lt293 := ex_lt ex274 lt181
                have sh294 := ex_sh ex274 lt181 sh182
                have lt295 := ex_lt ex274 lt208
                have sh296 := ex_sh ex274 lt208 sh210
                have lt297 := ex_lt ex274 lt183
                have sh298 := ex_sh ex274 lt183 sh184
                have ex299 := ex_tr ex148 ex274
                have ex300 := ex_tr ex185 ex274
                obtain ⟨r301, rfl⟩ : ∃ q, r249 = some q := Option.ne_none_iff_exists'.mp nn270
                have fq302 := hfr276 r301 rfl
                have dq303 : 176 ≤ r301 := Nat.le_trans hS149.1 fq302
                obtain ⟨lt305, ow306, sh307⟩ := ht269 r301 rfl
                obtain ⟨e308, e309, e310⟩ := hq282 r301 rfl
                obtain ⟨x311, h312⟩ : ∃ y, FI250 110 7 = y := ⟨_, rfl⟩
                have h312l := congrArg Int32.toInt h312
                have b313 := gI_110_7 hI253; rw [h312] at b313
                obtain ⟨x314, h315⟩ : ∃ y, FI250 110 5 = y := ⟨_, rfl⟩
                have h315l := congrArg Int32.toInt h315
                have := i_rng x314
                obtain ⟨x316, h317⟩ : ∃ y, FI250 110 8 = y := ⟨_, rfl⟩
                have h317l := congrArg Int32.toInt h317
                have := i_rng x316
                obtain ⟨x318, h319⟩ : ∃ y, FI250 110 4 = y := ⟨_, rfl⟩
                have h319l := congrArg Int32.toInt h319
                have := i_rng x318
                show hw sk base _ _ _ _ _ [.ref (base + r301), .ref (base + r207)] _ _
                refine hv_putr (r := some (r301)) (aX4_readLevel 58 rfl) wf_RX4_202 lt295 sh296 (by decide) (by first | exact Or.inl ⟨_, rfl⟩ | exact Or.inr ⟨_, rfl⟩) (Or.inl rfl) (fun FR320 u321 => ?_)
                obtain ⟨gp323, hg324⟩ : ∃ f, f = va_up gp277 r301 (n39) := ⟨_, rfl⟩
                have : gp323 r301 = n39 := by rw [hg324]; exact va_s
                have : gp323 n39 = gp277 n39 := by rw [hg324]; exact va_o (Nat.ne_of_lt (Nat.lt_of_lt_of_le lt181 fq302))
                have : gp323 r207 = gp277 r207 := by rw [hg324]; exact va_o (Nat.ne_of_lt (Nat.lt_of_lt_of_le lt208 fq302))
                have : gp323 r52 = gp277 r52 := by rw [hg324]; exact va_o (Nat.ne_of_lt (Nat.lt_of_lt_of_le lt183 fq302))
                obtain ⟨gw325, hg326⟩ : ∃ f, f = va_up gw278 n39 (gs279 r207 + gw278 r207 + gw278 r301 + 40) := ⟨_, rfl⟩
                have : gw325 n39 = gs279 r207 + gw278 r207 + gw278 r301 + 40 := by rw [hg326]; exact va_s
                have : gw325 r207 = gw278 r207 := by rw [hg326]; exact va_o f214
                have : gw325 r301 = gw278 r301 := by rw [hg326]; exact va_o (Nat.ne_of_gt (Nat.lt_of_lt_of_le lt181 fq302))
                have : gw325 r52 = gw278 r52 := by rw [hg326]; exact va_o (Nat.ne_of_lt lt56)
                obtain ⟨gs327, hg328⟩ : ∃ f, f = va_up gs279 r301 (gs279 r207 + gw278 r207 + 20) := ⟨_, rfl⟩
                have : gs327 r301 = gs279 r207 + gw278 r207 + 20 := by rw [hg328]; exact va_s
                have : gs327 n39 = gs279 n39 := by rw [hg328]; exact va_o (Nat.ne_of_lt (Nat.lt_of_lt_of_le lt181 fq302))
                have : gs327 r207 = gs279 r207 := by rw [hg328]; exact va_o (Nat.ne_of_lt (Nat.lt_of_lt_of_le lt208 fq302))
                have : gs327 r52 = gs279 r52 := by rw [hg328]; exact va_o (Nat.ne_of_lt (Nat.lt_of_lt_of_le lt183 fq302))
                have hk329 : ∀ c, c < n → gp323 c = gp c ∧ gw325 c = gw c ∧ gs327 c = gs c := fun c hc => by
                  obtain ⟨k1, k2, k3⟩ := hk292 c hc
                  exact ⟨by rw [hg324]; exact (va_o (show c ≠ r301 from Nat.ne_of_lt (Nat.lt_of_lt_of_le hc (Nat.le_trans (ex185).1 fq302)))).trans k1, by rw [hg326]; exact (va_o (show c ≠ n39 from Nat.ne_of_lt (Nat.lt_of_lt_of_le hc (ex42).1))).trans k2, by rw [hg328]; exact (va_o (show c ≠ r301 from Nat.ne_of_lt (Nat.lt_of_lt_of_le hc (Nat.le_trans (ex185).1 fq302)))).trans k3⟩
                have hT322 : g_T n271 SH273 FI250 FR320 gp323 gw325 gs327 := by rw [hg324, hg326, hg328]; exact gT_mem hS275 hR258 hT280 lt293 sh294 lt305 sh307 (by rw [show FI250 n39 0 = x130 from (gf_as hS149 f254 lt181 sh182 (shd_d (dyn_tag hS149 sh182 (by decide +kernel)) sh182) (by decide +kernel) ((gf_as hS149 f225 lt181 sh182 (shd_d (dyn_tag hS149 sh182 (by decide +kernel)) sh182) (by decide +kernel) (kp169))))]; omega) (by omega) (by omega) (Nat.ne_of_gt (Nat.lt_of_lt_of_le lt181 fq302)) lt295 sh296 (by omega) (by omega) (Or.inr ⟨f214, (Ne.symm (Nat.ne_of_gt (Nat.lt_of_lt_of_le lt208 fq302))), rfl, by omega, by omega⟩) u321
                have hF330 : h_FR FR320 := hF_up hS275 hF257 u321 sh296 (by decide +kernel)
                have hR331 : g_R n271 SH273 FR320 := gR_up hR258 u321 sh296 (fun r e => by cases e; exact ⟨lt305, ow306, by rw [sh307]; rfl⟩) (fun _ r e => by cases e; exact (dyn_tag hS275 sh307 (by decide +kernel))) (fun _ => by simp) (fun h => absurd h.1 (ne_tag sh296 (s49 hS275) (by decide)))
                refine hw_aload (aX4_readLevel 59 rfl) rfl ?_
                refine hw_get (v := .ref (base + r301)) (aX4_readLevel 60 rfl) wf_RX4_202 lt295 sh296 (by decide) (congrArg (fun r => va_rf (h_rf base r)) (show FR320 r207 6 = some r301 from up_eq u321)) ?_
                refine hw_astore (L2 := [(4, .ref (base + r301)), (7, .int (x191)), (6, .int (y6)), (5, .int ((1 : Int32))), (3, .ref (base + n39)), (0, .ref (base + 110)), (1, .int ((3 : Int32)))]) (aX4_readLevel 61 rfl) (by decide) rfl ?_
                refine hw_aload (aX4_readLevel 62 rfl) rfl ?_
                refine xw_iload (aX4_readLevel 63 rfl) rfl ?_
                refine hv_puti (aX4_readLevel 64 rfl) wf_RX4_204 lt305 sh307 (by decide) rfl rfl (fun FI332 u333 => ?_)
                have hT334 : g_T n271 SH273 FI332 FR320 gp323 gw325 gs327 := gT_wi hT322 (fun _ => by decide) u333
                have hI335 : g_I FI332 := gU_F hI253 u333 (g_hi (dyn_tag hS275 sh307 (by decide +kernel)))
                obtain ⟨x336, q338⟩ : ∃ y : Int32, (y6) + Int32.ofInt (1) = y := ⟨_, rfl⟩
                have e337 : (x336).toInt = (y6).toInt + (1) := by rw [← q338]; exact i_add rfl (by decide) (by omega) (by omega)
                refine xw_iinc (L2 := [(6, .int (x336)), (4, .ref (base + r301)), (7, .int (x191)), (5, .int ((1 : Int32))), (3, .ref (base + n39)), (0, .ref (base + 110)), (1, .int ((3 : Int32)))]) (aX4_readLevel 65 rfl) rfl (by decide) (by rw [q338]; rfl) ?_
                refine xw_goto (tgt := 68) (aX4_readLevel 66 rfl) (by decide) ?_
                exact hw_L (ih (x336) (some (r301)) FI332 FL251 FR320 n271 sl272 SH273 gp323 gw325 gs327 ex299 hS275 hT334 hk329 ((fun r e => by cases e; exact ⟨lt305, ow306, by rw [sh307]⟩)) (gf_n (gf_tr (ex_shd ex185) (gf_tr (ex_shd ex185) fr159 f225 rfl rfl rfl) f254 rfl rfl rfl) u333 (Nat.le_trans (ex185).1 fq302)) (gf_tr (ex_shd ex185) (gf_tr (ex_shd ex185) fr160 f226 rfl rfl rfl) f255 rfl rfl rfl) (gf_n (gf_tr (ex_shd ex185) fr161 f256 rfl rfl rfl) u321 f213) hI335 hF330 hR331 (show FI332 111 4 = x4 from (up_c u333 (ne_tag (s111 hS275) sh307 (by decide)) ((gf_at f254 (c111 hS149) (shd_f (by decide) (s111 hS149)) rfl ((gf_at f225 (c111 hS149) (shd_f (by decide) (s111 hS149)) rfl (kp165))))))) (show FR320 n39 4 = none from (up_c u321 (Ne.symm f214) ((gf_at f256 lt181 (shd_d (dyn_tag hS149 sh182 (by decide +kernel)) sh182) rfl (kp166))))) (show FR320 n39 5 = none from (up_c u321 (Ne.symm f214) ((gf_at f256 lt181 (shd_d (dyn_tag hS149 sh182 (by decide +kernel)) sh182) rfl (kp167))))) (show FR320 n39 6 = none from (up_c u321 (Ne.symm f214) ((gf_at f256 lt181 (shd_d (dyn_tag hS149 sh182 (by decide +kernel)) sh182) rfl (kp168))))) (show FI332 n39 0 = x130 from (up_c u333 (Nat.ne_of_lt (Nat.lt_of_lt_of_le lt181 fq302)) ((gf_as hS149 f254 lt181 sh182 (shd_d (dyn_tag hS149 sh182 (by decide +kernel)) sh182) (by decide +kernel) ((gf_as hS149 f225 lt181 sh182 (shd_d (dyn_tag hS149 sh182 (by decide +kernel)) sh182) (by decide +kernel) (kp169))))))) (show FR320 n39 3 = r52 from (up_c u321 (Ne.symm f214) ((gf_at f256 lt181 (shd_d (dyn_tag hS149 sh182 (by decide +kernel)) sh182) rfl (kp170))))) (by have := (e337 : (x336).toInt = (y6).toInt + (1)); omega) (by have := (e337 : (x336).toInt = (y6).toInt + (1)); have := congrArg Int32.toInt (show FI332 110 7 = x311 from (up_c u333 (ne_tag (s110 hS275) sh307 (by decide)) (h312))); omega) (by have := (e337 : (x336).toInt = (y6).toInt + (1)); have := congrArg Int32.toInt (show FI332 110 5 = x314 from (up_c u333 (ne_tag (s110 hS275) sh307 (by decide)) (h315))); have := congrArg Int32.toInt (show FI332 110 8 = x316 from (up_c u333 (ne_tag (s110 hS275) sh307 (by decide)) (h317))); omega) (by have := (e337 : (x336).toInt = (y6).toInt + (1)); have := congrArg Int32.toInt (show FI332 110 7 = x311 from (up_c u333 (ne_tag (s110 hS275) sh307 (by decide)) (h312))); have := congrArg Int32.toInt (show FI332 110 8 = x316 from (up_c u333 (ne_tag (s110 hS275) sh307 (by decide)) (h317))); omega) (by have := (e337 : (x336).toInt = (y6).toInt + (1)); have := congrArg Int32.toInt (show FI332 110 7 = x311 from (up_c u333 (ne_tag (s110 hS275) sh307 (by decide)) (h312))); omega) (by have := (e337 : (x336).toInt = (y6).toInt + (1)); have := congrArg Int32.toInt (show FI332 110 4 = x318 from (up_c u333 (ne_tag (s110 hS275) sh307 (by decide)) (h319))); have := congrArg Int32.toInt (show FI332 110 5 = x314 from (up_c u333 (ne_tag (s110 hS275) sh307 (by decide)) (h315))); omega) (by have := (e337 : (x336).toInt = (y6).toInt + (1)); have := congrArg Int32.toInt (show FI332 110 7 = x311 from (up_c u333 (ne_tag (s110 hS275) sh307 (by decide)) (h312))); omega) (by have := (e337 : (x336).toInt = (y6).toInt + (1)); omega) (by have := (e337 : (x336).toInt = (y6).toInt + (1)); omega) (show gp323 (n39) = 0 ∧ gw325 (n39) + 20 + 40 * n ≤ 40 * n271 from (by have := (e337 : (x336).toInt = (y6).toInt + (1)); exact ⟨by omega, by omega⟩)) (show ∀ m, (some (r301)) = some m → gp323 m = (n39) ∧ gw325 (n39) = gs327 m + gw325 m + 20 ∧ n ≤ m ∧ m ≠ (n39) ∧ FR320 m 6 = none from (by have := (e337 : (x336).toInt = (y6).toInt + (1)); exact (fun m hm => by cases hm; exact ⟨by omega, by omega, (Nat.le_trans (ex185).1 fq302), (Nat.ne_of_gt (Nat.lt_of_lt_of_le lt181 fq302)), (show FR320 r301 6 = none from (up_c u321 (Nat.ne_of_gt (Nat.lt_of_lt_of_le lt208 fq302)) (e310)))⟩))) (show (some (r301)) ≠ none from (by have := (e337 : (x336).toInt = (y6).toInt + (1)); exact (by simp))) (by have := (e337 : (x336).toInt = (y6).toInt + (1)); omega)) ⟨rfl, rfl, rfl, rfl, rfl, rfl, trivial⟩
        exact hw_L (lp180 ((1000 - 0 : Int).toNat + 1) ((0 : Int32)) (some (r52)) FI112 FL113 FR132 n82 sl83 SH84 gp135 gw137 gs139 ex_rf hS92 hT134 hk141 ((fun r e => by cases e; exact ⟨lt105, ow57, by rw [sh106]⟩)) (gf_tr ⟨(ex42).1, ((ex_shd ex107)).2⟩ (gf_al (gf_tr ex_rf gf_rf f22 rfl rfl rfl) (ex42).1 eI99) f115 rfl rfl rfl) (gf_tr ⟨(ex42).1, ((ex_shd ex107)).2⟩ (gf_al (gf_tr ex_rf gf_rf f23 rfl rfl rfl) (ex42).1 eL100) f116 rfl rfl rfl) (gf_n (gf_al (gf_tr ex_rf gf_rf f24 rfl rfl rfl) (ex42).1 eR101) u133 (ex42).1) hI114 hF142 hR143 (show FI112 111 4 = x4 from ((f115 111 (4) (Nat.lt_of_lt_of_le (by decide : 111 < 176) dy98) (by simp) (by simp) (by simp)).trans (((eI99 111 (4) (Nat.ne_of_lt (c111 hS43))).trans ((gf_at f22 (c111 hS) (shd_f (by decide) (s111 hS)) rfl (h5))))))) (show FR132 n39 4 = none from (up_k u133 (by decide) ((zR104 4)))) (show FR132 n39 5 = none from (up_k u133 (by decide) ((zR104 5)))) (show FR132 n39 6 = none from (up_k u133 (by decide) ((zR104 6)))) (show FI112 n39 0 = x130 from h131) (show FR132 n39 3 = r52 from up_eq u133) (by have := ((by decide : (0 : Int32).toInt = 0) : ((0 : Int32)).toInt = 0); omega) (by have := ((by decide : (0 : Int32).toInt = 0) : ((0 : Int32)).toInt = 0); have := congrArg Int32.toInt (show FI112 110 7 = x62 from ((f115 110 (7) (Nat.lt_of_lt_of_le (by decide : 110 < 176) dy98) (by simp) (by simp) (by simp)).trans (((eI99 110 (7) (Nat.ne_of_lt (c110 hS43))).trans (h63))))); omega) (by have := ((by decide : (0 : Int32).toInt = 0) : ((0 : Int32)).toInt = 0); have := congrArg Int32.toInt (show FI112 110 5 = x65 from ((f115 110 (5) (Nat.lt_of_lt_of_le (by decide : 110 < 176) dy98) (by simp) (by simp) (by simp)).trans (((eI99 110 (5) (Nat.ne_of_lt (c110 hS43))).trans (h66))))); have := congrArg Int32.toInt (show FI112 110 8 = x67 from ((f115 110 (8) (Nat.lt_of_lt_of_le (by decide : 110 < 176) dy98) (by simp) (by simp) (by simp)).trans (((eI99 110 (8) (Nat.ne_of_lt (c110 hS43))).trans (h68))))); omega) (by have := ((by decide : (0 : Int32).toInt = 0) : ((0 : Int32)).toInt = 0); have := congrArg Int32.toInt (show FI112 110 7 = x62 from ((f115 110 (7) (Nat.lt_of_lt_of_le (by decide : 110 < 176) dy98) (by simp) (by simp) (by simp)).trans (((eI99 110 (7) (Nat.ne_of_lt (c110 hS43))).trans (h63))))); have := congrArg Int32.toInt (show FI112 110 8 = x67 from ((f115 110 (8) (Nat.lt_of_lt_of_le (by decide : 110 < 176) dy98) (by simp) (by simp) (by simp)).trans (((eI99 110 (8) (Nat.ne_of_lt (c110 hS43))).trans (h68))))); omega) (by have := ((by decide : (0 : Int32).toInt = 0) : ((0 : Int32)).toInt = 0); have := congrArg Int32.toInt (show FI112 110 7 = x62 from ((f115 110 (7) (Nat.lt_of_lt_of_le (by decide : 110 < 176) dy98) (by simp) (by simp) (by simp)).trans (((eI99 110 (7) (Nat.ne_of_lt (c110 hS43))).trans (h63))))); omega) (by have := ((by decide : (0 : Int32).toInt = 0) : ((0 : Int32)).toInt = 0); have := congrArg Int32.toInt (show FI112 110 4 = x69 from ((f115 110 (4) (Nat.lt_of_lt_of_le (by decide : 110 < 176) dy98) (by simp) (by simp) (by simp)).trans (((eI99 110 (4) (Nat.ne_of_lt (c110 hS43))).trans (h70))))); have := congrArg Int32.toInt (show FI112 110 5 = x65 from ((f115 110 (5) (Nat.lt_of_lt_of_le (by decide : 110 < 176) dy98) (by simp) (by simp) (by simp)).trans (((eI99 110 (5) (Nat.ne_of_lt (c110 hS43))).trans (h66))))); omega) (by have := ((by decide : (0 : Int32).toInt = 0) : ((0 : Int32)).toInt = 0); have := congrArg Int32.toInt (show FI112 110 7 = x62 from ((f115 110 (7) (Nat.lt_of_lt_of_le (by decide : 110 < 176) dy98) (by simp) (by simp) (by simp)).trans (((eI99 110 (7) (Nat.ne_of_lt (c110 hS43))).trans (h63))))); omega) (by have := ((by decide : (0 : Int32).toInt = 0) : ((0 : Int32)).toInt = 0); omega) (by have := ((by decide : (0 : Int32).toInt = 0) : ((0 : Int32)).toInt = 0); omega) (show gp135 (n39) = 0 ∧ gw137 (n39) + 20 + 40 * n ≤ 40 * n82 from (by have := ((by decide : (0 : Int32).toInt = 0) : ((0 : Int32)).toInt = 0); exact ⟨by omega, by omega⟩)) (show ∀ m, (some (r52)) = some m → gp135 m = (n39) ∧ gw137 (n39) = gs139 m + gw137 m + 20 ∧ n ≤ m ∧ m ≠ (n39) ∧ FR132 m 6 = none from (by have := ((by decide : (0 : Int32).toInt = 0) : ((0 : Int32)).toInt = 0); exact (fun m hm => by cases hm; exact ⟨by omega, by omega, (Nat.le_trans (Nat.le_refl _) fq53), (Nat.ne_of_lt lt56), (show FR132 r52 6 = none from (up_c u133 (Nat.ne_of_lt lt56) (((eR101 r52 (6) (Nat.ne_of_lt lt56)).trans (e61)))))⟩))) (show (some (r52)) ≠ none from (by have := ((by decide : (0 : Int32).toInt = 0) : ((0 : Int32)).toInt = 0); exact (by simp))) (by have := ((by decide : (0 : Int32).toInt = 0) : ((0 : Int32)).toInt = 0); omega)) ⟨rfl, rfl, rfl, rfl, rfl, rfl, trivial⟩
    · refine hw_aloadn (aX4_readLevel 17 rfl) rfl ?_
      refine xw_aret (v := h_rf base (some (r52))) (aX4_readLevel 18 rfl) rfl (by first | exact Or.inl ⟨_, rfl⟩ | exact Or.inr ⟨_, rfl⟩) ?_
      exact ⟨some (r52), rfl, n39, sl40, SH41, FI18, FL19, FR20, rfl, ex42, hS43, hI21, (gf_tr ex_rf gf_rf f22 rfl rfl rfl), (gf_tr ex_rf gf_rf f23 rfl rfl rfl), (gf_tr ex_rf gf_rf f24 rfl rfl rfl), hF25, hR26, (by have := congrArg Int32.toInt (show FI18 110 7 = x62 from h63); omega), (by have := congrArg Int32.toInt (show FI18 110 5 = x65 from h66); have := congrArg Int32.toInt (show FI18 110 8 = x67 from h68); omega), (by have := congrArg Int32.toInt (show FI18 110 7 = x62 from h63); have := congrArg Int32.toInt (show FI18 110 8 = x67 from h68); omega), (by have := congrArg Int32.toInt (show FI18 110 7 = x62 from h63); omega), (by have := congrArg Int32.toInt (show FI18 110 5 = x65 from h66); omega), (by have := congrArg Int32.toInt (show FI18 110 4 = x69 from h70); have := congrArg Int32.toInt (show FI18 110 5 = x65 from h66); omega), (by have := congrArg Int32.toInt (show FI18 110 7 = x62 from h63); omega), (by omega), (by omega), (by exact ⟨gp45, gw46, gs47, hT48, hk51, fun q e => by cases e; exact ⟨by omega, by omega, (show FR20 r52 6 = none from e61)⟩⟩), ((fun r e => by cases e; exact ⟨lt56, ow57, by rw [sh58]⟩)), (by simp), (fun q e => by cases e; exact (Nat.le_trans (Nat.le_refl _) fq53))⟩
  · omega
end
