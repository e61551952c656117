section
set_option maxHeartbeats 4000000 in
set_option maxRecDepth 100000 in
theorem k_level0S {sk : xK} {base d n sl : Nat} {SH : Nat → Nat × Nat} {FI : Nat → Nat → Int32} {FL : Nat → Nat → Int64} {FR : Nat → Nat → Option Nat} {E e : Nat} (ihU : ∀ (base d n sl : Nat) (SH : Nat → Nat × Nat) (FI : Nat → Nat → Int32) (FL : Nat → Nat → Int64) (FR : Nat → Nat → Option Nat) (hS : h_S n SH) (hF : h_FR FR) (hI : g_I FI) (hR : g_R n SH FR) (gp : Nat → Nat) (gw : Nat → Nat) (gs : Nat → Nat) (g0 : 0 ≤ (FI 110 7).toInt ∧ (FI 110 7).toInt < (FI 111 4).toInt) (g1 : (FI 110 5).toInt = 0 ∨ (FI 110 8).toInt = 1) (g2 : (FI 110 7).toInt + 1 < (FI 111 4).toInt ∨ (FI 110 8).toInt ≤ 3) (g3 : (FI 110 5).toInt ≠ 0 ∨ (FI 110 4).toInt ≤ 12) (g4 : (FI 110 5).toInt ≠ 0 ∨ 13 - (FI 110 4).toInt ≤ (e : Int)) (gg0 : g_T n SH FI FR gp gw gs) (gg1 : g_K FI) , hw sk base (E + d + 11) none 56 0 [(0, .ref (base + 110))] [] (n, sl, SH, FI, FL, FR) (h_A base (fun r s => ∃ n' sl' SH' FI' FL' FR', s = (n', sl', SH', FI', FL', FR') ∧ g_ex n SH n' SH' ∧ h_S n' SH' ∧ g_I FI' ∧ g_fr n (shd SH) [(110, 4), (110, 5), (110, 6), (110, 7), (110, 8)] [] [] FI FI' ∧ g_fr n (shd SH) [(110, 9)] [] [] FL FL' ∧ g_fr n (shd SH) [] [] [] FR FR' ∧ h_FR FR' ∧ g_R n' SH' FR' ∧ (0 ≤ (FI' 110 7).toInt ∧ (FI' 110 7).toInt < (FI 111 4).toInt) ∧ ((FI' 110 5).toInt = 0 ∨ (FI' 110 8).toInt = 1) ∧ ((FI' 110 7).toInt + 1 < (FI 111 4).toInt ∨ (FI' 110 8).toInt ≤ 3) ∧ ((FI 110 7).toInt ≤ (FI' 110 7).toInt) ∧ ((FI 110 5).toInt = 0 ∨ (FI' 110 5).toInt = (FI 110 5).toInt) ∧ ((FI' 110 5).toInt ≠ 0 ∨ (FI' 110 4).toInt = (FI 110 4).toInt) ∧ ((n' : Int) ≤ n + 17 * ((FI' 110 7).toInt - (FI 110 7).toInt) + 1) ∧ ((sl' : Int) ≤ sl + 7 * ((n' : Int) - n)) ∧ ((n : Int) ≤ n') ∧ (∃ gp2 gw2 gs2, g_T n' SH' FI' FR' gp2 gw2 gs2 ∧ (∀ c, c < n → gp2 c = gp c ∧ gw2 c = gw c ∧ gs2 c = gs c) ∧ (∀ q, r = some q → gp2 q = 0 ∧ gw2 q + 20 + 40 * n ≤ 40 * n' ∧ FR' q 6 = none)) ∧ (∀ q, r = some q → q < n' ∧ own q ∧ SH' q = (3, (SH' q).2)) ∧ r ≠ none ∧ (∀ q, r = some q → n ≤ q)))) (ihC : ∀ (base d n sl : Nat) (SH : Nat → Nat × Nat) (FI : Nat → Nat → Int32) (FL : Nat → Nat → Int64) (FR : Nat → Nat → Option Nat) (hS : h_S n SH) (hF : h_FR FR) (hI : g_I FI) (hR : g_R n SH FR) (gp : Nat → Nat) (gw : Nat → Nat) (gs : Nat → Nat) (g0 : 0 ≤ (FI 110 7).toInt ∧ (FI 110 7).toInt < (FI 111 4).toInt) (g1 : (FI 110 5).toInt = 0 ∨ (FI 110 8).toInt = 1) (g2 : (FI 110 7).toInt + 1 < (FI 111 4).toInt ∨ (FI 110 8).toInt ≤ 3) (g3 : (FI 110 5).toInt ≠ 0 ∨ (FI 110 4).toInt ≤ 12) (g4 : (FI 110 5).toInt ≠ 0 ∨ 13 - (FI 110 4).toInt ≤ (e : Int)) (gg0 : g_T n SH FI FR gp gw gs) (gg1 : g_K FI) , hw sk base (E + d + 11) none 53 0 [(0, .ref (base + 110))] [] (n, sl, SH, FI, FL, FR) (h_A base (fun r s => ∃ n' sl' SH' FI' FL' FR', s = (n', sl', SH', FI', FL', FR') ∧ g_ex n SH n' SH' ∧ h_S n' SH' ∧ g_I FI' ∧ g_fr n (shd SH) [(110, 4), (110, 5), (110, 6), (110, 7), (110, 8)] [] [] FI FI' ∧ g_fr n (shd SH) [(110, 9)] [] [] FL FL' ∧ g_fr n (shd SH) [] [] [] FR FR' ∧ h_FR FR' ∧ g_R n' SH' FR' ∧ (0 ≤ (FI' 110 7).toInt ∧ (FI' 110 7).toInt < (FI 111 4).toInt) ∧ ((FI' 110 5).toInt = 0 ∨ (FI' 110 8).toInt = 1) ∧ ((FI' 110 7).toInt + 1 < (FI 111 4).toInt ∨ (FI' 110 8).toInt ≤ 3) ∧ ((FI 110 7).toInt ≤ (FI' 110 7).toInt) ∧ ((FI 110 5).toInt = 0 ∨ (FI' 110 5).toInt = (FI 110 5).toInt) ∧ ((FI' 110 5).toInt ≠ 0 ∨ (FI' 110 4).toInt = (FI 110 4).toInt) ∧ ((n' : Int) ≤ n + 17 * ((FI' 110 7).toInt - (FI 110 7).toInt) + 8) ∧ ((sl' : Int) ≤ sl + 7 * ((n' : Int) - n)) ∧ ((n : Int) ≤ n') ∧ (∃ gp2 gw2 gs2, g_T n' SH' FI' FR' gp2 gw2 gs2 ∧ (∀ c, c < n → gp2 c = gp c ∧ gw2 c = gw c ∧ gs2 c = gs c) ∧ (∀ q, r = some q → gp2 q = 0 ∧ gw2 q + 20 + 40 * n ≤ 40 * n' ∧ FR' q 6 = none)) ∧ (∀ q, r = some q → q < n' ∧ own q ∧ SH' q = (3, (SH' q).2)) ∧ r ≠ none ∧ (∀ q, r = some q → n ≤ q)))) (hS : h_S n SH) (hF : h_FR FR) (hI : g_I FI) (hR : g_R n SH FR) (gp : Nat → Nat) (gw : Nat → Nat) (gs : Nat → Nat) (g0 : 0 ≤ (FI 110 7).toInt ∧ (FI 110 7).toInt < (FI 111 4).toInt) (g1 : (FI 110 7).toInt + 1 < (FI 111 4).toInt ∨ (FI 110 8).toInt ≤ 3) (g2 : (FI 110 5).toInt = 0) (g3 : (FI 110 4).toInt ≤ 12) (g4 : 13 - (FI 110 4).toInt ≤ (e : Int) + 1) (gg0 : g_T n SH FI FR gp gw gs) (gg1 : g_K FI) : hw sk base (E + d + 20) none 54 0 [(0, .ref (base + 110)), (1, .int ((0 : Int32)))] [] (n, sl, SH, FI, FL, FR) (h_A base (fun r s => ∃ n' sl' SH' FI' FL' FR', s = (n', sl', SH', FI', FL', FR') ∧ g_ex n SH n' SH' ∧ h_S n' SH' ∧ g_I FI' ∧ g_fr n (shd SH) [(110, 4), (110, 5), (110, 6), (110, 7), (110, 8)] [] [] FI FI' ∧ g_fr n (shd SH) [(110, 9)] [] [] FL FL' ∧ g_fr n (shd SH) [] [] [] FR FR' ∧ h_FR FR' ∧ g_R n' SH' FR' ∧ (0 ≤ (FI' 110 7).toInt ∧ (FI' 110 7).toInt < (FI 111 4).toInt) ∧ ((FI' 110 5).toInt = 0 ∨ (FI' 110 8).toInt = 1) ∧ ((FI' 110 7).toInt + 1 < (FI 111 4).toInt ∨ (FI' 110 8).toInt ≤ 3) ∧ ((FI 110 7).toInt ≤ (FI' 110 7).toInt) ∧ ((FI 110 5).toInt = 0 ∨ (FI' 110 5).toInt = (FI 110 5).toInt) ∧ ((FI' 110 5).toInt ≠ 0 ∨ (FI' 110 4).toInt = (FI 110 4).toInt) ∧ ((n' : Int) ≤ n + 17 * ((FI' 110 7).toInt - (FI 110 7).toInt) + 8) ∧ ((sl' : Int) ≤ sl + 7 * ((n' : Int) - n)) ∧ ((n : Int) ≤ n') ∧ (∃ gp2 gw2 gs2, g_T n' SH' FI' FR' gp2 gw2 gs2 ∧ (∀ c, c < n → gp2 c = gp c ∧ gw2 c = gw c ∧ gs2 c = gs c) ∧ (∀ q, r = some q → gp2 q = 0 ∧ gw2 q + 20 + 40 * n ≤ 40 * n' ∧ FR' q 6 = none)) ∧ (∀ q, r = some q → q < n' ∧ own q ∧ SH' q = (3, (SH' q).2)) ∧ r ≠ none ∧ (∀ q, r = some q → n ≤ q))) := by
  have hk0 : ∀ c, c < n → gp c = gp c ∧ gw c = gw c ∧ gs c = gs c := fun _ _ => ⟨rfl, rfl, rfl⟩
  obtain ⟨x1, h2⟩ : ∃ y, FI 110 7 = y := ⟨_, rfl⟩
  have h2l := congrArg Int32.toInt h2
  have b3 := gI_110_7 hI; rw [h2] at b3
  obtain ⟨x4, h5⟩ : ∃ y, FI 111 4 = y := ⟨_, rfl⟩
  have h5l := congrArg Int32.toInt h5
  have b6 := gI_111_4 hI; rw [h5] at b6
  obtain ⟨x7, h8⟩ : ∃ y, FI 110 8 = y := ⟨_, rfl⟩
  have h8l := congrArg Int32.toInt h8
  have := i_rng x7
  obtain ⟨x9, h10⟩ : ∃ y, FI 110 5 = y := ⟨_, rfl⟩
  have h10l := congrArg Int32.toInt h10
  have := i_rng x9
  obtain ⟨x11, h12⟩ : ∃ y, FI 110 4 = y := ⟨_, rfl⟩
  have h12l := congrArg Int32.toInt h12
  have := i_rng x11
  refine xw_iloadn (aX4_readLevel 0 rfl) rfl ?_
  refine hw_bp (v := (7 : Int32)) (aX4_readLevel 1 rfl) (by decide) ?_
  refine hw_iclt (tgt := 11) (aX4_readLevel 2 rfl) (by decide) (by decide : (0 : Int32).toInt = 0) (by decide : (7 : Int32).toInt = 7) (fun cd13 => ?_) (fun cd13 => ?_)
  · refine hw_aloadn (aX4_readLevel 6 rfl) rfl ?_
    refine xw_iloadn (aX4_readLevel 7 rfl) rfl ?_
    refine hw_ic (v := (1 : Int32)) (aX4_readLevel 8 rfl) (by decide) ?_
    refine xw_iadd (aX4_readLevel 9 rfl) ?_
    rw [show (((0 : Int32)) + ((1 : Int32)) : Int32) = (1 : Int32) from by decide]
    refine hw_callV (Bs := [.int ((1 : Int32))]) (rest := []) (aX4_readLevel 10 rfl) wc_RX4_177 (by decide) rfl wi_yX4_readLevel wv_yX4_readLevel (c110 hS) (s110 hS) rfl rfl rfl (Nat.le_of_ble_eq_true rfl) (Nat.le_of_ble_eq_true rfl) (k_level1S (d := d) ihU ihC hS hF hI hR (gp) (gw) (gs) (by have := congrArg Int32.toInt (show FI 110 7 = x1 from h2); have := congrArg Int32.toInt (show FI 110 7 = x1 from h2); have := congrArg Int32.toInt (show FI 111 4 = x4 from h5); omega) (by have := congrArg Int32.toInt (show FI 110 7 = x1 from h2); have := congrArg Int32.toInt (show FI 111 4 = x4 from h5); have := congrArg Int32.toInt (show FI 110 8 = x7 from h8); omega) (by have := congrArg Int32.toInt (show FI 110 5 = x9 from h10); omega) (by have := congrArg Int32.toInt (show FI 110 4 = x11 from h12); omega) (by have := congrArg Int32.toInt (show FI 110 4 = x11 from h12); omega) (gg0) (gK_mv (L := [(110, 4), (110, 5), (110, 6), (110, 7), (110, 8)]) (A := []) (T := []) hS gg1 gf_rf (by decide))) (fun v14 sv15 p16 => ?_)
    have := congrArg Int32.toInt (show FI 111 4 = x4 from h5)
    have := congrArg Int32.toInt (show FI 111 4 = x4 from h5)
    have := congrArg Int32.toInt (show FI 110 7 = x1 from h2)
    have := congrArg Int32.toInt (show FI 110 5 = x9 from h10)
    have := congrArg Int32.toInt (show FI 110 5 = x9 from h10)
    have := congrArg Int32.toInt (show FI 110 4 = x11 from h12)
    have := congrArg Int32.toInt (show FI 110 7 = x1 from h2)
    obtain ⟨r17, rfl, n39, sl40, SH41, FI18, FL19, FR20, rfl, ex42, hS43, hI21, f22, f23, f24, hF25, hR26, t27, t28, t29, t30, t31, t32, t33, t34, t35, u36, ht37, nn38, hfr44⟩ := p16
    clear t31
    obtain ⟨gp45, gw46, gs47, hT48, hkp49, hq50⟩ := u36
    have hk51 : ∀ c, c < n → gp45 c = gp c ∧ gw46 c = gw c ∧ gs47 c = gs c := fun c hc => by obtain ⟨k1, k2, k3⟩ := hk0 c hc; obtain ⟨m1, m2, m3⟩ := hkp49 c (Nat.lt_of_lt_of_le hc (Nat.le_refl _)); exact ⟨m1.trans k1, m2.trans k2, m3.trans k3⟩
    obtain ⟨r52, rfl⟩ : ∃ q, r17 = some q := Option.ne_none_iff_exists'.mp nn38
    have fq53 := hfr44 r52 rfl
    have dq54 : 176 ≤ r52 := Nat.le_trans hS.1 fq53
    obtain ⟨lt56, ow57, sh58⟩ := ht37 r52 rfl
    obtain ⟨e59, e60, e61⟩ := hq50 r52 rfl
    obtain ⟨x62, h63⟩ : ∃ y, FI18 110 7 = y := ⟨_, rfl⟩
    have h63l := congrArg Int32.toInt h63
    have b64 := gI_110_7 hI21; rw [h63] at b64
    obtain ⟨x65, h66⟩ : ∃ y, FI18 110 5 = y := ⟨_, rfl⟩
    have h66l := congrArg Int32.toInt h66
    have := i_rng x65
    obtain ⟨x67, h68⟩ : ∃ y, FI18 110 8 = y := ⟨_, rfl⟩
    have h68l := congrArg Int32.toInt h68
    have := i_rng x67
    obtain ⟨x69, h70⟩ : ∃ y, FI18 110 4 = y := ⟨_, rfl⟩
    have h70l := congrArg Int32.toInt h70
    have := i_rng x69
    show hw sk base _ _ _ _ _ [.ref (base + r52)] _ _
    refine hw_astoren (L2 := [(2, .ref (base + r52)), (0, .ref (base + 110)), (1, .int ((0 : Int32)))]) (aX4_readLevel 11 rfl) (by decide) rfl ?_
    refine hw_aloadn (aX4_readLevel 12 rfl) rfl ?_
    refine hw_get (v := .int (x67)) (aX4_readLevel 13 rfl) wf_RX4_51 (c110 hS43) (s110 hS43) (by decide) (congrArg Value.int (show FI18 110 8 = x67 from h68)) ?_
    refine hw_callS (As := [.int (x67)]) (rest := []) (aX4_readLevel 14 rfl) wc_RX4_198 (by decide) rfl wt_yX4_levelOf rfl rfl (Nat.le_of_ble_eq_true rfl) (Nat.le_of_ble_eq_true rfl) (k_levelOf2 (d := E + d + 19) hS43 hF25 hI21 hR26 (x67) ) (fun v71 sv72 p73 => ?_)
    obtain ⟨r74, rfl, rfl, t78⟩ := p73
    have rg_r74 := i_rng r74
    show hw sk base _ _ _ _ _ [.int (r74)] _ _
    refine xw_iloadn (aX4_readLevel 15 rfl) rfl ?_
    refine hw_iceq (tgt := 32) (aX4_readLevel 16 rfl) (by decide) rfl (by decide : (0 : Int32).toInt = 0) (fun cd81 => ?_) (fun cd81 => ?_)
    · refine hv_new (t := 3) hS43 hF25 hI21 hR26 (by unfold g_dt; omega) (aX4_readLevel 19 rfl) rfl (tin_5 (i := 88) rfl rfl) (tin_1 (i := 21) rfl rfl) (fun n82 sl83 SH84 FI85 FL86 FR87 hsl88 nw89 => ?_)
      obtain ⟨hn90, ex91, hS92, hF93, hI94, hR95, lt96, sh97, dy98, eI99, eL100, eR101, zI102, zL103, zR104⟩ := nw89
      have lt105 := ex_lt ex91 lt56
      have sh106 := ex_sh ex91 lt56 sh58
      have ex107 := ex_tr ex42 ex91
      refine xw_dup (aX4_readLevel 20 rfl) rfl ?_
      refine hw_bp (v := (25 : Int32)) (aX4_readLevel 21 rfl) (by decide) ?_
      refine hw_lc (v := (0 : Int64)) (aX4_readLevel 22 rfl) (by decide) ?_
      refine hw_callN (Bs := [.int ((25 : Int32)), .long ((0 : Int64))]) (rest := [.ref (base + n39)]) (aX4_readLevel 23 rfl) wc_RX4_183 (by decide) rfl wi_yX3_init rfl rfl rfl (Nat.le_of_ble_eq_true rfl) (Nat.le_of_ble_eq_true rfl) (k_X3_init (d := E + d + 18) hS92 hF93 hI94 hR95 (n39) lt96 sh97 (Or.inr dy98) dy98 ((25 : Int32)) ((0 : Int64)) ) (fun v108 sv109 p110 => ?_)
      have := ((by decide : (25 : Int32).toInt = 25) : ((25 : Int32)).toInt = 25)
      obtain ⟨rfl, FI112, FL113, rfl, hI114, f115, f116, t119⟩ := p110
      obtain ⟨gp122, hg123⟩ : ∃ f, f = va_up gp45 n39 (0) := ⟨_, rfl⟩
      have : gp122 n39 = 0 := by rw [hg123]; exact va_s
      have : gp122 r52 = gp45 r52 := by rw [hg123]; exact va_o (Nat.ne_of_lt lt56)
      obtain ⟨gw124, hg125⟩ : ∃ f, f = va_up gw46 n39 (20) := ⟨_, rfl⟩
      have : gw124 n39 = 20 := by rw [hg125]; exact va_s
      have : gw124 r52 = gw46 r52 := by rw [hg125]; exact va_o (Nat.ne_of_lt lt56)
      obtain ⟨gs126, hg127⟩ : ∃ f, f = va_up gs47 n39 (0) := ⟨_, rfl⟩
      have : gs126 n39 = 0 := by rw [hg127]; exact va_s
      have : gs126 r52 = gs47 r52 := by rw [hg127]; exact va_o (Nat.ne_of_lt lt56)
      have hk128 : ∀ c, c < n → gp122 c = gp c ∧ gw124 c = gw c ∧ gs126 c = gs c := fun c hc => by
        obtain ⟨k1, k2, k3⟩ := hk51 c hc
        exact ⟨by rw [hg123]; exact (va_o (show c ≠ n39 from Nat.ne_of_lt (Nat.lt_of_lt_of_le hc (ex42).1))).trans k1, by rw [hg125]; exact (va_o (show c ≠ n39 from Nat.ne_of_lt (Nat.lt_of_lt_of_le hc (ex42).1))).trans k2, by rw [hg127]; exact (va_o (show c ≠ n39 from Nat.ne_of_lt (Nat.lt_of_lt_of_le hc (ex42).1))).trans k3⟩
      have hT129 : g_T n82 SH84 FI112 FR87 gp122 gw124 gs126 := by rw [hg123, hg125, hg127]; exact gT_mk hS43 hR26 hT48 hn90 ex91 sh97 (by decide) (fun c hc => (f115 c 0 hc (by simp) (by simp) (by simp)).trans (eI99 c 0 (Nat.ne_of_lt hc))) (fun c k hc => eR101 c k (Nat.ne_of_lt hc)) zR104
      obtain ⟨x130, h131⟩ : ∃ y, FI112 n39 0 = y := ⟨_, rfl⟩
      have h131l := congrArg Int32.toInt h131
      have := i_rng x130
      show hw sk base _ _ _ _ _ [.ref (base + n39)] _ _
      refine hw_astoren (L2 := [(3, .ref (base + n39)), (2, .ref (base + r52)), (0, .ref (base + 110)), (1, .int ((0 : Int32)))]) (aX4_readLevel 24 rfl) (by decide) rfl ?_
      refine hw_aloadn (aX4_readLevel 25 rfl) rfl ?_
      refine hw_aloadn (aX4_readLevel 26 rfl) rfl ?_
      refine hv_putr (r := some (r52)) (aX4_readLevel 27 rfl) wf_RX4_186 lt96 sh97 (by decide) (by first | exact Or.inl ⟨_, rfl⟩ | exact Or.inr ⟨_, rfl⟩) (Or.inl rfl) (fun FR132 u133 => ?_)
      obtain ⟨gp135, hg136⟩ : ∃ f, f = va_up gp122 r52 (n39) := ⟨_, rfl⟩
      have : gp135 r52 = n39 := by rw [hg136]; exact va_s
      have : gp135 n39 = gp122 n39 := by rw [hg136]; exact va_o (Nat.ne_of_gt lt56)
      obtain ⟨gw137, hg138⟩ : ∃ f, f = va_up gw124 n39 (gw124 r52 + 20) := ⟨_, rfl⟩
      have : gw137 n39 = gw124 r52 + 20 := by rw [hg138]; exact va_s
      have : gw137 r52 = gw124 r52 := by rw [hg138]; exact va_o (Nat.ne_of_lt lt56)
      obtain ⟨gs139, hg140⟩ : ∃ f, f = va_up gs126 r52 (0) := ⟨_, rfl⟩
      have : gs139 r52 = 0 := by rw [hg140]; exact va_s
      have : gs139 n39 = gs126 n39 := by rw [hg140]; exact va_o (Nat.ne_of_gt lt56)
      have hk141 : ∀ c, c < n → gp135 c = gp c ∧ gw137 c = gw c ∧ gs139 c = gs c := fun c hc => by
        obtain ⟨k1, k2, k3⟩ := hk128 c hc
        exact ⟨by rw [hg136]; exact (va_o (show c ≠ r52 from Nat.ne_of_lt (Nat.lt_of_lt_of_le hc (Nat.le_trans (Nat.le_refl _) fq53)))).trans k1, by rw [hg138]; exact (va_o (show c ≠ n39 from Nat.ne_of_lt (Nat.lt_of_lt_of_le hc (ex42).1))).trans k2, by rw [hg140]; exact (va_o (show c ≠ r52 from Nat.ne_of_lt (Nat.lt_of_lt_of_le hc (Nat.le_trans (Nat.le_refl _) fq53)))).trans k3⟩
      have hT134 : g_T n82 SH84 FI112 FR132 gp135 gw137 gs139 := by rw [hg136, hg138, hg140]; exact gT_mem hS92 hR95 hT129 lt96 sh97 lt105 sh106 (by rw [show FI112 n39 0 = x130 from h131]; omega) (by omega) (by omega) (Nat.ne_of_lt lt56) lt96 sh97 (by omega) (by omega) (Or.inl ⟨rfl, rfl, (show FR87 n39 3 = none from (zR104 3))⟩) u133
      have hF142 : h_FR FR132 := hF_up hS92 hF93 u133 sh97 (by decide +kernel)
      have hR143 : g_R n82 SH84 FR132 := gR_up hR95 u133 sh97 (fun r e => by cases e; exact ⟨lt105, ow57, by rw [sh106]; rfl⟩) (fun _ r e => by cases e; exact (dyn_tag hS92 sh106 (by decide +kernel))) (fun _ => by simp) (fun h => absurd h.1 (ne_tag sh97 (s49 hS92) (by decide)))
      refine hw_aloadn (aX4_readLevel 28 rfl) rfl ?_
      refine hw_astore (L2 := [(4, .ref (base + r52)), (3, .ref (base + n39)), (2, .ref (base + r52)), (0, .ref (base + 110)), (1, .int ((0 : Int32)))]) (aX4_readLevel 29 rfl) (by decide) rfl ?_
      refine xw_iloadn (aX4_readLevel 30 rfl) rfl ?_
      refine hw_ic (v := (3 : Int32)) (aX4_readLevel 31 rfl) (by decide) ?_
      refine hw_icne (tgt := 60) (aX4_readLevel 32 rfl) (by decide) (by decide : (0 : Int32).toInt = 0) (by decide : (3 : Int32).toInt = 3) (fun cd144 => ?_) (fun cd144 => ?_)
      · refine hw_sp (v := (1000 : Int32)) (aX4_readLevel 35 rfl) (by decide) ?_
        refine xw_istore (L2 := [(5, .int ((1000 : Int32))), (4, .ref (base + r52)), (3, .ref (base + n39)), (2, .ref (base + r52)), (0, .ref (base + 110)), (1, .int ((0 : Int32)))]) (aX4_readLevel 36 rfl) (by decide) rfl ?_
        refine hw_ic (v := (0 : Int32)) (aX4_readLevel 37 rfl) (by decide) ?_
        refine xw_istore (L2 := [(6, .int ((0 : Int32))), (5, .int ((1000 : Int32))), (4, .ref (base + r52)), (3, .ref (base + n39)), (2, .ref (base + r52)), (0, .ref (base + 110)), (1, .int ((0 : Int32)))]) (aX4_readLevel 38 rfl) (by decide) rfl ?_
        have lp180 : ∀ (m : Nat) (y6 : Int32) (y4 : Option Nat) (FIv151 : Nat → Nat → Int32) (FLv152 : Nat → Nat → Int64) (FRv153 : Nat → Nat → Option Nat) (n145 sl146 : Nat) (SH147 : Nat → Nat × Nat) (gp154 gw155 gs156 : Nat → Nat), (g_ex n82 SH84 n145 SH147) → (h_S n145 SH147) → (g_T n145 SH147 FIv151 FRv153 gp154 gw155 gs156) → (∀ c, c < n → gp154 c = gp c ∧ gw155 c = gw c ∧ gs156 c = gs c) → (∀ q, y4 = some q → q < n145 ∧ own q ∧ SH147 q = (3, (SH147 q).2)) → (g_fr n (shd SH) [(110, 4), (110, 5), (110, 6), (110, 7), (110, 8)] [] [] FI FIv151) → (g_fr n (shd SH) [(110, 9)] [] [] FL FLv152) → (g_fr n (shd SH) [] [] [] FR FRv153) → (g_I FIv151) → (h_FR FRv153) → (g_R n145 SH147 FRv153) → (FIv151 111 4 = x4) → (FRv153 n39 4 = none) → (FRv153 n39 5 = none) → (FRv153 n39 6 = none) → (FIv151 n39 0 = x130) → (FRv153 n39 3 = r52) → (0 ≤ (y6).toInt ∧ (y6).toInt ≤ 1000) → (0 ≤ (FIv151 110 7).toInt ∧ (FIv151 110 7).toInt < (FI 111 4).toInt) → ((FIv151 110 5).toInt = 0 ∨ (FIv151 110 8).toInt = 1) → ((FIv151 110 7).toInt + 1 < (FI 111 4).toInt ∨ (FIv151 110 8).toInt ≤ 3) → ((FI 110 7).toInt ≤ (FIv151 110 7).toInt) → ((FIv151 110 5).toInt ≠ 0 ∨ (FIv151 110 4).toInt = (FI 110 4).toInt) → ((n145 : Int) ≤ n + 17 * ((FIv151 110 7).toInt - (FI 110 7).toInt) + 8) → ((sl146 : Int) ≤ sl + 7 * ((n145 : Int) - n)) → ((n : Int) ≤ n145) → (gp154 (n39) = 0 ∧ gw155 (n39) + 20 + 40 * n ≤ 40 * n145) → (∀ m, (y4) = some m → gp154 m = (n39) ∧ gw155 (n39) = gs156 m + gw155 m + 20 ∧ n ≤ m ∧ m ≠ (n39) ∧ FRv153 m 6 = none) → ((y4) ≠ none) → 1000 - (y6).toInt < m → hw sk base (E + d + 20) none 54 68 [(6, .int (y6)), (5, .int ((1000 : Int32))), (4, va_rf (h_rf base (y4))), (3, .ref (base + n39)), (0, .ref (base + 110)), (1, .int ((0 : Int32)))] [] (n145, sl146, SH147, FIv151, FLv152, FRv153) (h_A base (fun r s => ∃ n' sl' SH' FI' FL' FR', s = (n', sl', SH', FI', FL', FR') ∧ g_ex n SH n' SH' ∧ h_S n' SH' ∧ g_I FI' ∧ g_fr n (shd SH) [(110, 4), (110, 5), (110, 6), (110, 7), (110, 8)] [] [] FI FI' ∧ g_fr n (shd SH) [(110, 9)] [] [] FL FL' ∧ g_fr n (shd SH) [] [] [] FR FR' ∧ h_FR FR' ∧ g_R n' SH' FR' ∧ (0 ≤ (FI' 110 7).toInt ∧ (FI' 110 7).toInt < (FI 111 4).toInt) ∧ ((FI' 110 5).toInt = 0 ∨ (FI' 110 8).toInt = 1) ∧ ((FI' 110 7).toInt + 1 < (FI 111 4).toInt ∨ (FI' 110 8).toInt ≤ 3) ∧ ((FI 110 7).toInt ≤ (FI' 110 7).toInt) ∧ ((FI 110 5).toInt = 0 ∨ (FI' 110 5).toInt = (FI 110 5).toInt) ∧ ((FI' 110 5).toInt ≠ 0 ∨ (FI' 110 4).toInt = (FI 110 4).toInt) ∧ ((n' : Int) ≤ n + 17 * ((FI' 110 7).toInt - (FI 110 7).toInt) + 8) ∧ ((sl' : Int) ≤ sl + 7 * ((n' : Int) - n)) ∧ ((n : Int) ≤ n') ∧ (∃ gp2 gw2 gs2, g_T n' SH' FI' FR' gp2 gw2 gs2 ∧ (∀ c, c < n → gp2 c = gp c ∧ gw2 c = gw c ∧ gs2 c = gs c) ∧ (∀ q, r = some q → gp2 q = 0 ∧ gw2 q + 20 + 40 * n ≤ 40 * n' ∧ FR' q 6 = none)) ∧ (∀ q, r = some q → q < n' ∧ own q ∧ SH' q = (3, (SH' q).2)) ∧ r ≠ none ∧ (∀ q, r = some q → n ≤ q))) := by
          intro m
          induction m with
          | zero => intro y6 y4 FIv151 FLv152 FRv153 n145 sl146 SH147 gp154 gw155 gs156 ex148 hS149 hT157 hk158 ty150 fr159 fr160 fr161 hI162 hF163 hR164 kp165 kp166 kp167 kp168 kp169 kp170 iv171 iv172 iv173 iv174 iv175 iv176 iv177 iv178 iv179 xi68_0 xi68_1 xi68_2 hm; omega
          | succ m ih =>
            intro y6 y4 FIv151 FLv152 FRv153 n145 sl146 SH147 gp154 gw155 gs156 ex148 hS149 hT157 hk158 ty150 fr159 fr160 fr161 hI162 hF163 hR164 kp165 kp166 kp167 kp168 kp169 kp170 iv171 iv172 iv173 iv174 iv175 iv176 iv177 iv178 iv179 xi68_0 xi68_1 xi68_2 hm
            have rg_y6 := i_rng y6
            have := congrArg Int32.toInt kp165
            have := congrArg Int32.toInt kp169
            have lt181 := ex_lt ex148 lt96
            have sh182 := ex_sh ex148 lt96 sh97
            have lt183 := ex_lt ex148 lt105
            have sh184 := ex_sh ex148 lt105 sh106
            have ex185 := ex_tr ex107 ex148
            obtain ⟨x186, h187⟩ : ∃ y, FIv151 110 7 = y := ⟨_, rfl⟩
            have h187l := congrArg Int32.toInt h187
            have b188 := gI_110_7 hI162; rw [h187] at b188
            obtain ⟨x189, h190⟩ : ∃ y, FIv151 110 5 = y := ⟨_, rfl⟩
            have h190l := congrArg Int32.toInt h190
            have := i_rng x189
            obtain ⟨x191, h192⟩ : ∃ y, FIv151 110 8 = y := ⟨_, rfl⟩
            have h192l := congrArg Int32.toInt h192
            have := i_rng x191
            obtain ⟨x193, h194⟩ : ∃ y, FIv151 110 4 = y := ⟨_, rfl⟩
            have h194l := congrArg Int32.toInt h194
            have := i_rng x193
            refine xw_iload (aX4_readLevel 39 rfl) rfl ?_
            refine xw_iload (aX4_readLevel 40 rfl) rfl ?_
            refine hw_icge (tgt := 128) (aX4_readLevel 41 rfl) (by decide) rfl (by decide : (1000 : Int32).toInt = 1000) (fun cd195 => ?_) (fun cd195 => ?_)
            · obtain ⟨hz1, hz2⟩ := xi68_0
              refine hw_aloadn (aX4_readLevel 67 rfl) rfl ?_
              refine xw_aret (v := h_rf base (some (n39))) (aX4_readLevel 68 rfl) rfl (by first | exact Or.inl ⟨_, rfl⟩ | exact Or.inr ⟨_, rfl⟩) ?_
              exact ⟨some (n39), rfl, n145, sl146, SH147, FIv151, FLv152, FRv153, rfl, ex185, hS149, hI162, fr159, fr160, fr161, hF163, hR164, (by have := congrArg Int32.toInt (show FIv151 110 7 = x186 from h187); omega), (by have := congrArg Int32.toInt (show FIv151 110 5 = x189 from h190); have := congrArg Int32.toInt (show FIv151 110 8 = x191 from h192); omega), (by have := congrArg Int32.toInt (show FIv151 110 7 = x186 from h187); have := congrArg Int32.toInt (show FIv151 110 8 = x191 from h192); omega), (by have := congrArg Int32.toInt (show FIv151 110 7 = x186 from h187); omega), (by have := congrArg Int32.toInt (show FIv151 110 5 = x189 from h190); omega), (by have := congrArg Int32.toInt (show FIv151 110 4 = x193 from h194); have := congrArg Int32.toInt (show FIv151 110 5 = x189 from h190); omega), (by have := congrArg Int32.toInt (show FIv151 110 7 = x186 from h187); omega), (by omega), (by omega), (by exact ⟨gp154, gw155, gs156, hT157, hk158, fun q e => by cases e; exact ⟨by omega, by omega, (show FRv153 n39 6 = none from kp168)⟩⟩), ((fun r e => by cases e; exact ⟨lt181, (Or.inr dy98), by rw [sh182]⟩)), (by simp), (fun q e => by cases e; exact (ex42).1)⟩
            · refine hw_aloadn (aX4_readLevel 42 rfl) rfl ?_
              refine hw_get (v := .int (x191)) (aX4_readLevel 43 rfl) wf_RX4_51 (c110 hS149) (s110 hS149) (by decide) (congrArg Value.int (show FIv151 110 8 = x191 from h192)) ?_
              refine hw_callS (As := [.int (x191)]) (rest := []) (aX4_readLevel 44 rfl) wc_RX4_198 (by decide) rfl wt_yX4_levelOf rfl rfl (Nat.le_of_ble_eq_true rfl) (Nat.le_of_ble_eq_true rfl) (k_levelOf2 (d := E + d + 19) hS149 hF163 hI162 hR164 (x191) ) (fun v196 sv197 p198 => ?_)
              obtain ⟨r199, rfl, rfl, t203⟩ := p198
              have rg_r199 := i_rng r199
              show hw sk base _ _ _ _ _ [.int (r199)] _ _
              refine xw_iloadn (aX4_readLevel 45 rfl) rfl ?_
              refine hw_icne (tgt := 128) (aX4_readLevel 46 rfl) (by decide) rfl (by decide : (0 : Int32).toInt = 0) (fun cd206 => ?_) (fun cd206 => ?_)
              · obtain ⟨hz1, hz2⟩ := xi68_0
                refine hw_aloadn (aX4_readLevel 67 rfl) rfl ?_
                refine xw_aret (v := h_rf base (some (n39))) (aX4_readLevel 68 rfl) rfl (by first | exact Or.inl ⟨_, rfl⟩ | exact Or.inr ⟨_, rfl⟩) ?_
                exact ⟨some (n39), rfl, n145, sl146, SH147, FIv151, FLv152, FRv153, rfl, ex185, hS149, hI162, fr159, fr160, fr161, hF163, hR164, (by have := congrArg Int32.toInt (show FIv151 110 7 = x186 from h187); omega), (by have := congrArg Int32.toInt (show FIv151 110 5 = x189 from h190); have := congrArg Int32.toInt (show FIv151 110 8 = x191 from h192); omega), (by have := congrArg Int32.toInt (show FIv151 110 7 = x186 from h187); have := congrArg Int32.toInt (show FIv151 110 8 = x191 from h192); omega), (by have := congrArg Int32.toInt (show FIv151 110 7 = x186 from h187); omega), (by have := congrArg Int32.toInt (show FIv151 110 5 = x189 from h190); omega), (by have := congrArg Int32.toInt (show FIv151 110 4 = x193 from h194); have := congrArg Int32.toInt (show FIv151 110 5 = x189 from h190); omega), (by have := congrArg Int32.toInt (show FIv151 110 7 = x186 from h187); omega), (by omega), (by omega), (by exact ⟨gp154, gw155, gs156, hT157, hk158, fun q e => by cases e; exact ⟨by omega, by omega, (show FRv153 n39 6 = none from kp168)⟩⟩), ((fun r e => by cases e; exact ⟨lt181, (Or.inr dy98), by rw [sh182]⟩)), (by simp), (fun q e => by cases e; exact (ex42).1)⟩
              · refine hw_aloadn (aX4_readLevel 47 rfl) rfl ?_
                refine hw_get (v := .int (x191)) (aX4_readLevel 48 rfl) wf_RX4_51 (c110 hS149) (s110 hS149) (by decide) (congrArg Value.int (show FIv151 110 8 = x191 from h192)) ?_
                refine xw_istore (L2 := [(7, .int (x191)), (6, .int (y6)), (5, .int ((1000 : Int32))), (4, va_rf (h_rf base (y4))), (3, .ref (base + n39)), (0, .ref (base + 110)), (1, .int ((0 : Int32)))]) (aX4_readLevel 49 rfl) (by decide) (by first | rfl | simp [x_s1, x_s2, va_cat, va_ci, va_cl, va_cr, va_cn] | (simp [x_s1, x_s2, va_cat, va_ci, va_cl, va_cr, va_cn]; decide)) ?_
                obtain ⟨r207, rfl⟩ := Option.ne_none_iff_exists'.mp xi68_2
                obtain ⟨lt208, ow209, sh210⟩ := ty150 r207 rfl
                show hw sk base _ _ _ _ [(7, .int (x191)), (6, .int (y6)), (5, .int ((1000 : Int32))), (4, .ref (base + r207)), (3, .ref (base + n39)), (0, .ref (base + 110)), (1, .int ((0 : Int32)))] [] _ _
                obtain ⟨f211, f212, f213, f214, f215⟩ := xi68_1 r207 rfl
                obtain ⟨f216, f217⟩ := xi68_0
                clear xi68_1 xi68_2
                refine hw_aloadn (aX4_readLevel 50 rfl) rfl ?_
                refine hw_callV (Bs := []) (rest := []) (aX4_readLevel 51 rfl) wc_RX4_48 (by decide) rfl wi_yX4_take wv_yX4_take (c110 hS149) (s110 hS149) rfl rfl rfl (Nat.le_of_ble_eq_true rfl) (Nat.le_of_ble_eq_true rfl) (k_take2 (d := E + d + 19) hS149 hF163 hI162 hR164 (by have := congrArg Int32.toInt (show FIv151 110 7 = x186 from h187); have := congrArg Int32.toInt (show FIv151 110 7 = x186 from h187); have := congrArg Int32.toInt (show FIv151 111 4 = x4 from kp165); omega) (by have := congrArg Int32.toInt (show FIv151 110 5 = x189 from h190); have := congrArg Int32.toInt (show FIv151 110 8 = x191 from h192); omega) (by have := congrArg Int32.toInt (show FIv151 110 7 = x186 from h187); have := congrArg Int32.toInt (show FIv151 111 4 = x4 from kp165); have := congrArg Int32.toInt (show FIv151 110 8 = x191 from h192); omega) (gK_mv (L := [(110, 4), (110, 5), (110, 6), (110, 7), (110, 8)]) (A := []) (T := []) hS gg1 fr159 (by decide))) (fun v218 sv219 p220 => ?_)
                have := congrArg Int32.toInt (show FIv151 111 4 = x4 from kp165)
                have := congrArg Int32.toInt (show FIv151 111 4 = x4 from kp165)
                have := congrArg Int32.toInt (show FIv151 110 7 = x186 from h187)
                have := congrArg Int32.toInt (show FIv151 110 5 = x189 from h190)
                have := congrArg Int32.toInt (show FIv151 110 5 = x189 from h190)
                have := congrArg Int32.toInt (show FIv151 110 5 = x189 from h190)
                have := congrArg Int32.toInt (show FIv151 110 5 = x189 from h190)
                have := congrArg Int32.toInt (show FIv151 110 7 = x186 from h187)
                have := congrArg Int32.toInt (show FIv151 111 4 = x4 from kp165)
                have := congrArg Int32.toInt (show FIv151 110 7 = x186 from h187)
                have := congrArg Int32.toInt (show FIv151 110 7 = x186 from h187)
                have := congrArg Int32.toInt (show FIv151 110 5 = x189 from h190)
                have := congrArg Int32.toInt (show FIv151 110 8 = x191 from h192)
                obtain ⟨rfl, FI222, FL223, rfl, hI224, f225, f226, t229, t230, t231, t232, t233, t234, t235, t236, t237⟩ := p220
                replace t235 := (t235.resolve_left (by omega)).resolve_left (by omega)
                clear t28 t29 t233 t237
                have hT240 : g_T n145 SH147 FI222 FRv153 gp154 gw155 gs156 := gT_mw (L := [(110, 7), (110, 8)]) (A := []) (T := []) (L2 := []) (A2 := []) (T2 := []) hS149 hT157 f225 gf_rf (by decide) (by decide)
                obtain ⟨x241, h242⟩ : ∃ y, FI222 110 7 = y := ⟨_, rfl⟩
                have h242l := congrArg Int32.toInt h242
                have b243 := gI_110_7 hI224; rw [h242] at b243
                obtain ⟨x244, h245⟩ : ∃ y, FI222 110 8 = y := ⟨_, rfl⟩
                have h245l := congrArg Int32.toInt h245
                have := i_rng x244
                show hw sk base _ _ _ _ _ [] _ _
                refine hw_aload (aX4_readLevel 52 rfl) rfl ?_
                refine hw_aloadn (aX4_readLevel 53 rfl) rfl ?_
                refine xw_iloadn (aX4_readLevel 54 rfl) rfl ?_
                refine hw_ic (v := (1 : Int32)) (aX4_readLevel 55 rfl) (by decide) ?_
                refine xw_iadd (aX4_readLevel 56 rfl) ?_
                rw [show (((0 : Int32)) + ((1 : Int32)) : Int32) = (1 : Int32) from by decide]
                refine hw_callV (Bs := [.int ((1 : Int32))]) (rest := [.ref (base + r207)]) (aX4_readLevel 57 rfl) wc_RX4_177 (by decide) rfl wi_yX4_readLevel wv_yX4_readLevel (c110 hS149) (s110 hS149) rfl rfl rfl (Nat.le_of_ble_eq_true rfl) (Nat.le_of_ble_eq_true rfl) (k_level1S (d := d) ihU ihC hS149 hF163 hI224 hR164 (gp154) (gw155) (gs156) (by have := congrArg Int32.toInt (show FI222 110 7 = x241 from h242); have := congrArg Int32.toInt (show FI222 110 7 = x241 from h242); have := congrArg Int32.toInt (show FI222 111 4 = x4 from (gf_at f225 (c111 hS149) (shd_f (by decide) (s111 hS149)) rfl (kp165))); omega) (by have := congrArg Int32.toInt (show FI222 110 7 = x241 from h242); have := congrArg Int32.toInt (show FI222 111 4 = x4 from (gf_at f225 (c111 hS149) (shd_f (by decide) (s111 hS149)) rfl (kp165))); have := congrArg Int32.toInt (show FI222 110 8 = x244 from h245); omega) (by have := congrArg Int32.toInt (show FI222 110 5 = x189 from (gf_at f225 (c110 hS149) (shd_f (by decide) (s110 hS149)) rfl (h190))); omega) (by have := congrArg Int32.toInt (show FI222 110 4 = x193 from (gf_at f225 (c110 hS149) (shd_f (by decide) (s110 hS149)) rfl (h194))); omega) (by have := congrArg Int32.toInt (show FI222 110 4 = x193 from (gf_at f225 (c110 hS149) (shd_f (by decide) (s110 hS149)) rfl (h194))); omega) (hT240) (gK_mv (L := [(110, 4), (110, 5), (110, 6), (110, 7), (110, 8)]) (A := []) (T := []) hS gg1 (gf_tr (ex_shd ex185) fr159 f225 rfl rfl rfl) (by decide))) (fun v246 sv247 p248 => ?_)
                have := congrArg Int32.toInt (show FI222 111 4 = x4 from (gf_at f225 (c111 hS149) (shd_f (by decide) (s111 hS149)) rfl (kp165)))
                have := congrArg Int32.toInt (show FI222 111 4 = x4 from (gf_at f225 (c111 hS149) (shd_f (by decide) (s111 hS149)) rfl (kp165)))
                have := congrArg Int32.toInt (show FI222 110 7 = x241 from h242)
                have := congrArg Int32.toInt (show FI222 110 5 = x189 from (gf_at f225 (c110 hS149) (shd_f (by decide) (s110 hS149)) rfl (h190)))
                have := congrArg Int32.toInt (show FI222 110 5 = x189 from (gf_at f225 (c110 hS149) (shd_f (by decide) (s110 hS149)) rfl (h190)))
                have := congrArg Int32.toInt (show FI222 110 4 = x193 from (gf_at f225 (c110 hS149) (shd_f (by decide) (s110 hS149)) rfl (h194)))
                have := congrArg Int32.toInt (show FI222 110 7 = x241 from h242)
                obtain ⟨r249, rfl, n271, sl272, SH273, FI250, FL251, FR252, rfl, ex274, hS275, hI253, f254, f255, f256, hF257, hR258, t259, t260, t261, t262, t263, t264, t265, t266, t267, u268, ht269, nn270, hfr276⟩ := p248
                clear t230 t231 t263
                obtain ⟨gp277, gw278, gs279, hT280, hkp281, hq282⟩ := u268
                obtain ⟨e283, e284, e285⟩ := hkp281 n39 lt181
                obtain ⟨e286, e287, e288⟩ := hkp281 r207 lt208
                obtain ⟨e289, e290, e291⟩ := hkp281 r52 lt183
                have hk292 : ∀ c, c < n → gp277 c = gp c ∧ gw278 c = gw c ∧ gs279 c = gs c := fun c hc => by obtain ⟨k1, k2, k3⟩ := hk158 c hc; obtain ⟨m1, m2, m3⟩ := hkp281 c (Nat.lt_of_lt_of_le hc (ex185).1); exact ⟨m1.trans k1, m2.trans k2, m3.trans k3⟩
                have lt293 := ex_lt ex274 lt181
                have sh294 := ex_sh ex274 lt181 sh182
                have lt295 := ex_lt ex274 lt208
                have sh296 := ex_sh ex274 lt208 sh210
                have lt297 := ex_lt ex274 lt183
                have sh298 := ex_sh ex274 lt183 sh184
                have ex299 := ex_tr ex148 ex274
                have ex300 := ex_tr ex185 ex274
                obtain ⟨r301, rfl⟩ : ∃ q, r249 = some q := Option.ne_none_iff_exists'.mp nn270
                have fq302 := hfr276 r301 rfl
                have dq303 : 176 ≤ r301 := Nat.le_trans hS149.1 fq302
                obtain ⟨lt305, ow306, sh307⟩ := ht269 r301 rfl
                obtain ⟨e308, e309, e310⟩ := hq282 r301 rfl
                obtain ⟨x311, h312⟩ : ∃ y, FI250 110 7 = y := ⟨_, rfl⟩
                have h312l := congrArg Int32.toInt h312
                have b313 := gI_110_7 hI253; rw [h312] at b313
                obtain ⟨x314, h315⟩ : ∃ y, FI250 110 5 = y := ⟨_, rfl⟩
                have h315l := congrArg Int32.toInt h315
                have := i_rng x314
                obtain ⟨x316, h317⟩ : ∃ y, FI250 110 8 = y := ⟨_, rfl⟩
                have h317l := congrArg Int32.toInt h317
                have := i_rng x316
                obtain ⟨x318, h319⟩ : ∃ y, FI250 110 4 = y := ⟨_, rfl⟩
                have h319l := congrArg Int32.toInt h319
                have := i_rng x318
                show hw sk base _ _ _ _ _ [.ref (base + r301), .ref (base + r207)] _ _
                refine hv_putr (r := some (r301)) (aX4_readLevel 58 rfl) wf_RX4_202 lt295 sh296 (by decide) (by first | exact Or.inl ⟨_, rfl⟩ | exact Or.inr ⟨_, rfl⟩) (Or.inl rfl) (fun FR320 u321 => ?_)
                obtain ⟨gp323, hg324⟩ : ∃ f, f = va_up gp277 r301 (n39) := ⟨_, rfl⟩
                have : gp323 r301 = n39 := by rw [hg324]; exact va_s
                have : gp323 n39 = gp277 n39 := by rw [hg324]; exact va_o (Nat.ne_of_lt (Nat.lt_of_lt_of_le lt181 fq302))
                have : gp323 r207 = gp277 r207 := by rw [hg324]; exact va_o (Nat.ne_of_lt (Nat.lt_of_lt_of_le lt208 fq302))
                have : gp323 r52 = gp277 r52 := by rw [hg324]; exact va_o (Nat.ne_of_lt (Nat.lt_of_lt_of_le lt183 fq302))
                obtain ⟨gw325, hg326⟩ : ∃ f, f = va_up gw278 n39 (gs279 r207 + gw278 r207 + gw278 r301 + 40) := ⟨_, rfl⟩
                have : gw325 n39 = gs279 r207 + gw278 r207 + gw278 r301 + 40 := by rw [hg326]; exact va_s
                have : gw325 r207 = gw278 r207 := by rw [hg326]; exact va_o f214
                have : gw325 r301 = gw278 r301 := by rw [hg326]; exact va_o (Nat.ne_of_gt (Nat.lt_of_lt_of_le lt181 fq302))
                have : gw325 r52 = gw278 r52 := by rw [hg326]; exact va_o (Nat.ne_of_lt lt56)
                obtain ⟨gs327, hg328⟩ : ∃ f, f = va_up gs279 r301 (gs279 r207 + gw278 r207 + 20) := ⟨_, rfl⟩
                have : gs327 r301 = gs279 r207 + gw278 r207 + 20 := by rw [hg328]; exact va_s
                have : gs327 n39 = gs279 n39 := by rw [hg328]; exact va_o (Nat.ne_of_lt (Nat.lt_of_lt_of_le lt181 fq302))
                have : gs327 r207 = gs279 r207 := by rw [hg328]; exact va_o (Nat.ne_of_lt (Nat.lt_of_lt_of_le lt208 fq302))
                have : gs327 r52 = gs279 r52 := by rw [hg328]; exact va_o (Nat.ne_of_lt (Nat.lt_of_lt_of_le lt183 fq302))
                have hk329 : ∀ c, c < n → gp323 c = gp c ∧ gw325 c = gw c ∧ gs327 c = gs c := fun c hc => by
                  obtain ⟨k1, k2, k3⟩ := hk292 c hc
                  exact ⟨by rw [hg324]; exact (va_o (show c ≠ r301 from Nat.ne_of_lt (Nat.lt_of_lt_of_le hc (Nat.le_trans (ex185).1 fq302)))).trans k1, by rw [hg326]; exact (va_o (show c ≠ n39 from Nat.ne_of_lt (Nat.lt_of_lt_of_le hc (ex42).1))).trans k2, by rw [hg328]; exact (va_o (show c ≠ r301 from Nat.ne_of_lt (Nat.lt_of_lt_of_le hc (Nat.le_trans (ex185).1 fq302)))).trans k3⟩
                have hT322 : g_T n271 SH273 FI250 FR320 gp323 gw325 gs327 := by rw [hg324, hg326, hg328]; exact gT_mem hS275 hR258 hT280 lt293 sh294 lt305 sh307 (by rw [show FI250 n39 0 = x130 from (gf_as hS149 f254 lt181 sh182 (shd_d (dyn_tag hS149 sh182 (by decide +kernel)) sh182) (by decide +kernel) ((gf_as hS149 f225 lt181 sh182 (shd_d (dyn_tag hS149 sh182 (by decide +kernel)) sh182) (by decide +kernel) (kp169))))]; omega) (by omega) (by omega) (Nat.ne_of_gt (Nat.lt_of_lt_of_le lt181 fq302)) lt295 sh296 (by omega) (by omega) (Or.inr ⟨f214, (Ne.symm (Nat.ne_of_gt (Nat.lt_of_lt_of_le lt208 fq302))), rfl, by omega, by omega⟩) u321
                have hF330 : h_FR FR320 := hF_up hS275 hF257 u321 sh296 (by decide +kernel)
                have hR331 : g_R n271 SH273 FR320 := gR_up hR258 u321 sh296 (fun r e => by cases e; exact ⟨lt305, ow306, by rw [sh307]; rfl⟩) (fun _ r e => by cases e; exact (dyn_tag hS275 sh307 (by decide +kernel))) (fun _ => by simp) (fun h => absurd h.1 (ne_tag sh296 (s49 hS275) (by decide)))
                refine hw_aload (aX4_readLevel 59 rfl) rfl ?_
                refine hw_get (v := .ref (base + r301)) (aX4_readLevel 60 rfl) wf_RX4_202 lt295 sh296 (by decide) (congrArg (fun r => va_rf (h_rf base r)) (show FR320 r207 6 = some r301 from up_eq u321)) ?_
                refine hw_astore (L2 := [(4, .ref (base + r301)), (7, .int (x191)), (6, .int (y6)), (5, .int ((1000 : Int32))), (3, .ref (base + n39)), (0, .ref (base + 110)), (1, .int ((0 : Int32)))]) (aX4_readLevel 61 rfl) (by decide) rfl ?_
                refine hw_aload (aX4_readLevel 62 rfl) rfl ?_
                refine xw_iload (aX4_readLevel 63 rfl) rfl ?_
                refine hv_puti (aX4_readLevel 64 rfl) wf_RX4_204 lt305 sh307 (by decide) rfl rfl (fun FI332 u333 => ?_)
                have hT334 : g_T n271 SH273 FI332 FR320 gp323 gw325 gs327 := gT_wi hT322 (fun _ => by decide) u333
                have hI335 : g_I FI332 := gU_F hI253 u333 (g_hi (dyn_tag hS275 sh307 (by decide +kernel)))
                obtain ⟨x336, q338⟩ : ∃ y : Int32, (y6) + Int32.ofInt (1) = y := ⟨_, rfl⟩
                have e337 : (x336).toInt = (y6).toInt + (1) := by rw [← q338]; exact i_add rfl (by decide) (by omega) (by omega)
                refine xw_iinc (L2 := [(6, .int (x336)), (4, .ref (base + r301)), (7, .int (x191)), (5, .int ((1000 : Int32))), (3, .ref (base + n39)), (0, .ref (base + 110)), (1, .int ((0 : Int32)))]) (aX4_readLevel 65 rfl) rfl (by decide) (by rw [q338]; rfl) ?_
                refine xw_goto (tgt := 68) (aX4_readLevel 66 rfl) (by decide) ?_
                exact hw_L (ih (x336) (some (r301)) FI332 FL251 FR320 n271 sl272 SH273 gp323 gw325 gs327 ex299 hS275 hT334 hk329 ((fun r e => by cases e; exact ⟨lt305, ow306, by rw [sh307]⟩)) (gf_n (gf_tr (ex_shd ex185) (gf_tr (ex_shd ex185) fr159 f225 rfl rfl rfl) f254 rfl rfl rfl) u333 (Nat.le_trans (ex185).1 fq302)) (gf_tr (ex_shd ex185) (gf_tr (ex_shd ex185) fr160 f226 rfl rfl rfl) f255 rfl rfl rfl) (gf_n (gf_tr (ex_shd ex185) fr161 f256 rfl rfl rfl) u321 f213) hI335 hF330 hR331 (show FI332 111 4 = x4 from (up_c u333 (ne_tag (s111 hS275) sh307 (by decide)) ((gf_at f254 (c111 hS149) (shd_f (by decide) (s111 hS149)) rfl ((gf_at f225 (c111 hS149) (shd_f (by decide) (s111 hS149)) rfl (kp165))))))) (show FR320 n39 4 = none from (up_c u321 (Ne.symm f214) ((gf_at f256 lt181 (shd_d (dyn_tag hS149 sh182 (by decide +kernel)) sh182) rfl (kp166))))) (show FR320 n39 5 = none from (up_c u321 (Ne.symm f214) ((gf_at f256 lt181 (shd_d (dyn_tag hS149 sh182 (by decide +kernel)) sh182) rfl (kp167))))) (show FR320 n39 6 = none from (up_c u321 (Ne.symm f214) ((gf_at f256 lt181 (shd_d (dyn_tag hS149 sh182 (by decide +kernel)) sh182) rfl (kp168))))) (show FI332 n39 0 = x130 from (up_c u333 (Nat.ne_of_lt (Nat.lt_of_lt_of_le lt181 fq302)) ((gf_as hS149 f254 lt181 sh182 (shd_d (dyn_tag hS149 sh182 (by decide +kernel)) sh182) (by decide +kernel) ((gf_as hS149 f225 lt181 sh182 (shd_d (dyn_tag hS149 sh182 (by decide +kernel)) sh182) (by decide +kernel) (kp169))))))) (show FR320 n39 3 = r52 from (up_c u321 (Ne.symm f214) ((gf_at f256 lt181 (shd_d (dyn_tag hS149 sh182 (by decide +kernel)) sh182) rfl (kp170))))) (by have := (e337 : (x336).toInt = (y6).toInt + (1)); omega) (by have := (e337 : (x336).toInt = (y6).toInt + (1)); have := congrArg Int32.toInt (show FI332 110 7 = x311 from (up_c u333 (ne_tag (s110 hS275) sh307 (by decide)) (h312))); omega) (by have := (e337 : (x336).toInt = (y6).toInt + (1)); have := congrArg Int32.toInt (show FI332 110 5 = x314 from (up_c u333 (ne_tag (s110 hS275) sh307 (by decide)) (h315))); have := congrArg Int32.toInt (show FI332 110 8 = x316 from (up_c u333 (ne_tag (s110 hS275) sh307 (by decide)) (h317))); omega) (by have := (e337 : (x336).toInt = (y6).toInt + (1)); have := congrArg Int32.toInt (show FI332 110 7 = x311 from (up_c u333 (ne_tag (s110 hS275) sh307 (by decide)) (h312))); have := congrArg Int32.toInt (show FI332 110 8 = x316 from (up_c u333 (ne_tag (s110 hS275) sh307 (by decide)) (h317))); omega) (by have := (e337 : (x336).toInt = (y6).toInt + (1)); have := congrArg Int32.toInt (show FI332 110 7 = x311 from (up_c u333 (ne_tag (s110 hS275) sh307 (by decide)) (h312))); omega) (by have := (e337 : (x336).toInt = (y6).toInt + (1)); have := congrArg Int32.toInt (show FI332 110 4 = x318 from (up_c u333 (ne_tag (s110 hS275) sh307 (by decide)) (h319))); have := congrArg Int32.toInt (show FI332 110 5 = x314 from (up_c u333 (ne_tag (s110 hS275) sh307 (by decide)) (h315))); omega) (by have := (e337 : (x336).toInt = (y6).toInt + (1)); have := congrArg Int32.toInt (show FI332 110 7 = x311 from (up_c u333 (ne_tag (s110 hS275) sh307 (by decide)) (h312))); omega) (by have := (e337 : (x336).toInt = (y6).toInt + (1)); omega) (by have := (e337 : (x336).toInt = (y6).toInt + (1)); omega) (show gp323 (n39) = 0 ∧ gw325 (n39) + 20 + 40 * n ≤ 40 * n271 from (by have := (e337 : (x336).toInt = (y6).toInt + (1)); exact ⟨by omega, by omega⟩)) (show ∀ m, (some (r301)) = some m → gp323 m = (n39) ∧ gw325 (n39) = gs327 m + gw325 m + 20 ∧ n ≤ m ∧ m ≠ (n39) ∧ FR320 m 6 = none from (by have := (e337 : (x336).toInt = (y6).toInt + (1)); exact (fun m hm => by cases hm; exact ⟨by omega, by omega, (Nat.le_trans (ex185).1 fq302), (Nat.ne_of_gt (Nat.lt_of_lt_of_le lt181 fq302)), (show FR320 r301 6 = none from (up_c u321 (Nat.ne_of_gt (Nat.lt_of_lt_of_le lt208 fq302)) (e310)))⟩))) (show (some (r301)) ≠ none from (by have := (e337 : (x336).toInt = (y6).toInt + (1)); exact (by simp))) (by have := (e337 : (x336).toInt = (y6).toInt + (1)); omega)) ⟨rfl, rfl, rfl, rfl, rfl, rfl, trivial⟩
        exact hw_L (lp180 ((1000 - 0 : Int).toNat + 1) ((0 : Int32)) (some (r52)) FI112 FL113 FR132 n82 sl83 SH84 gp135 gw137 gs139 ex_rf hS92 hT134 hk141 ((fun r e => by cases e; exact ⟨lt105, ow57, by rw [sh106]⟩)) (gf_tr ⟨(ex42).1, ((ex_shd ex107)).2⟩ (gf_al (gf_tr ex_rf gf_rf f22 rfl rfl rfl) (ex42).1 eI99) f115 rfl rfl rfl) (gf_tr ⟨(ex42).1, ((ex_shd ex107)).2⟩ (gf_al (gf_tr ex_rf gf_rf f23 rfl rfl rfl) (ex42).1 eL100) f116 rfl rfl rfl) (gf_n (gf_al (gf_tr ex_rf gf_rf f24 rfl rfl rfl) (ex42).1 eR101) u133 (ex42).1) hI114 hF142 hR143 (show FI112 111 4 = x4 from ((f115 111 (4) (Nat.lt_of_lt_of_le (by decide : 111 < 176) dy98) (by simp) (by simp) (by simp)).trans (((eI99 111 (4) (Nat.ne_of_lt (c111 hS43))).trans ((gf_at f22 (c111 hS) (shd_f (by decide) (s111 hS)) rfl (h5))))))) (show FR132 n39 4 = none from (up_k u133 (by decide) ((zR104 4)))) (show FR132 n39 5 = none from (up_k u133 (by decide) ((zR104 5)))) (show FR132 n39 6 = none from (up_k u133 (by decide) ((zR104 6)))) (show FI112 n39 0 = x130 from h131) (show FR132 n39 3 = r52 from up_eq u133) (by have := ((by decide : (0 : Int32).toInt = 0) : ((0 : Int32)).toInt = 0); omega) (by have := ((by decide : (0 : Int32).toInt = 0) : ((0 : Int32)).toInt = 0); have := congrArg Int32.toInt (show FI112 110 7 = x62 from ((f115 110 (7) (Nat.lt_of_lt_of_le (by decide : 110 < 176) dy98) (by simp) (by simp) (by simp)).trans (((eI99 110 (7) (Nat.ne_of_lt (c110 hS43))).trans (h63))))); omega) (by have := ((by decide : (0 : Int32).toInt = 0) : ((0 : Int32)).toInt = 0); have := congrArg Int32.toInt (show FI112 110 5 = x65 from ((f115 110 (5) (Nat.lt_of_lt_of_le (by decide : 110 < 176) dy98) (by simp) (by simp) (by simp)).trans (((eI99 110 (5) (Nat.ne_of_lt (c110 hS43))).trans (h66))))); have := congrArg Int32.toInt (show FI112 110 8 = x67 from ((f115 110 (8) (Nat.lt_of_lt_of_le (by decide : 110 < 176) dy98) (by simp) (by simp) (by simp)).trans (((eI99 110 (8) (Nat.ne_of_lt (c110 hS43))).trans (h68))))); omega) (by have := ((by decide : (0 : Int32).toInt = 0) : ((0 : Int32)).toInt = 0); have := congrArg Int32.toInt (show FI112 110 7 = x62 from ((f115 110 (7) (Nat.lt_of_lt_of_le (by decide : 110 < 176) dy98) (by simp) (by simp) (by simp)).trans (((eI99 110 (7) (Nat.ne_of_lt (c110 hS43))).trans (h63))))); have := congrArg Int32.toInt (show FI112 110 8 = x67 from ((f115 110 (8) (Nat.lt_of_lt_of_le (by decide : 110 < 176) dy98) (by simp) (by simp) (by simp)).trans (((eI99 110 (8) (Nat.ne_of_lt (c110 hS43))).trans (h68))))); omega) (by have := ((by decide : (0 : Int32).toInt = 0) : ((0 : Int32)).toInt = 0); have := congrArg Int32.toInt (show FI112 110 7 = x62 from ((f115 110 (7) (Nat.lt_of_lt_of_le (by decide : 110 < 176) dy98) (by simp) (by simp) (by simp)).trans (((eI99 110 (7) (Nat.ne_of_lt (c110 hS43))).trans (h63))))); omega) (by have := ((by decide : (0 : Int32).toInt = 0) : ((0 : Int32)).toInt = 0); have := congrArg Int32.toInt (show FI112 110 4 = x69 from ((f115 110 (4) (Nat.lt_of_lt_of_le (by decide : 110 < 176) dy98) (by simp) (by simp) (by simp)).trans (((eI99 110 (4) (Nat.ne_of_lt (c110 hS43))).trans (h70))))); have := congrArg Int32.toInt (show FI112 110 5 = x65 from ((f115 110 (5) (Nat.lt_of_lt_of_le (by decide : 110 < 176) dy98) (by simp) (by simp) (by simp)).trans (((eI99 110 (5) (Nat.ne_of_lt (c110 hS43))).trans (h66))))); omega) (by have := ((by decide : (0 : Int32).toInt = 0) : ((0 : Int32)).toInt = 0); have := congrArg Int32.toInt (show FI112 110 7 = x62 from ((f115 110 (7) (Nat.lt_of_lt_of_le (by decide : 110 < 176) dy98) (by simp) (by simp) (by simp)).trans (((eI99 110 (7) (Nat.ne_of_lt (c110 hS43))).trans (h63))))); omega) (by have := ((by decide : (0 : Int32).toInt = 0) : ((0 : Int32)).toInt = 0); omega) (by have := ((by decide : (0 : Int32).toInt = 0) : ((0 : Int32)).toInt = 0); omega) (show gp135 (n39) = 0 ∧ gw137 (n39) + 20 + 40 * n ≤ 40 * n82 from (by have := ((by decide : (0 : Int32).toInt = 0) : ((0 : Int32)).toInt = 0); exact ⟨by omega, by omega⟩)) (show ∀ m, (some (r52)) = some m → gp135 m = (n39) ∧ gw137 (n39) = gs139 m + gw137 m + 20 ∧ n ≤ m ∧ m ≠ (n39) ∧ FR132 m 6 = none from (by have := ((by decide : (0 : Int32).toInt = 0) : ((0 : Int32)).toInt = 0); exact (fun m hm => by cases hm; exact ⟨by omega, by omega, (Nat.le_trans (Nat.le_refl _) fq53), (Nat.ne_of_lt lt56), (show FR132 r52 6 = none from (up_c u133 (Nat.ne_of_lt lt56) (((eR101 r52 (6) (Nat.ne_of_lt lt56)).trans (e61)))))⟩))) (show (some (r52)) ≠ none from (by have := ((by decide : (0 : Int32).toInt = 0) : ((0 : Int32)).toInt = 0); exact (by simp))) (by have := ((by decide : (0 : Int32).toInt = 0) : ((0 : Int32)).toInt = 0); omega)) ⟨rfl, rfl, rfl, rfl, rfl, rfl, trivial⟩
      · omega
    · refine hw_aloadn (aX4_readLevel 17 rfl) rfl ?_
      refine xw_aret (v := h_rf base (some (r52))) (aX4_readLevel 18 rfl) rfl (by first | exact Or.inl ⟨_, rfl⟩ | exact Or.inr ⟨_, rfl⟩) ?_
      exact ⟨some (r52), rfl, n39, sl40, SH41, FI18, FL19, FR20, rfl, ex42, hS43, hI21, (gf_tr ex_rf gf_rf f22 rfl rfl rfl), (gf_tr ex_rf gf_rf f23 rfl rfl rfl), (gf_tr ex_rf gf_rf f24 rfl rfl rfl), hF25, hR26, (by have := congrArg Int32.toInt (show FI18 110 7 = x62 from h63); omega), (by have := congrArg Int32.toInt (show FI18 110 5 = x65 from h66); have := congrArg Int32.toInt (show FI18 110 8 = x67 from h68); omega), (by have := congrArg Int32.toInt (show FI18 110 7 = x62 from h63); have := congrArg Int32.toInt (show FI18 110 8 = x67 from h68); omega), (by have := congrArg Int32.toInt (show FI18 110 7 = x62 from h63); omega), (by have := congrArg Int32.toInt (show FI18 110 5 = x65 from h66); omega), (by have := congrArg Int32.toInt (show FI18 110 4 = x69 from h70); have := congrArg Int32.toInt (show FI18 110 5 = x65 from h66); omega), (by have := congrArg Int32.toInt (show FI18 110 7 = x62 from h63); omega), (by omega), (by omega), (by exact ⟨gp45, gw46, gs47, hT48, hk51, fun q e => by cases e; exact ⟨by omega, by omega, (show FR20 r52 6 = none from e61)⟩⟩), ((fun r e => by cases e; exact ⟨lt56, ow57, by rw [sh58]⟩)), (by simp), (fun q e => by cases e; exact (Nat.le_trans (Nat.le_refl _) fq53))⟩
  · omega
end
section
set_option maxHeartbeats 4000000 in
set_option maxRecDepth 100000 in
theorem k_choiceS {sk : xK} {base d n sl : Nat} {SH : Nat → Nat × Nat} {FI : Nat → Nat → Int32} {FL : Nat → Nat → Int64} {FR : Nat → Nat → Option Nat} {E e : Nat} (ihU : ∀ (base d n sl : Nat) (SH : Nat → Nat × Nat) (FI : Nat → Nat → Int32) (FL : Nat → Nat → Int64) (FR : Nat → Nat → Option Nat) (hS : h_S n SH) (hF : h_FR FR) (hI : g_I FI) (hR : g_R n SH FR) (gp : Nat → Nat) (gw : Nat → Nat) (gs : Nat → Nat) (g0 : 0 ≤ (FI 110 7).toInt ∧ (FI 110 7).toInt < (FI 111 4).toInt) (g1 : (FI 110 5).toInt = 0 ∨ (FI 110 8).toInt = 1) (g2 : (FI 110 7).toInt + 1 < (FI 111 4).toInt ∨ (FI 110 8).toInt ≤ 3) (g3 : (FI 110 5).toInt ≠ 0 ∨ (FI 110 4).toInt ≤ 12) (g4 : (FI 110 5).toInt ≠ 0 ∨ 13 - (FI 110 4).toInt ≤ (e : Int)) (gg0 : g_T n SH FI FR gp gw gs) (gg1 : g_K FI) , hw sk base (E + d + 11) none 56 0 [(0, .ref (base + 110))] [] (n, sl, SH, FI, FL, FR) (h_A base (fun r s => ∃ n' sl' SH' FI' FL' FR', s = (n', sl', SH', FI', FL', FR') ∧ g_ex n SH n' SH' ∧ h_S n' SH' ∧ g_I FI' ∧ g_fr n (shd SH) [(110, 4), (110, 5), (110, 6), (110, 7), (110, 8)] [] [] FI FI' ∧ g_fr n (shd SH) [(110, 9)] [] [] FL FL' ∧ g_fr n (shd SH) [] [] [] FR FR' ∧ h_FR FR' ∧ g_R n' SH' FR' ∧ (0 ≤ (FI' 110 7).toInt ∧ (FI' 110 7).toInt < (FI 111 4).toInt) ∧ ((FI' 110 5).toInt = 0 ∨ (FI' 110 8).toInt = 1) ∧ ((FI' 110 7).toInt + 1 < (FI 111 4).toInt ∨ (FI' 110 8).toInt ≤ 3) ∧ ((FI 110 7).toInt ≤ (FI' 110 7).toInt) ∧ ((FI 110 5).toInt = 0 ∨ (FI' 110 5).toInt = (FI 110 5).toInt) ∧ ((FI' 110 5).toInt ≠ 0 ∨ (FI' 110 4).toInt = (FI 110 4).toInt) ∧ ((n' : Int) ≤ n + 17 * ((FI' 110 7).toInt - (FI 110 7).toInt) + 1) ∧ ((sl' : Int) ≤ sl + 7 * ((n' : Int) - n)) ∧ ((n : Int) ≤ n') ∧ (∃ gp2 gw2 gs2, g_T n' SH' FI' FR' gp2 gw2 gs2 ∧ (∀ c, c < n → gp2 c = gp c ∧ gw2 c = gw c ∧ gs2 c = gs c) ∧ (∀ q, r = some q → gp2 q = 0 ∧ gw2 q + 20 + 40 * n ≤ 40 * n' ∧ FR' q 6 = none)) ∧ (∀ q, r = some q → q < n' ∧ own q ∧ SH' q = (3, (SH' q).2)) ∧ r ≠ none ∧ (∀ q, r = some q → n ≤ q)))) (ihC : ∀ (base d n sl : Nat) (SH : Nat → Nat × Nat) (FI : Nat → Nat → Int32) (FL : Nat → Nat → Int64) (FR : Nat → Nat → Option Nat) (hS : h_S n SH) (hF : h_FR FR) (hI : g_I FI) (hR : g_R n SH FR) (gp : Nat → Nat) (gw : Nat → Nat) (gs : Nat → Nat) (g0 : 0 ≤ (FI 110 7).toInt ∧ (FI 110 7).toInt < (FI 111 4).toInt) (g1 : (FI 110 5).toInt = 0 ∨ (FI 110 8).toInt = 1) (g2 : (FI 110 7).toInt + 1 < (FI 111 4).toInt ∨ (FI 110 8).toInt ≤ 3) (g3 : (FI 110 5).toInt ≠ 0 ∨ (FI 110 4).toInt ≤ 12) (g4 : (FI 110 5).toInt ≠ 0 ∨ 13 - (FI 110 4).toInt ≤ (e : Int)) (gg0 : g_T n SH FI FR gp gw gs) (gg1 : g_K FI) , hw sk base (E + d + 11) none 53 0 [(0, .ref (base + 110))] [] (n, sl, SH, FI, FL, FR) (h_A base (fun r s => ∃ n' sl' SH' FI' FL' FR', s = (n', sl', SH', FI', FL', FR') ∧ g_ex n SH n' SH' ∧ h_S n' SH' ∧ g_I FI' ∧ g_fr n (shd SH) [(110, 4), (110, 5), (110, 6), (110, 7), (110, 8)] [] [] FI FI' ∧ g_fr n (shd SH) [(110, 9)] [] [] FL FL' ∧ g_fr n (shd SH) [] [] [] FR FR' ∧ h_FR FR' ∧ g_R n' SH' FR' ∧ (0 ≤ (FI' 110 7).toInt ∧ (FI' 110 7).toInt < (FI 111 4).toInt) ∧ ((FI' 110 5).toInt = 0 ∨ (FI' 110 8).toInt = 1) ∧ ((FI' 110 7).toInt + 1 < (FI 111 4).toInt ∨ (FI' 110 8).toInt ≤ 3) ∧ ((FI 110 7).toInt ≤ (FI' 110 7).toInt) ∧ ((FI 110 5).toInt = 0 ∨ (FI' 110 5).toInt = (FI 110 5).toInt) ∧ ((FI' 110 5).toInt ≠ 0 ∨ (FI' 110 4).toInt = (FI 110 4).toInt) ∧ ((n' : Int) ≤ n + 17 * ((FI' 110 7).toInt - (FI 110 7).toInt) + 8) ∧ ((sl' : Int) ≤ sl + 7 * ((n' : Int) - n)) ∧ ((n : Int) ≤ n') ∧ (∃ gp2 gw2 gs2, g_T n' SH' FI' FR' gp2 gw2 gs2 ∧ (∀ c, c < n → gp2 c = gp c ∧ gw2 c = gw c ∧ gs2 c = gs c) ∧ (∀ q, r = some q → gp2 q = 0 ∧ gw2 q + 20 + 40 * n ≤ 40 * n' ∧ FR' q 6 = none)) ∧ (∀ q, r = some q → q < n' ∧ own q ∧ SH' q = (3, (SH' q).2)) ∧ r ≠ none ∧ (∀ q, r = some q → n ≤ q)))) (hS : h_S n SH) (hF : h_FR FR) (hI : g_I FI) (hR : g_R n SH FR) (gp : Nat → Nat) (gw : Nat → Nat) (gs : Nat → Nat) (g0 : 0 ≤ (FI 110 7).toInt ∧ (FI 110 7).toInt < (FI 111 4).toInt) (g1 : (FI 110 7).toInt + 1 < (FI 111 4).toInt ∨ (FI 110 8).toInt ≤ 3) (g2 : (FI 110 5).toInt = 0) (g3 : (FI 110 4).toInt ≤ 12) (g4 : 13 - (FI 110 4).toInt ≤ (e : Int) + 1) (gg0 : g_T n SH FI FR gp gw gs) (gg1 : g_K FI) : hw sk base (E + d + 21) none 53 0 [(0, .ref (base + 110))] [] (n, sl, SH, FI, FL, FR) (h_A base (fun r s => ∃ n' sl' SH' FI' FL' FR', s = (n', sl', SH', FI', FL', FR') ∧ g_ex n SH n' SH' ∧ h_S n' SH' ∧ g_I FI' ∧ g_fr n (shd SH) [(110, 4), (110, 5), (110, 6), (110, 7), (110, 8)] [] [] FI FI' ∧ g_fr n (shd SH) [(110, 9)] [] [] FL FL' ∧ g_fr n (shd SH) [] [] [] FR FR' ∧ h_FR FR' ∧ g_R n' SH' FR' ∧ (0 ≤ (FI' 110 7).toInt ∧ (FI' 110 7).toInt < (FI 111 4).toInt) ∧ ((FI' 110 5).toInt = 0 ∨ (FI' 110 8).toInt = 1) ∧ ((FI' 110 7).toInt + 1 < (FI 111 4).toInt ∨ (FI' 110 8).toInt ≤ 3) ∧ ((FI 110 7).toInt ≤ (FI' 110 7).toInt) ∧ ((FI 110 5).toInt = 0 ∨ (FI' 110 5).toInt = (FI 110 5).toInt) ∧ ((FI' 110 5).toInt ≠ 0 ∨ (FI' 110 4).toInt = (FI 110 4).toInt) ∧ ((n' : Int) ≤ n + 17 * ((FI' 110 7).toInt - (FI 110 7).toInt) + 8) ∧ ((sl' : Int) ≤ sl + 7 * ((n' : Int) - n)) ∧ ((n : Int) ≤ n') ∧ (∃ gp2 gw2 gs2, g_T n' SH' FI' FR' gp2 gw2 gs2 ∧ (∀ c, c < n → gp2 c = gp c ∧ gw2 c = gw c ∧ gs2 c = gs c) ∧ (∀ q, r = some q → gp2 q = 0 ∧ gw2 q + 20 + 40 * n ≤ 40 * n' ∧ FR' q 6 = none)) ∧ (∀ q, r = some q → q < n' ∧ own q ∧ SH' q = (3, (SH' q).2)) ∧ r ≠ none ∧ (∀ q, r = some q → n ≤ q))) := by
  have hk0 : ∀ c, c < n → gp c = gp c ∧ gw c = gw c ∧ gs c = gs c := fun _ _ => ⟨rfl, rfl, rfl⟩
  obtain ⟨x1, h2⟩ : ∃ y, FI 110 7 = y := ⟨_, rfl⟩
  have h2l := congrArg Int32.toInt h2
  have b3 := gI_110_7 hI; rw [h2] at b3
  obtain ⟨x4, h5⟩ : ∃ y, FI 111 4 = y := ⟨_, rfl⟩
  have h5l := congrArg Int32.toInt h5
  have b6 := gI_111_4 hI; rw [h5] at b6
  obtain ⟨x7, h8⟩ : ∃ y, FI 110 8 = y := ⟨_, rfl⟩
  have h8l := congrArg Int32.toInt h8
  have := i_rng x7
  obtain ⟨x9, h10⟩ : ∃ y, FI 110 5 = y := ⟨_, rfl⟩
  have h10l := congrArg Int32.toInt h10
  have := i_rng x9
  obtain ⟨x11, h12⟩ : ∃ y, FI 110 4 = y := ⟨_, rfl⟩
  have h12l := congrArg Int32.toInt h12
  have := i_rng x11
  refine hw_aloadn (aX4_readChoice 0 rfl) rfl ?_
  refine hw_ic (v := (0 : Int32)) (aX4_readChoice 1 rfl) (by decide) ?_
  refine hw_callV (Bs := [.int ((0 : Int32))]) (rest := []) (aX4_readChoice 2 rfl) wc_RX4_177 (by decide) rfl wi_yX4_readLevel wv_yX4_readLevel (c110 hS) (s110 hS) rfl rfl rfl (Nat.le_of_ble_eq_true rfl) (Nat.le_of_ble_eq_true rfl) (k_level0S (d := d) ihU ihC hS hF hI hR (gp) (gw) (gs) (by have := congrArg Int32.toInt (show FI 110 7 = x1 from h2); have := congrArg Int32.toInt (show FI 110 7 = x1 from h2); have := congrArg Int32.toInt (show FI 111 4 = x4 from h5); omega) (by have := congrArg Int32.toInt (show FI 110 7 = x1 from h2); have := congrArg Int32.toInt (show FI 111 4 = x4 from h5); have := congrArg Int32.toInt (show FI 110 8 = x7 from h8); omega) (by have := congrArg Int32.toInt (show FI 110 5 = x9 from h10); omega) (by have := congrArg Int32.toInt (show FI 110 4 = x11 from h12); omega) (by have := congrArg Int32.toInt (show FI 110 4 = x11 from h12); omega) (gg0) (gK_mv (L := [(110, 4), (110, 5), (110, 6), (110, 7), (110, 8)]) (A := []) (T := []) hS gg1 gf_rf (by decide))) (fun v13 sv14 p15 => ?_)
  have := congrArg Int32.toInt (show FI 111 4 = x4 from h5)
  have := congrArg Int32.toInt (show FI 111 4 = x4 from h5)
  have := congrArg Int32.toInt (show FI 110 7 = x1 from h2)
  have := congrArg Int32.toInt (show FI 110 5 = x9 from h10)
  have := congrArg Int32.toInt (show FI 110 5 = x9 from h10)
  have := congrArg Int32.toInt (show FI 110 4 = x11 from h12)
  have := congrArg Int32.toInt (show FI 110 7 = x1 from h2)
  obtain ⟨r16, rfl, n38, sl39, SH40, FI17, FL18, FR19, rfl, ex41, hS42, hI20, f21, f22, f23, hF24, hR25, t26, t27, t28, t29, t30, t31, t32, t33, t34, u35, ht36, nn37, hfr43⟩ := p15
  clear t30
  obtain ⟨gp44, gw45, gs46, hT47, hkp48, hq49⟩ := u35
  have hk50 : ∀ c, c < n → gp44 c = gp c ∧ gw45 c = gw c ∧ gs46 c = gs c := fun c hc => by obtain ⟨k1, k2, k3⟩ := hk0 c hc; obtain ⟨m1, m2, m3⟩ := hkp48 c (Nat.lt_of_lt_of_le hc (Nat.le_refl _)); exact ⟨m1.trans k1, m2.trans k2, m3.trans k3⟩
  obtain ⟨r51, rfl⟩ : ∃ q, r16 = some q := Option.ne_none_iff_exists'.mp nn37
  have fq52 := hfr43 r51 rfl
  have dq53 : 176 ≤ r51 := Nat.le_trans hS.1 fq52
  obtain ⟨lt55, ow56, sh57⟩ := ht36 r51 rfl
  obtain ⟨e58, e59, e60⟩ := hq49 r51 rfl
  obtain ⟨x61, h62⟩ : ∃ y, FI17 110 7 = y := ⟨_, rfl⟩
  have h62l := congrArg Int32.toInt h62
  have b63 := gI_110_7 hI20; rw [h62] at b63
  obtain ⟨x64, h65⟩ : ∃ y, FI17 110 5 = y := ⟨_, rfl⟩
  have h65l := congrArg Int32.toInt h65
  have := i_rng x64
  obtain ⟨x66, h67⟩ : ∃ y, FI17 110 8 = y := ⟨_, rfl⟩
  have h67l := congrArg Int32.toInt h67
  have := i_rng x66
  obtain ⟨x68, h69⟩ : ∃ y, FI17 110 4 = y := ⟨_, rfl⟩
  have h69l := congrArg Int32.toInt h69
  have := i_rng x68
  show hw sk base _ _ _ _ _ [.ref (base + r51)] _ _
  refine hw_astoren (L2 := [(1, .ref (base + r51)), (0, .ref (base + 110))]) (aX4_readChoice 3 rfl) (by decide) rfl ?_
  refine hw_aloadn (aX4_readChoice 4 rfl) rfl ?_
  refine hw_get (v := .int (x66)) (aX4_readChoice 5 rfl) wf_RX4_51 (c110 hS42) (s110 hS42) (by decide) (congrArg Value.int (show FI17 110 8 = x66 from h67)) ?_
  refine hw_bp (v := (63 : Int32)) (aX4_readChoice 6 rfl) (by decide) ?_
  refine hw_icne (tgt := 22) (aX4_readChoice 7 rfl) (by decide) rfl (by decide : (63 : Int32).toInt = 63) (fun cd70 => ?_) (fun cd70 => ?_)
  · refine hw_aloadn (aX4_readChoice 11 rfl) rfl ?_
    refine xw_aret (v := h_rf base (some (r51))) (aX4_readChoice 12 rfl) rfl (by first | exact Or.inl ⟨_, rfl⟩ | exact Or.inr ⟨_, rfl⟩) ?_
    exact ⟨some (r51), rfl, n38, sl39, SH40, FI17, FL18, FR19, rfl, ex41, hS42, hI20, (gf_tr ex_rf gf_rf f21 rfl rfl rfl), (gf_tr ex_rf gf_rf f22 rfl rfl rfl), (gf_tr ex_rf gf_rf f23 rfl rfl rfl), hF24, hR25, (by have := congrArg Int32.toInt (show FI17 110 7 = x61 from h62); omega), (by have := congrArg Int32.toInt (show FI17 110 5 = x64 from h65); have := congrArg Int32.toInt (show FI17 110 8 = x66 from h67); omega), (by have := congrArg Int32.toInt (show FI17 110 7 = x61 from h62); have := congrArg Int32.toInt (show FI17 110 8 = x66 from h67); omega), (by have := congrArg Int32.toInt (show FI17 110 7 = x61 from h62); omega), (by have := congrArg Int32.toInt (show FI17 110 5 = x64 from h65); omega), (by have := congrArg Int32.toInt (show FI17 110 4 = x68 from h69); have := congrArg Int32.toInt (show FI17 110 5 = x64 from h65); omega), (by have := congrArg Int32.toInt (show FI17 110 7 = x61 from h62); omega), (by omega), (by omega), (by exact ⟨gp44, gw45, gs46, hT47, hk50, fun q e => by cases e; exact ⟨by omega, by omega, (show FR19 r51 6 = none from e60)⟩⟩), ((fun r e => by cases e; exact ⟨lt55, ow56, by rw [sh57]⟩)), (by simp), (fun q e => by cases e; exact (Nat.le_trans (Nat.le_refl _) fq52))⟩
  · refine hw_aloadn (aX4_readChoice 8 rfl) rfl ?_
    refine hw_callV (Bs := []) (rest := []) (aX4_readChoice 9 rfl) wc_RX4_117 (by decide) rfl wi_yX4_raise wv_yX4_raise (c110 hS42) (s110 hS42) rfl rfl rfl (Nat.le_of_ble_eq_true rfl) (Nat.le_of_ble_eq_true rfl) (k_raise2 (d := E + d + 19) hS42 hF24 hI20 hR25 (by have := congrArg Int32.toInt (show FI17 110 7 = x61 from h62); have := congrArg Int32.toInt (show FI17 110 7 = x61 from h62); have := congrArg Int32.toInt (show FI17 111 4 = x4 from (gf_at f21 (c111 hS) (shd_f (by decide) (s111 hS)) rfl (h5))); omega) (by have := congrArg Int32.toInt (show FI17 110 5 = x64 from h65); have := congrArg Int32.toInt (show FI17 110 8 = x66 from h67); omega) (by have := congrArg Int32.toInt (show FI17 110 7 = x61 from h62); have := congrArg Int32.toInt (show FI17 111 4 = x4 from (gf_at f21 (c111 hS) (shd_f (by decide) (s111 hS)) rfl (h5))); have := congrArg Int32.toInt (show FI17 110 8 = x66 from h67); omega)) (fun v71 sv72 p73 => ?_)
    have := congrArg Int32.toInt (show FI17 110 4 = x68 from h69)
    have := congrArg Int32.toInt (show FI17 110 4 = x68 from h69)
    have := congrArg Int32.toInt (show FI17 110 5 = x64 from h65)
    have := congrArg Int32.toInt (show FI17 110 8 = x66 from h67)
    have := congrArg Int32.toInt (show FI17 110 4 = x68 from h69)
    have := congrArg Int32.toInt (show FI17 110 5 = x64 from h65)
    have := congrArg Int32.toInt (show FI17 110 5 = x64 from h65)
    obtain ⟨r74, rfl, FI75, rfl, hI76, f77, t80, t81, t82, t83⟩ := p73
    clear t82
    have hT86 : g_T n38 SH40 FI75 FR19 gp44 gw45 gs46 := gT_mw (L := [(110, 4), (110, 5), (110, 6), (110, 8)]) (A := []) (T := []) (L2 := []) (A2 := []) (T2 := []) hS42 hT47 f77 gf_rf (by decide) (by decide)
    obtain ⟨x87, h88⟩ : ∃ y, FI75 110 4 = y := ⟨_, rfl⟩
    have h88l := congrArg Int32.toInt h88
    have := i_rng x87
    obtain ⟨x89, h90⟩ : ∃ y, FI75 110 5 = y := ⟨_, rfl⟩
    have h90l := congrArg Int32.toInt h90
    have := i_rng x89
    obtain ⟨x91, h92⟩ : ∃ y, FI75 110 8 = y := ⟨_, rfl⟩
    have h92l := congrArg Int32.toInt h92
    have := i_rng x91
    show hw sk base _ _ _ _ _ [.int (r74)] _ _
    refine hw_ifne (tgt := 24) (aX4_readChoice 10 rfl) (by decide) rfl (fun cd93 => ?_) (fun cd93 => ?_)
    · replace t80 := t80 (by omega)
      clear t81
      have : (x89).toInt = 0 := by omega
      refine hv_new (t := 3) hS42 hF24 hI76 hR25 (by unfold g_dt; omega) (aX4_readChoice 13 rfl) rfl (tin_5 (i := 88) rfl rfl) (tin_1 (i := 21) rfl rfl) (fun n94 sl95 SH96 FI97 FL98 FR99 hsl100 nw101 => ?_)
      obtain ⟨hn102, ex103, hS104, hF105, hI106, hR107, lt108, sh109, dy110, eI111, eL112, eR113, zI114, zL115, zR116⟩ := nw101
      have lt117 := ex_lt ex103 lt55
      have sh118 := ex_sh ex103 lt55 sh57
      have ex119 := ex_tr ex41 ex103
      refine xw_dup (aX4_readChoice 14 rfl) rfl ?_
      refine hw_bp (v := (63 : Int32)) (aX4_readChoice 15 rfl) (by decide) ?_
      refine hw_lc (v := (0 : Int64)) (aX4_readChoice 16 rfl) (by decide) ?_
      refine hw_callN (Bs := [.int ((63 : Int32)), .long ((0 : Int64))]) (rest := [.ref (base + n38)]) (aX4_readChoice 17 rfl) wc_RX4_183 (by decide) rfl wi_yX3_init rfl rfl rfl (Nat.le_of_ble_eq_true rfl) (Nat.le_of_ble_eq_true rfl) (k_X3_init (d := E + d + 19) hS104 hF105 hI106 hR107 (n38) lt108 sh109 (Or.inr dy110) dy110 ((63 : Int32)) ((0 : Int64)) ) (fun v120 sv121 p122 => ?_)
      have := ((by decide : (63 : Int32).toInt = 63) : ((63 : Int32)).toInt = 63)
      obtain ⟨rfl, FI124, FL125, rfl, hI126, f127, f128, t131⟩ := p122
      obtain ⟨gp134, hg135⟩ : ∃ f, f = va_up gp44 n38 (0) := ⟨_, rfl⟩
      have : gp134 n38 = 0 := by rw [hg135]; exact va_s
      have : gp134 r51 = gp44 r51 := by rw [hg135]; exact va_o (Nat.ne_of_lt lt55)
      obtain ⟨gw136, hg137⟩ : ∃ f, f = va_up gw45 n38 (20) := ⟨_, rfl⟩
      have : gw136 n38 = 20 := by rw [hg137]; exact va_s
      have : gw136 r51 = gw45 r51 := by rw [hg137]; exact va_o (Nat.ne_of_lt lt55)
      obtain ⟨gs138, hg139⟩ : ∃ f, f = va_up gs46 n38 (0) := ⟨_, rfl⟩
      have : gs138 n38 = 0 := by rw [hg139]; exact va_s
      have : gs138 r51 = gs46 r51 := by rw [hg139]; exact va_o (Nat.ne_of_lt lt55)
      have hk140 : ∀ c, c < n → gp134 c = gp c ∧ gw136 c = gw c ∧ gs138 c = gs c := fun c hc => by
        obtain ⟨k1, k2, k3⟩ := hk50 c hc
        exact ⟨by rw [hg135]; exact (va_o (show c ≠ n38 from Nat.ne_of_lt (Nat.lt_of_lt_of_le hc (ex41).1))).trans k1, by rw [hg137]; exact (va_o (show c ≠ n38 from Nat.ne_of_lt (Nat.lt_of_lt_of_le hc (ex41).1))).trans k2, by rw [hg139]; exact (va_o (show c ≠ n38 from Nat.ne_of_lt (Nat.lt_of_lt_of_le hc (ex41).1))).trans k3⟩
      have hT141 : g_T n94 SH96 FI124 FR99 gp134 gw136 gs138 := by rw [hg135, hg137, hg139]; exact gT_mk hS42 hR25 hT86 hn102 ex103 sh109 (by decide) (fun c hc => (f127 c 0 hc (by simp) (by simp) (by simp)).trans (eI111 c 0 (Nat.ne_of_lt hc))) (fun c k hc => eR113 c k (Nat.ne_of_lt hc)) zR116
      obtain ⟨x142, h143⟩ : ∃ y, FI124 n38 0 = y := ⟨_, rfl⟩
      have h143l := congrArg Int32.toInt h143
      have := i_rng x142
      show hw sk base _ _ _ _ _ [.ref (base + n38)] _ _
      refine hw_astoren (L2 := [(2, .ref (base + n38)), (1, .ref (base + r51)), (0, .ref (base + 110))]) (aX4_readChoice 18 rfl) (by decide) rfl ?_
      refine hw_aloadn (aX4_readChoice 19 rfl) rfl ?_
      refine hw_aloadn (aX4_readChoice 20 rfl) rfl ?_
      refine hv_putr (r := some (r51)) (aX4_readChoice 21 rfl) wf_RX4_186 lt108 sh109 (by decide) (by first | exact Or.inl ⟨_, rfl⟩ | exact Or.inr ⟨_, rfl⟩) (Or.inl rfl) (fun FR144 u145 => ?_)
      obtain ⟨gp147, hg148⟩ : ∃ f, f = va_up gp134 r51 (n38) := ⟨_, rfl⟩
      have : gp147 r51 = n38 := by rw [hg148]; exact va_s
      have : gp147 n38 = gp134 n38 := by rw [hg148]; exact va_o (Nat.ne_of_gt lt55)
      obtain ⟨gw149, hg150⟩ : ∃ f, f = va_up gw136 n38 (gw136 n38 + gw136 r51) := ⟨_, rfl⟩
      have : gw149 n38 = gw136 n38 + gw136 r51 := by rw [hg150]; exact va_s
      have : gw149 r51 = gw136 r51 := by rw [hg150]; exact va_o (Nat.ne_of_lt lt55)
      have hk151 : ∀ c, c < n → gp147 c = gp c ∧ gw149 c = gw c ∧ gs138 c = gs c := fun c hc => by
        obtain ⟨k1, k2, k3⟩ := hk140 c hc
        exact ⟨by rw [hg148]; exact (va_o (show c ≠ r51 from Nat.ne_of_lt (Nat.lt_of_lt_of_le hc (Nat.le_trans (Nat.le_refl _) fq52)))).trans k1, by rw [hg150]; exact (va_o (show c ≠ n38 from Nat.ne_of_lt (Nat.lt_of_lt_of_le hc (ex41).1))).trans k2, k3⟩
      have hT146 : g_T n94 SH96 FI124 FR144 gp147 gw149 gs138 := by rw [hg148, hg150]; exact gT_link hS104 hT141 lt108 sh109 lt117 (by decide) (show FR99 n38 3 = none from (zR116 3)) (by rw [show FI124 n38 0 = x142 from h143]; omega) (by omega) (by omega) (Nat.ne_of_lt lt55) u145
      have hF152 : h_FR FR144 := hF_up hS104 hF105 u145 sh109 (by decide +kernel)
      have hR153 : g_R n94 SH96 FR144 := gR_up hR107 u145 sh109 (fun r e => by cases e; exact ⟨lt117, ow56, by rw [sh118]; rfl⟩) (fun _ r e => by cases e; exact (dyn_tag hS104 sh118 (by decide +kernel))) (fun _ => by simp) (fun h => absurd h.1 (ne_tag sh109 (s49 hS104) (by decide)))
      refine hw_aloadn (aX4_readChoice 22 rfl) rfl ?_
      refine hw_callV (Bs := []) (rest := []) (aX4_readChoice 23 rfl) wc_RX4_48 (by decide) rfl wi_yX4_take wv_yX4_take (c110 hS104) (s110 hS104) rfl rfl rfl (Nat.le_of_ble_eq_true rfl) (Nat.le_of_ble_eq_true rfl) (k_take2 (d := E + d + 20) hS104 hF152 hI126 hR153 (by have := congrArg Int32.toInt (show FI124 110 7 = x61 from ((f127 110 (7) (Nat.lt_of_lt_of_le (by decide : 110 < 176) dy110) (by simp) (by simp) (by simp)).trans (((eI111 110 (7) (Nat.ne_of_lt (c110 hS42))).trans ((gf_at f77 (c110 hS42) (shd_f (by decide) (s110 hS42)) rfl (h62))))))); have := congrArg Int32.toInt (show FI124 110 7 = x61 from ((f127 110 (7) (Nat.lt_of_lt_of_le (by decide : 110 < 176) dy110) (by simp) (by simp) (by simp)).trans (((eI111 110 (7) (Nat.ne_of_lt (c110 hS42))).trans ((gf_at f77 (c110 hS42) (shd_f (by decide) (s110 hS42)) rfl (h62))))))); have := congrArg Int32.toInt (show FI124 111 4 = x4 from ((f127 111 (4) (Nat.lt_of_lt_of_le (by decide : 111 < 176) dy110) (by simp) (by simp) (by simp)).trans (((eI111 111 (4) (Nat.ne_of_lt (c111 hS42))).trans ((gf_at f77 (c111 hS42) (shd_f (by decide) (s111 hS42)) rfl ((gf_at f21 (c111 hS) (shd_f (by decide) (s111 hS)) rfl (h5))))))))); omega) (by have := congrArg Int32.toInt (show FI124 110 5 = x89 from ((f127 110 (5) (Nat.lt_of_lt_of_le (by decide : 110 < 176) dy110) (by simp) (by simp) (by simp)).trans (((eI111 110 (5) (Nat.ne_of_lt (c110 hS42))).trans (h90))))); have := congrArg Int32.toInt (show FI124 110 8 = x91 from ((f127 110 (8) (Nat.lt_of_lt_of_le (by decide : 110 < 176) dy110) (by simp) (by simp) (by simp)).trans (((eI111 110 (8) (Nat.ne_of_lt (c110 hS42))).trans (h92))))); omega) (by have := congrArg Int32.toInt (show FI124 110 7 = x61 from ((f127 110 (7) (Nat.lt_of_lt_of_le (by decide : 110 < 176) dy110) (by simp) (by simp) (by simp)).trans (((eI111 110 (7) (Nat.ne_of_lt (c110 hS42))).trans ((gf_at f77 (c110 hS42) (shd_f (by decide) (s110 hS42)) rfl (h62))))))); have := congrArg Int32.toInt (show FI124 111 4 = x4 from ((f127 111 (4) (Nat.lt_of_lt_of_le (by decide : 111 < 176) dy110) (by simp) (by simp) (by simp)).trans (((eI111 111 (4) (Nat.ne_of_lt (c111 hS42))).trans ((gf_at f77 (c111 hS42) (shd_f (by decide) (s111 hS42)) rfl ((gf_at f21 (c111 hS) (shd_f (by decide) (s111 hS)) rfl (h5))))))))); have := congrArg Int32.toInt (show FI124 110 8 = x91 from ((f127 110 (8) (Nat.lt_of_lt_of_le (by decide : 110 < 176) dy110) (by simp) (by simp) (by simp)).trans (((eI111 110 (8) (Nat.ne_of_lt (c110 hS42))).trans (h92))))); omega) (gK_mv (L := [(110, 4), (110, 5), (110, 6), (110, 7), (110, 8)]) (A := []) (T := []) hS gg1 (gf_tr ⟨(ex41).1, ((ex_shd ex119)).2⟩ (gf_al (gf_tr (ex_shd ex41) (gf_tr ex_rf gf_rf f21 rfl rfl rfl) f77 rfl rfl rfl) (ex41).1 eI111) f127 rfl rfl rfl) (by decide))) (fun v154 sv155 p156 => ?_)
      have := congrArg Int32.toInt (show FI124 111 4 = x4 from ((f127 111 (4) (Nat.lt_of_lt_of_le (by decide : 111 < 176) dy110) (by simp) (by simp) (by simp)).trans (((eI111 111 (4) (Nat.ne_of_lt (c111 hS42))).trans ((gf_at f77 (c111 hS42) (shd_f (by decide) (s111 hS42)) rfl ((gf_at f21 (c111 hS) (shd_f (by decide) (s111 hS)) rfl (h5)))))))))
      have := congrArg Int32.toInt (show FI124 111 4 = x4 from ((f127 111 (4) (Nat.lt_of_lt_of_le (by decide : 111 < 176) dy110) (by simp) (by simp) (by simp)).trans (((eI111 111 (4) (Nat.ne_of_lt (c111 hS42))).trans ((gf_at f77 (c111 hS42) (shd_f (by decide) (s111 hS42)) rfl ((gf_at f21 (c111 hS) (shd_f (by decide) (s111 hS)) rfl (h5)))))))))
      have := congrArg Int32.toInt (show FI124 110 7 = x61 from ((f127 110 (7) (Nat.lt_of_lt_of_le (by decide : 110 < 176) dy110) (by simp) (by simp) (by simp)).trans (((eI111 110 (7) (Nat.ne_of_lt (c110 hS42))).trans ((gf_at f77 (c110 hS42) (shd_f (by decide) (s110 hS42)) rfl (h62)))))))
      have := congrArg Int32.toInt (show FI124 110 5 = x89 from ((f127 110 (5) (Nat.lt_of_lt_of_le (by decide : 110 < 176) dy110) (by simp) (by simp) (by simp)).trans (((eI111 110 (5) (Nat.ne_of_lt (c110 hS42))).trans (h90)))))
      have := congrArg Int32.toInt (show FI124 110 5 = x89 from ((f127 110 (5) (Nat.lt_of_lt_of_le (by decide : 110 < 176) dy110) (by simp) (by simp) (by simp)).trans (((eI111 110 (5) (Nat.ne_of_lt (c110 hS42))).trans (h90)))))
      have := congrArg Int32.toInt (show FI124 110 5 = x89 from ((f127 110 (5) (Nat.lt_of_lt_of_le (by decide : 110 < 176) dy110) (by simp) (by simp) (by simp)).trans (((eI111 110 (5) (Nat.ne_of_lt (c110 hS42))).trans (h90)))))
      have := congrArg Int32.toInt (show FI124 110 5 = x89 from ((f127 110 (5) (Nat.lt_of_lt_of_le (by decide : 110 < 176) dy110) (by simp) (by simp) (by simp)).trans (((eI111 110 (5) (Nat.ne_of_lt (c110 hS42))).trans (h90)))))
      have := congrArg Int32.toInt (show FI124 110 7 = x61 from ((f127 110 (7) (Nat.lt_of_lt_of_le (by decide : 110 < 176) dy110) (by simp) (by simp) (by simp)).trans (((eI111 110 (7) (Nat.ne_of_lt (c110 hS42))).trans ((gf_at f77 (c110 hS42) (shd_f (by decide) (s110 hS42)) rfl (h62)))))))
      have := congrArg Int32.toInt (show FI124 111 4 = x4 from ((f127 111 (4) (Nat.lt_of_lt_of_le (by decide : 111 < 176) dy110) (by simp) (by simp) (by simp)).trans (((eI111 111 (4) (Nat.ne_of_lt (c111 hS42))).trans ((gf_at f77 (c111 hS42) (shd_f (by decide) (s111 hS42)) rfl ((gf_at f21 (c111 hS) (shd_f (by decide) (s111 hS)) rfl (h5)))))))))
      have := congrArg Int32.toInt (show FI124 110 7 = x61 from ((f127 110 (7) (Nat.lt_of_lt_of_le (by decide : 110 < 176) dy110) (by simp) (by simp) (by simp)).trans (((eI111 110 (7) (Nat.ne_of_lt (c110 hS42))).trans ((gf_at f77 (c110 hS42) (shd_f (by decide) (s110 hS42)) rfl (h62)))))))
      have := congrArg Int32.toInt (show FI124 110 7 = x61 from ((f127 110 (7) (Nat.lt_of_lt_of_le (by decide : 110 < 176) dy110) (by simp) (by simp) (by simp)).trans (((eI111 110 (7) (Nat.ne_of_lt (c110 hS42))).trans ((gf_at f77 (c110 hS42) (shd_f (by decide) (s110 hS42)) rfl (h62)))))))
      have := congrArg Int32.toInt (show FI124 110 5 = x89 from ((f127 110 (5) (Nat.lt_of_lt_of_le (by decide : 110 < 176) dy110) (by simp) (by simp) (by simp)).trans (((eI111 110 (5) (Nat.ne_of_lt (c110 hS42))).trans (h90)))))
      have := congrArg Int32.toInt (show FI124 110 8 = x91 from ((f127 110 (8) (Nat.lt_of_lt_of_le (by decide : 110 < 176) dy110) (by simp) (by simp) (by simp)).trans (((eI111 110 (8) (Nat.ne_of_lt (c110 hS42))).trans (h92)))))
      obtain ⟨rfl, FI158, FL159, rfl, hI160, f161, f162, t165, t166, t167, t168, t169, t170, t171, t172, t173⟩ := p156
      replace t171 := (t171.resolve_left (by omega)).resolve_left (by omega)
      clear t27 t28 t169 t173
      have hT176 : g_T n94 SH96 FI158 FR144 gp147 gw149 gs138 := gT_mw (L := [(110, 7), (110, 8)]) (A := []) (T := []) (L2 := []) (A2 := []) (T2 := []) hS104 hT146 f161 gf_rf (by decide) (by decide)
      obtain ⟨x177, h178⟩ : ∃ y, FI158 110 7 = y := ⟨_, rfl⟩
      have h178l := congrArg Int32.toInt h178
      have b179 := gI_110_7 hI160; rw [h178] at b179
      obtain ⟨x180, h181⟩ : ∃ y, FI158 110 8 = y := ⟨_, rfl⟩
      have h181l := congrArg Int32.toInt h181
      have := i_rng x180
      show hw sk base _ _ _ _ _ [] _ _
      refine hw_aloadn (aX4_readChoice 24 rfl) rfl ?_
      refine hw_aloadn (aX4_readChoice 25 rfl) rfl ?_
      refine hw_callV (Bs := []) (rest := [.ref (base + n38)]) (aX4_readChoice 26 rfl) wc_RX4_150 (by decide) rfl wi_yX4_readChoice wv_yX4_readChoice (c110 hS104) (s110 hS104) rfl rfl rfl (Nat.le_of_ble_eq_true rfl) (Nat.le_of_ble_eq_true rfl) (ihC _ (d + 9) _ _ _ _ _ _ hS104 hF152 hI160 hR153 (gp147) (gw149) (gs138) (by have := congrArg Int32.toInt (show FI158 110 7 = x177 from h178); have := congrArg Int32.toInt (show FI158 110 7 = x177 from h178); have := congrArg Int32.toInt (show FI158 111 4 = x4 from (gf_at f161 (c111 hS104) (shd_f (by decide) (s111 hS104)) rfl (((f127 111 (4) (Nat.lt_of_lt_of_le (by decide : 111 < 176) dy110) (by simp) (by simp) (by simp)).trans (((eI111 111 (4) (Nat.ne_of_lt (c111 hS42))).trans ((gf_at f77 (c111 hS42) (shd_f (by decide) (s111 hS42)) rfl ((gf_at f21 (c111 hS) (shd_f (by decide) (s111 hS)) rfl (h5))))))))))); omega) (by have := congrArg Int32.toInt (show FI158 110 5 = x89 from (gf_at f161 (c110 hS104) (shd_f (by decide) (s110 hS104)) rfl (((f127 110 (5) (Nat.lt_of_lt_of_le (by decide : 110 < 176) dy110) (by simp) (by simp) (by simp)).trans (((eI111 110 (5) (Nat.ne_of_lt (c110 hS42))).trans (h90))))))); have := congrArg Int32.toInt (show FI158 110 8 = x180 from h181); omega) (by have := congrArg Int32.toInt (show FI158 110 7 = x177 from h178); have := congrArg Int32.toInt (show FI158 111 4 = x4 from (gf_at f161 (c111 hS104) (shd_f (by decide) (s111 hS104)) rfl (((f127 111 (4) (Nat.lt_of_lt_of_le (by decide : 111 < 176) dy110) (by simp) (by simp) (by simp)).trans (((eI111 111 (4) (Nat.ne_of_lt (c111 hS42))).trans ((gf_at f77 (c111 hS42) (shd_f (by decide) (s111 hS42)) rfl ((gf_at f21 (c111 hS) (shd_f (by decide) (s111 hS)) rfl (h5))))))))))); have := congrArg Int32.toInt (show FI158 110 8 = x180 from h181); omega) (by have := congrArg Int32.toInt (show FI158 110 5 = x89 from (gf_at f161 (c110 hS104) (shd_f (by decide) (s110 hS104)) rfl (((f127 110 (5) (Nat.lt_of_lt_of_le (by decide : 110 < 176) dy110) (by simp) (by simp) (by simp)).trans (((eI111 110 (5) (Nat.ne_of_lt (c110 hS42))).trans (h90))))))); have := congrArg Int32.toInt (show FI158 110 4 = x87 from (gf_at f161 (c110 hS104) (shd_f (by decide) (s110 hS104)) rfl (((f127 110 (4) (Nat.lt_of_lt_of_le (by decide : 110 < 176) dy110) (by simp) (by simp) (by simp)).trans (((eI111 110 (4) (Nat.ne_of_lt (c110 hS42))).trans (h88))))))); omega) (by have := congrArg Int32.toInt (show FI158 110 5 = x89 from (gf_at f161 (c110 hS104) (shd_f (by decide) (s110 hS104)) rfl (((f127 110 (5) (Nat.lt_of_lt_of_le (by decide : 110 < 176) dy110) (by simp) (by simp) (by simp)).trans (((eI111 110 (5) (Nat.ne_of_lt (c110 hS42))).trans (h90))))))); have := congrArg Int32.toInt (show FI158 110 4 = x87 from (gf_at f161 (c110 hS104) (shd_f (by decide) (s110 hS104)) rfl (((f127 110 (4) (Nat.lt_of_lt_of_le (by decide : 110 < 176) dy110) (by simp) (by simp) (by simp)).trans (((eI111 110 (4) (Nat.ne_of_lt (c110 hS42))).trans (h88))))))); omega) (hT176) (gK_mv (L := [(110, 4), (110, 5), (110, 6), (110, 7), (110, 8)]) (A := []) (T := []) hS gg1 (gf_tr (ex_shd ex119) (gf_tr ⟨(ex41).1, ((ex_shd ex119)).2⟩ (gf_al (gf_tr (ex_shd ex41) (gf_tr ex_rf gf_rf f21 rfl rfl rfl) f77 rfl rfl rfl) (ex41).1 eI111) f127 rfl rfl rfl) f161 rfl rfl rfl) (by decide))) (fun v182 sv183 p184 => ?_)
      have := congrArg Int32.toInt (show FI158 111 4 = x4 from (gf_at f161 (c111 hS104) (shd_f (by decide) (s111 hS104)) rfl (((f127 111 (4) (Nat.lt_of_lt_of_le (by decide : 111 < 176) dy110) (by simp) (by simp) (by simp)).trans (((eI111 111 (4) (Nat.ne_of_lt (c111 hS42))).trans ((gf_at f77 (c111 hS42) (shd_f (by decide) (s111 hS42)) rfl ((gf_at f21 (c111 hS) (shd_f (by decide) (s111 hS)) rfl (h5)))))))))))
      have := congrArg Int32.toInt (show FI158 111 4 = x4 from (gf_at f161 (c111 hS104) (shd_f (by decide) (s111 hS104)) rfl (((f127 111 (4) (Nat.lt_of_lt_of_le (by decide : 111 < 176) dy110) (by simp) (by simp) (by simp)).trans (((eI111 111 (4) (Nat.ne_of_lt (c111 hS42))).trans ((gf_at f77 (c111 hS42) (shd_f (by decide) (s111 hS42)) rfl ((gf_at f21 (c111 hS) (shd_f (by decide) (s111 hS)) rfl (h5)))))))))))
      have := congrArg Int32.toInt (show FI158 110 7 = x177 from h178)
      have := congrArg Int32.toInt (show FI158 110 5 = x89 from (gf_at f161 (c110 hS104) (shd_f (by decide) (s110 hS104)) rfl (((f127 110 (5) (Nat.lt_of_lt_of_le (by decide : 110 < 176) dy110) (by simp) (by simp) (by simp)).trans (((eI111 110 (5) (Nat.ne_of_lt (c110 hS42))).trans (h90)))))))
      have := congrArg Int32.toInt (show FI158 110 5 = x89 from (gf_at f161 (c110 hS104) (shd_f (by decide) (s110 hS104)) rfl (((f127 110 (5) (Nat.lt_of_lt_of_le (by decide : 110 < 176) dy110) (by simp) (by simp) (by simp)).trans (((eI111 110 (5) (Nat.ne_of_lt (c110 hS42))).trans (h90)))))))
      have := congrArg Int32.toInt (show FI158 110 4 = x87 from (gf_at f161 (c110 hS104) (shd_f (by decide) (s110 hS104)) rfl (((f127 110 (4) (Nat.lt_of_lt_of_le (by decide : 110 < 176) dy110) (by simp) (by simp) (by simp)).trans (((eI111 110 (4) (Nat.ne_of_lt (c110 hS42))).trans (h88)))))))
      have := congrArg Int32.toInt (show FI158 110 7 = x177 from h178)
      obtain ⟨r185, rfl, n207, sl208, SH209, FI186, FL187, FR188, rfl, ex210, hS211, hI189, f190, f191, f192, hF193, hR194, t195, t196, t197, t198, t199, t200, t201, t202, t203, u204, ht205, nn206, hfr212⟩ := p184
      clear t166 t167 t199
      obtain ⟨gp213, gw214, gs215, hT216, hkp217, hq218⟩ := u204
      obtain ⟨e219, e220, e221⟩ := hkp217 n38 lt108
      obtain ⟨e222, e223, e224⟩ := hkp217 r51 lt117
      have hk225 : ∀ c, c < n → gp213 c = gp c ∧ gw214 c = gw c ∧ gs215 c = gs c := fun c hc => by obtain ⟨k1, k2, k3⟩ := hk151 c hc; obtain ⟨m1, m2, m3⟩ := hkp217 c (Nat.lt_of_lt_of_le hc (ex119).1); exact ⟨m1.trans k1, m2.trans k2, m3.trans k3⟩
      have lt226 := ex_lt ex210 lt108
      have sh227 := ex_sh ex210 lt108 sh109
      have lt228 := ex_lt ex210 lt117
      have sh229 := ex_sh ex210 lt117 sh118
      have ex230 := ex_tr ex119 ex210
      obtain ⟨r231, rfl⟩ : ∃ q, r185 = some q := Option.ne_none_iff_exists'.mp nn206
      have fq232 := hfr212 r231 rfl
      have dq233 : 176 ≤ r231 := Nat.le_trans hS104.1 fq232
      obtain ⟨lt235, ow236, sh237⟩ := ht205 r231 rfl
      obtain ⟨e238, e239, e240⟩ := hq218 r231 rfl
      obtain ⟨x241, h242⟩ : ∃ y, FI186 110 7 = y := ⟨_, rfl⟩
      have h242l := congrArg Int32.toInt h242
      have b243 := gI_110_7 hI189; rw [h242] at b243
      obtain ⟨x244, h245⟩ : ∃ y, FI186 110 5 = y := ⟨_, rfl⟩
      have h245l := congrArg Int32.toInt h245
      have := i_rng x244
      obtain ⟨x246, h247⟩ : ∃ y, FI186 110 8 = y := ⟨_, rfl⟩
      have h247l := congrArg Int32.toInt h247
      have := i_rng x246
      obtain ⟨x248, h249⟩ : ∃ y, FI186 110 4 = y := ⟨_, rfl⟩
      have h249l := congrArg Int32.toInt h249
      have := i_rng x248
      show hw sk base _ _ _ _ _ [.ref (base + r231), .ref (base + n38)] _ _
      refine hv_putr (r := some (r231)) (aX4_readChoice 27 rfl) wf_RX4_189 lt226 sh227 (by decide) (by first | exact Or.inl ⟨_, rfl⟩ | exact Or.inr ⟨_, rfl⟩) (Or.inl rfl) (fun FR250 u251 => ?_)
      obtain ⟨gp253, hg254⟩ : ∃ f, f = va_up gp213 r231 (n38) := ⟨_, rfl⟩
      have : gp253 r231 = n38 := by rw [hg254]; exact va_s
      have : gp253 n38 = gp213 n38 := by rw [hg254]; exact va_o (Nat.ne_of_lt (Nat.lt_of_lt_of_le lt108 fq232))
      have : gp253 r51 = gp213 r51 := by rw [hg254]; exact va_o (Nat.ne_of_lt (Nat.lt_of_lt_of_le lt117 fq232))
      obtain ⟨gw255, hg256⟩ : ∃ f, f = va_up gw214 n38 (gw214 n38 + gw214 r231) := ⟨_, rfl⟩
      have : gw255 n38 = gw214 n38 + gw214 r231 := by rw [hg256]; exact va_s
      have : gw255 r231 = gw214 r231 := by rw [hg256]; exact va_o (Nat.ne_of_gt (Nat.lt_of_lt_of_le lt108 fq232))
      have : gw255 r51 = gw214 r51 := by rw [hg256]; exact va_o (Nat.ne_of_lt lt55)
      have hk257 : ∀ c, c < n → gp253 c = gp c ∧ gw255 c = gw c ∧ gs215 c = gs c := fun c hc => by
        obtain ⟨k1, k2, k3⟩ := hk225 c hc
        exact ⟨by rw [hg254]; exact (va_o (show c ≠ r231 from Nat.ne_of_lt (Nat.lt_of_lt_of_le hc (Nat.le_trans (ex119).1 fq232)))).trans k1, by rw [hg256]; exact (va_o (show c ≠ n38 from Nat.ne_of_lt (Nat.lt_of_lt_of_le hc (ex41).1))).trans k2, k3⟩
      have hT252 : g_T n207 SH209 FI186 FR250 gp253 gw255 gs215 := by rw [hg254, hg256]; exact gT_link hS211 hT216 lt226 sh227 lt235 (by decide) (show FR188 n38 4 = none from (gf_at f192 lt108 (shd_d (dyn_tag hS104 sh109 (by decide +kernel)) sh109) rfl ((up_k u145 (by decide) ((zR116 4)))))) (by rw [show FI186 n38 0 = x142 from (gf_as hS104 f190 lt108 sh109 (shd_d (dyn_tag hS104 sh109 (by decide +kernel)) sh109) (by decide +kernel) ((gf_as hS104 f161 lt108 sh109 (shd_d (dyn_tag hS104 sh109 (by decide +kernel)) sh109) (by decide +kernel) (h143))))]; omega) (by omega) (by omega) (Nat.ne_of_gt (Nat.lt_of_lt_of_le lt108 fq232)) u251
      have hF258 : h_FR FR250 := hF_up hS211 hF193 u251 sh227 (by decide +kernel)
      have hR259 : g_R n207 SH209 FR250 := gR_up hR194 u251 sh227 (fun r e => by cases e; exact ⟨lt235, ow236, by rw [sh237]; rfl⟩) (fun _ r e => by cases e; exact (dyn_tag hS211 sh237 (by decide +kernel))) (fun _ => by simp) (fun h => absurd h.1 (ne_tag sh227 (s49 hS211) (by decide)))
      refine hw_aloadn (aX4_readChoice 28 rfl) rfl ?_
      refine hw_bp (v := (58 : Int32)) (aX4_readChoice 29 rfl) (by decide) ?_
      refine hw_callV (Bs := [.int ((58 : Int32))]) (rest := []) (aX4_readChoice 30 rfl) wc_RX4_83 (by decide) rfl wi_yX4_expect wv_yX4_expect (c110 hS211) (s110 hS211) rfl rfl rfl (Nat.le_of_ble_eq_true rfl) (Nat.le_of_ble_eq_true rfl) (k_expect2 (d := E + d + 19) hS211 hF258 hI189 hR259 ((58 : Int32)) (by have := congrArg Int32.toInt (show FI186 110 7 = x241 from h242); have := congrArg Int32.toInt (show FI186 110 7 = x241 from h242); have := congrArg Int32.toInt (show FI186 111 4 = x4 from (gf_at f190 (c111 hS104) (shd_f (by decide) (s111 hS104)) rfl ((gf_at f161 (c111 hS104) (shd_f (by decide) (s111 hS104)) rfl (((f127 111 (4) (Nat.lt_of_lt_of_le (by decide : 111 < 176) dy110) (by simp) (by simp) (by simp)).trans (((eI111 111 (4) (Nat.ne_of_lt (c111 hS42))).trans ((gf_at f77 (c111 hS42) (shd_f (by decide) (s111 hS42)) rfl ((gf_at f21 (c111 hS) (shd_f (by decide) (s111 hS)) rfl (h5))))))))))))); omega) (by have := congrArg Int32.toInt (show FI186 110 5 = x244 from h245); have := congrArg Int32.toInt (show FI186 110 8 = x246 from h247); omega) (by have := congrArg Int32.toInt (show FI186 110 7 = x241 from h242); have := congrArg Int32.toInt (show FI186 111 4 = x4 from (gf_at f190 (c111 hS104) (shd_f (by decide) (s111 hS104)) rfl ((gf_at f161 (c111 hS104) (shd_f (by decide) (s111 hS104)) rfl (((f127 111 (4) (Nat.lt_of_lt_of_le (by decide : 111 < 176) dy110) (by simp) (by simp) (by simp)).trans (((eI111 111 (4) (Nat.ne_of_lt (c111 hS42))).trans ((gf_at f77 (c111 hS42) (shd_f (by decide) (s111 hS42)) rfl ((gf_at f21 (c111 hS) (shd_f (by decide) (s111 hS)) rfl (h5))))))))))))); have := congrArg Int32.toInt (show FI186 110 8 = x246 from h247); omega) (gK_mv (L := [(110, 4), (110, 5), (110, 6), (110, 7), (110, 8)]) (A := []) (T := []) hS gg1 (gf_tr (ex_shd ex119) (gf_tr (ex_shd ex119) (gf_tr ⟨(ex41).1, ((ex_shd ex119)).2⟩ (gf_al (gf_tr (ex_shd ex41) (gf_tr ex_rf gf_rf f21 rfl rfl rfl) f77 rfl rfl rfl) (ex41).1 eI111) f127 rfl rfl rfl) f161 rfl rfl rfl) f190 rfl rfl rfl) (by decide))) (fun v260 sv261 p262 => ?_)
      have := congrArg Int32.toInt (show FI186 111 4 = x4 from (gf_at f190 (c111 hS104) (shd_f (by decide) (s111 hS104)) rfl ((gf_at f161 (c111 hS104) (shd_f (by decide) (s111 hS104)) rfl (((f127 111 (4) (Nat.lt_of_lt_of_le (by decide : 111 < 176) dy110) (by simp) (by simp) (by simp)).trans (((eI111 111 (4) (Nat.ne_of_lt (c111 hS42))).trans ((gf_at f77 (c111 hS42) (shd_f (by decide) (s111 hS42)) rfl ((gf_at f21 (c111 hS) (shd_f (by decide) (s111 hS)) rfl (h5)))))))))))))
      have := congrArg Int32.toInt (show FI186 111 4 = x4 from (gf_at f190 (c111 hS104) (shd_f (by decide) (s111 hS104)) rfl ((gf_at f161 (c111 hS104) (shd_f (by decide) (s111 hS104)) rfl (((f127 111 (4) (Nat.lt_of_lt_of_le (by decide : 111 < 176) dy110) (by simp) (by simp) (by simp)).trans (((eI111 111 (4) (Nat.ne_of_lt (c111 hS42))).trans ((gf_at f77 (c111 hS42) (shd_f (by decide) (s111 hS42)) rfl ((gf_at f21 (c111 hS) (shd_f (by decide) (s111 hS)) rfl (h5)))))))))))))
      have := congrArg Int32.toInt (show FI186 110 7 = x241 from h242)
      have := congrArg Int32.toInt (show FI186 110 5 = x244 from h245)
      have := congrArg Int32.toInt (show FI186 110 5 = x244 from h245)
      obtain ⟨rfl, FI264, FL265, rfl, hI266, f267, f268, t271, t272, t273, t274, t275⟩ := p262
      clear t196 t197
      have hT278 : g_T n207 SH209 FI264 FR250 gp253 gw255 gs215 := gT_mw (L := [(110, 5), (110, 6), (110, 7), (110, 8)]) (A := []) (T := []) (L2 := []) (A2 := []) (T2 := []) hS211 hT252 f267 gf_rf (by decide) (by decide)
      obtain ⟨x279, h280⟩ : ∃ y, FI264 110 7 = y := ⟨_, rfl⟩
      have h280l := congrArg Int32.toInt h280
      have b281 := gI_110_7 hI266; rw [h280] at b281
      obtain ⟨x282, h283⟩ : ∃ y, FI264 110 5 = y := ⟨_, rfl⟩
      have h283l := congrArg Int32.toInt h283
      have := i_rng x282
      obtain ⟨x284, h285⟩ : ∃ y, FI264 110 8 = y := ⟨_, rfl⟩
      have h285l := congrArg Int32.toInt h285
      have := i_rng x284
      show hw sk base _ _ _ _ _ [] _ _
      refine hw_aloadn (aX4_readChoice 31 rfl) rfl ?_
      refine hw_aloadn (aX4_readChoice 32 rfl) rfl ?_
      refine hw_callV (Bs := []) (rest := [.ref (base + n38)]) (aX4_readChoice 33 rfl) wc_RX4_150 (by decide) rfl wi_yX4_readChoice wv_yX4_readChoice (c110 hS211) (s110 hS211) rfl rfl rfl (Nat.le_of_ble_eq_true rfl) (Nat.le_of_ble_eq_true rfl) (ihC _ (d + 9) _ _ _ _ _ _ hS211 hF258 hI266 hR259 (gp253) (gw255) (gs215) (by have := congrArg Int32.toInt (show FI264 110 7 = x279 from h280); have := congrArg Int32.toInt (show FI264 110 7 = x279 from h280); have := congrArg Int32.toInt (show FI264 111 4 = x4 from (gf_at f267 (c111 hS211) (shd_f (by decide) (s111 hS211)) rfl ((gf_at f190 (c111 hS104) (shd_f (by decide) (s111 hS104)) rfl ((gf_at f161 (c111 hS104) (shd_f (by decide) (s111 hS104)) rfl (((f127 111 (4) (Nat.lt_of_lt_of_le (by decide : 111 < 176) dy110) (by simp) (by simp) (by simp)).trans (((eI111 111 (4) (Nat.ne_of_lt (c111 hS42))).trans ((gf_at f77 (c111 hS42) (shd_f (by decide) (s111 hS42)) rfl ((gf_at f21 (c111 hS) (shd_f (by decide) (s111 hS)) rfl (h5))))))))))))))); omega) (by have := congrArg Int32.toInt (show FI264 110 5 = x282 from h283); have := congrArg Int32.toInt (show FI264 110 8 = x284 from h285); omega) (by have := congrArg Int32.toInt (show FI264 110 7 = x279 from h280); have := congrArg Int32.toInt (show FI264 111 4 = x4 from (gf_at f267 (c111 hS211) (shd_f (by decide) (s111 hS211)) rfl ((gf_at f190 (c111 hS104) (shd_f (by decide) (s111 hS104)) rfl ((gf_at f161 (c111 hS104) (shd_f (by decide) (s111 hS104)) rfl (((f127 111 (4) (Nat.lt_of_lt_of_le (by decide : 111 < 176) dy110) (by simp) (by simp) (by simp)).trans (((eI111 111 (4) (Nat.ne_of_lt (c111 hS42))).trans ((gf_at f77 (c111 hS42) (shd_f (by decide) (s111 hS42)) rfl ((gf_at f21 (c111 hS) (shd_f (by decide) (s111 hS)) rfl (h5))))))))))))))); have := congrArg Int32.toInt (show FI264 110 8 = x284 from h285); omega) (by have := congrArg Int32.toInt (show FI264 110 5 = x282 from h283); have := congrArg Int32.toInt (show FI264 110 4 = x248 from (gf_at f267 (c110 hS211) (shd_f (by decide) (s110 hS211)) rfl (h249))); omega) (by have := congrArg Int32.toInt (show FI264 110 5 = x282 from h283); have := congrArg Int32.toInt (show FI264 110 4 = x248 from (gf_at f267 (c110 hS211) (shd_f (by decide) (s110 hS211)) rfl (h249))); omega) (hT278) (gK_mv (L := [(110, 4), (110, 5), (110, 6), (110, 7), (110, 8)]) (A := []) (T := []) hS gg1 (gf_tr (ex_shd ex230) (gf_tr (ex_shd ex119) (gf_tr (ex_shd ex119) (gf_tr ⟨(ex41).1, ((ex_shd ex119)).2⟩ (gf_al (gf_tr (ex_shd ex41) (gf_tr ex_rf gf_rf f21 rfl rfl rfl) f77 rfl rfl rfl) (ex41).1 eI111) f127 rfl rfl rfl) f161 rfl rfl rfl) f190 rfl rfl rfl) f267 rfl rfl rfl) (by decide))) (fun v286 sv287 p288 => ?_)
      have := congrArg Int32.toInt (show FI264 111 4 = x4 from (gf_at f267 (c111 hS211) (shd_f (by decide) (s111 hS211)) rfl ((gf_at f190 (c111 hS104) (shd_f (by decide) (s111 hS104)) rfl ((gf_at f161 (c111 hS104) (shd_f (by decide) (s111 hS104)) rfl (((f127 111 (4) (Nat.lt_of_lt_of_le (by decide : 111 < 176) dy110) (by simp) (by simp) (by simp)).trans (((eI111 111 (4) (Nat.ne_of_lt (c111 hS42))).trans ((gf_at f77 (c111 hS42) (shd_f (by decide) (s111 hS42)) rfl ((gf_at f21 (c111 hS) (shd_f (by decide) (s111 hS)) rfl (h5)))))))))))))))
      have := congrArg Int32.toInt (show FI264 111 4 = x4 from (gf_at f267 (c111 hS211) (shd_f (by decide) (s111 hS211)) rfl ((gf_at f190 (c111 hS104) (shd_f (by decide) (s111 hS104)) rfl ((gf_at f161 (c111 hS104) (shd_f (by decide) (s111 hS104)) rfl (((f127 111 (4) (Nat.lt_of_lt_of_le (by decide : 111 < 176) dy110) (by simp) (by simp) (by simp)).trans (((eI111 111 (4) (Nat.ne_of_lt (c111 hS42))).trans ((gf_at f77 (c111 hS42) (shd_f (by decide) (s111 hS42)) rfl ((gf_at f21 (c111 hS) (shd_f (by decide) (s111 hS)) rfl (h5)))))))))))))))
      have := congrArg Int32.toInt (show FI264 110 7 = x279 from h280)
      have := congrArg Int32.toInt (show FI264 110 5 = x282 from h283)
      have := congrArg Int32.toInt (show FI264 110 5 = x282 from h283)
      have := congrArg Int32.toInt (show FI264 110 4 = x248 from (gf_at f267 (c110 hS211) (shd_f (by decide) (s110 hS211)) rfl (h249)))
      have := congrArg Int32.toInt (show FI264 110 7 = x279 from h280)
      obtain ⟨r289, rfl, n311, sl312, SH313, FI290, FL291, FR292, rfl, ex314, hS315, hI293, f294, f295, f296, hF297, hR298, t299, t300, t301, t302, t303, t304, t305, t306, t307, u308, ht309, nn310, hfr316⟩ := p288
      clear t272 t273
      obtain ⟨gp317, gw318, gs319, hT320, hkp321, hq322⟩ := u308
      obtain ⟨e323, e324, e325⟩ := hkp321 n38 lt226
      obtain ⟨e326, e327, e328⟩ := hkp321 r231 lt235
      obtain ⟨e329, e330, e331⟩ := hkp321 r51 lt228
      have hk332 : ∀ c, c < n → gp317 c = gp c ∧ gw318 c = gw c ∧ gs319 c = gs c := fun c hc => by obtain ⟨k1, k2, k3⟩ := hk257 c hc; obtain ⟨m1, m2, m3⟩ := hkp321 c (Nat.lt_of_lt_of_le hc (ex230).1); exact ⟨m1.trans k1, m2.trans k2, m3.trans k3⟩
      have lt333 := ex_lt ex314 lt226
      have sh334 := ex_sh ex314 lt226 sh227
      have lt335 := ex_lt ex314 lt235
      have sh336 := ex_sh ex314 lt235 sh237
      have lt337 := ex_lt ex314 lt228
      have sh338 := ex_sh ex314 lt228 sh229
      have ex339 := ex_tr ex230 ex314
      obtain ⟨r340, rfl⟩ : ∃ q, r289 = some q := Option.ne_none_iff_exists'.mp nn310
      have fq341 := hfr316 r340 rfl
      have dq342 : 176 ≤ r340 := Nat.le_trans hS211.1 fq341
      obtain ⟨lt344, ow345, sh346⟩ := ht309 r340 rfl
      obtain ⟨e347, e348, e349⟩ := hq322 r340 rfl
      obtain ⟨x350, h351⟩ : ∃ y, FI290 110 7 = y := ⟨_, rfl⟩
      have h351l := congrArg Int32.toInt h351
      have b352 := gI_110_7 hI293; rw [h351] at b352
      obtain ⟨x353, h354⟩ : ∃ y, FI290 110 5 = y := ⟨_, rfl⟩
      have h354l := congrArg Int32.toInt h354
      have := i_rng x353
      obtain ⟨x355, h356⟩ : ∃ y, FI290 110 8 = y := ⟨_, rfl⟩
      have h356l := congrArg Int32.toInt h356
      have := i_rng x355
      obtain ⟨x357, h358⟩ : ∃ y, FI290 110 4 = y := ⟨_, rfl⟩
      have h358l := congrArg Int32.toInt h358
      have := i_rng x357
      show hw sk base _ _ _ _ _ [.ref (base + r340), .ref (base + n38)] _ _
      refine hv_putr (r := some (r340)) (aX4_readChoice 34 rfl) wf_RX4_192 lt333 sh334 (by decide) (by first | exact Or.inl ⟨_, rfl⟩ | exact Or.inr ⟨_, rfl⟩) (Or.inl rfl) (fun FR359 u360 => ?_)
      obtain ⟨gp362, hg363⟩ : ∃ f, f = va_up gp317 r340 (n38) := ⟨_, rfl⟩
      have : gp362 r340 = n38 := by rw [hg363]; exact va_s
      have : gp362 n38 = gp317 n38 := by rw [hg363]; exact va_o (Nat.ne_of_lt (Nat.lt_of_lt_of_le lt226 fq341))
      have : gp362 r231 = gp317 r231 := by rw [hg363]; exact va_o (Nat.ne_of_lt (Nat.lt_of_lt_of_le lt235 fq341))
      have : gp362 r51 = gp317 r51 := by rw [hg363]; exact va_o (Nat.ne_of_lt (Nat.lt_of_lt_of_le lt228 fq341))
      obtain ⟨gw364, hg365⟩ : ∃ f, f = va_up gw318 n38 (gw318 n38 + gw318 r340) := ⟨_, rfl⟩
      have : gw364 n38 = gw318 n38 + gw318 r340 := by rw [hg365]; exact va_s
      have : gw364 r231 = gw318 r231 := by rw [hg365]; exact va_o (Nat.ne_of_gt (Nat.lt_of_lt_of_le lt108 fq232))
      have : gw364 r340 = gw318 r340 := by rw [hg365]; exact va_o (Nat.ne_of_gt (Nat.lt_of_lt_of_le lt226 fq341))
      have : gw364 r51 = gw318 r51 := by rw [hg365]; exact va_o (Nat.ne_of_lt lt55)
      have hk366 : ∀ c, c < n → gp362 c = gp c ∧ gw364 c = gw c ∧ gs319 c = gs c := fun c hc => by
        obtain ⟨k1, k2, k3⟩ := hk332 c hc
        exact ⟨by rw [hg363]; exact (va_o (show c ≠ r340 from Nat.ne_of_lt (Nat.lt_of_lt_of_le hc (Nat.le_trans (ex230).1 fq341)))).trans k1, by rw [hg365]; exact (va_o (show c ≠ n38 from Nat.ne_of_lt (Nat.lt_of_lt_of_le hc (ex41).1))).trans k2, k3⟩
      have hT361 : g_T n311 SH313 FI290 FR359 gp362 gw364 gs319 := by rw [hg363, hg365]; exact gT_link hS315 hT320 lt333 sh334 lt344 (by decide) (show FR292 n38 5 = none from (gf_at f296 lt226 (shd_d (dyn_tag hS211 sh227 (by decide +kernel)) sh227) rfl ((up_k u251 (by decide) ((gf_at f192 lt108 (shd_d (dyn_tag hS104 sh109 (by decide +kernel)) sh109) rfl ((up_k u145 (by decide) ((zR116 5)))))))))) (by rw [show FI290 n38 0 = x142 from (gf_as hS211 f294 lt226 sh227 (shd_d (dyn_tag hS211 sh227 (by decide +kernel)) sh227) (by decide +kernel) ((gf_as hS211 f267 lt226 sh227 (shd_d (dyn_tag hS211 sh227 (by decide +kernel)) sh227) (by decide +kernel) ((gf_as hS104 f190 lt108 sh109 (shd_d (dyn_tag hS104 sh109 (by decide +kernel)) sh109) (by decide +kernel) ((gf_as hS104 f161 lt108 sh109 (shd_d (dyn_tag hS104 sh109 (by decide +kernel)) sh109) (by decide +kernel) (h143))))))))]; omega) (by omega) (by omega) (Nat.ne_of_gt (Nat.lt_of_lt_of_le lt226 fq341)) u360
      have hF367 : h_FR FR359 := hF_up hS315 hF297 u360 sh334 (by decide +kernel)
      have hR368 : g_R n311 SH313 FR359 := gR_up hR298 u360 sh334 (fun r e => by cases e; exact ⟨lt344, ow345, by rw [sh346]; rfl⟩) (fun _ r e => by cases e; exact (dyn_tag hS315 sh346 (by decide +kernel))) (fun _ => by simp) (fun h => absurd h.1 (ne_tag sh334 (s49 hS315) (by decide)))
      refine hw_aloadn (aX4_readChoice 35 rfl) rfl ?_
      refine xw_dup (aX4_readChoice 36 rfl) rfl ?_
      refine hw_get (v := .int (x357)) (aX4_readChoice 37 rfl) wf_RX4_36 (c110 hS315) (s110 hS315) (by decide) (congrArg Value.int (show FI290 110 4 = x357 from h358)) ?_
      refine hw_ic (v := (1 : Int32)) (aX4_readChoice 38 rfl) (by decide) ?_
      refine xw_isub (aX4_readChoice 39 rfl) ?_
      have := i_rng ((x357) - ((1 : Int32)))
      have : (x353).toInt ≠ 0 ∨ (((x357) - ((1 : Int32)))).toInt = (x357).toInt - 1 := by { by_cases h9 : (x353).toInt = 0; { right; exact i_sub (rfl : (x357).toInt = (x357).toInt) (by decide : (1 : Int32).toInt = 1) (by omega) (by omega) }; { left; exact h9 } }
      refine hv_puti (aX4_readChoice 40 rfl) wf_RX4_36 (c110 hS315) (s110 hS315) (by decide) rfl rfl (fun FI369 u370 => ?_)
      have hT371 : g_T n311 SH313 FI369 FR359 gp362 gw364 gs319 := gT_wi hT361 (fun h => absurd h (by rw [(s110 hS315)]; decide)) u370
      have hI372 : g_I FI369 := gU_F hI293 u370 rfl
      refine hw_aloadn (aX4_readChoice 41 rfl) rfl ?_
      refine xw_aret (v := h_rf base (some (n38))) (aX4_readChoice 42 rfl) rfl (by first | exact Or.inl ⟨_, rfl⟩ | exact Or.inr ⟨_, rfl⟩) ?_
      exact ⟨some (n38), rfl, n311, sl312, SH313, FI369, FL291, FR359, rfl, ex339, hS315, hI372, (gf_f (gf_tr (ex_shd ex230) (gf_tr (ex_shd ex230) (gf_tr (ex_shd ex119) (gf_tr (ex_shd ex119) (gf_tr ⟨(ex41).1, ((ex_shd ex119)).2⟩ (gf_al (gf_tr (ex_shd ex41) (gf_tr ex_rf gf_rf f21 rfl rfl rfl) f77 rfl rfl rfl) (ex41).1 eI111) f127 rfl rfl rfl) f161 rfl rfl rfl) f190 rfl rfl rfl) f267 rfl rfl rfl) f294 rfl rfl rfl) u370 (by decide)), (gf_tr (ex_shd ex230) (gf_tr (ex_shd ex230) (gf_tr (ex_shd ex119) (gf_tr (ex_shd ex119) (gf_tr ⟨(ex41).1, ((ex_shd ex119)).2⟩ (gf_al (gf_tr ex_rf gf_rf f22 rfl rfl rfl) (ex41).1 eL112) f128 rfl rfl rfl) f162 rfl rfl rfl) f191 rfl rfl rfl) f268 rfl rfl rfl) f295 rfl rfl rfl), (gf_n (gf_tr (ex_shd ex230) (gf_n (gf_tr (ex_shd ex119) (gf_n (gf_al (gf_tr ex_rf gf_rf f23 rfl rfl rfl) (ex41).1 eR113) u145 (ex41).1) f192 rfl rfl rfl) u251 (ex41).1) f296 rfl rfl rfl) u360 (ex41).1), hF367, hR368, (by have := congrArg Int32.toInt (show FI369 110 7 = x350 from (up_k u370 (by decide) (h351))); omega), (by have := congrArg Int32.toInt (show FI369 110 5 = x353 from (up_k u370 (by decide) (h354))); have := congrArg Int32.toInt (show FI369 110 8 = x355 from (up_k u370 (by decide) (h356))); omega), (by have := congrArg Int32.toInt (show FI369 110 7 = x350 from (up_k u370 (by decide) (h351))); have := congrArg Int32.toInt (show FI369 110 8 = x355 from (up_k u370 (by decide) (h356))); omega), (by have := congrArg Int32.toInt (show FI369 110 7 = x350 from (up_k u370 (by decide) (h351))); omega), (by have := congrArg Int32.toInt (show FI369 110 5 = x353 from (up_k u370 (by decide) (h354))); omega), (by have := congrArg Int32.toInt (show FI369 110 4 = ((x357) - ((1 : Int32))) from up_eq u370); have := congrArg Int32.toInt (show FI369 110 5 = x353 from (up_k u370 (by decide) (h354))); omega), (by have := congrArg Int32.toInt (show FI369 110 7 = x350 from (up_k u370 (by decide) (h351))); omega), (by omega), (by omega), (by exact ⟨gp362, gw364, gs319, hT371, hk366, fun q e => by cases e; exact ⟨by omega, by omega, (show FR359 n38 6 = none from (up_k u360 (by decide) ((gf_at f296 lt226 (shd_d (dyn_tag hS211 sh227 (by decide +kernel)) sh227) rfl ((up_k u251 (by decide) ((gf_at f192 lt108 (shd_d (dyn_tag hS104 sh109 (by decide +kernel)) sh109) rfl ((up_k u145 (by decide) ((zR116 6))))))))))))⟩⟩), ((fun r e => by cases e; exact ⟨lt333, (Or.inr dy110), by rw [sh334]⟩)), (by simp), (fun q e => by cases e; exact (ex41).1)⟩
    · clear t80
      replace t81 := t81 (by omega)
      refine hw_aloadn (aX4_readChoice 11 rfl) rfl ?_
      refine xw_aret (v := h_rf base (some (r51))) (aX4_readChoice 12 rfl) rfl (by first | exact Or.inl ⟨_, rfl⟩ | exact Or.inr ⟨_, rfl⟩) ?_
      exact ⟨some (r51), rfl, n38, sl39, SH40, FI75, FL18, FR19, rfl, ex41, hS42, hI76, (gf_tr (ex_shd ex41) (gf_tr ex_rf gf_rf f21 rfl rfl rfl) f77 rfl rfl rfl), (gf_tr ex_rf gf_rf f22 rfl rfl rfl), (gf_tr ex_rf gf_rf f23 rfl rfl rfl), hF24, hR25, (by have := congrArg Int32.toInt (show FI75 110 7 = x61 from (gf_at f77 (c110 hS42) (shd_f (by decide) (s110 hS42)) rfl (h62))); omega), (by have := congrArg Int32.toInt (show FI75 110 5 = x89 from h90); have := congrArg Int32.toInt (show FI75 110 8 = x91 from h92); omega), (by have := congrArg Int32.toInt (show FI75 110 7 = x61 from (gf_at f77 (c110 hS42) (shd_f (by decide) (s110 hS42)) rfl (h62))); have := congrArg Int32.toInt (show FI75 110 8 = x91 from h92); omega), (by have := congrArg Int32.toInt (show FI75 110 7 = x61 from (gf_at f77 (c110 hS42) (shd_f (by decide) (s110 hS42)) rfl (h62))); omega), (by have := congrArg Int32.toInt (show FI75 110 5 = x89 from h90); omega), (by have := congrArg Int32.toInt (show FI75 110 4 = x87 from h88); have := congrArg Int32.toInt (show FI75 110 5 = x89 from h90); omega), (by have := congrArg Int32.toInt (show FI75 110 7 = x61 from (gf_at f77 (c110 hS42) (shd_f (by decide) (s110 hS42)) rfl (h62))); omega), (by omega), (by omega), (by exact ⟨gp44, gw45, gs46, hT86, hk50, fun q e => by cases e; exact ⟨by omega, by omega, (show FR19 r51 6 = none from e60)⟩⟩), ((fun r e => by cases e; exact ⟨lt55, ow56, by rw [sh57]⟩)), (by simp), (fun q e => by cases e; exact (Nat.le_trans (Nat.le_refl _) fq52))⟩
theorem k_exprA {sk : xK} : ∀ e : Nat, (∀ (base d n sl : Nat) (SH : Nat → Nat × Nat) (FI : Nat → Nat → Int32) (FL : Nat → Nat → Int64) (FR : Nat → Nat → Option Nat) (hS : h_S n SH) (hF : h_FR FR) (hI : g_I FI) (hR : g_R n SH FR) (gp : Nat → Nat) (gw : Nat → Nat) (gs : Nat → Nat) (g0 : 0 ≤ (FI 110 7).toInt ∧ (FI 110 7).toInt < (FI 111 4).toInt) (g1 : (FI 110 5).toInt = 0 ∨ (FI 110 8).toInt = 1) (g2 : (FI 110 7).toInt + 1 < (FI 111 4).toInt ∨ (FI 110 8).toInt ≤ 3) (g3 : (FI 110 5).toInt ≠ 0 ∨ (FI 110 4).toInt ≤ 12) (g4 : (FI 110 5).toInt ≠ 0 ∨ 13 - (FI 110 4).toInt ≤ (e : Int)) (gg0 : g_T n SH FI FR gp gw gs) (gg1 : g_K FI) , hw sk base (10 * e + d + 11) none 56 0 [(0, .ref (base + 110))] [] (n, sl, SH, FI, FL, FR) (h_A base (fun r s => ∃ n' sl' SH' FI' FL' FR', s = (n', sl', SH', FI', FL', FR') ∧ g_ex n SH n' SH' ∧ h_S n' SH' ∧ g_I FI' ∧ g_fr n (shd SH) [(110, 4), (110, 5), (110, 6), (110, 7), (110, 8)] [] [] FI FI' ∧ g_fr n (shd SH) [(110, 9)] [] [] FL FL' ∧ g_fr n (shd SH) [] [] [] FR FR' ∧ h_FR FR' ∧ g_R n' SH' FR' ∧ (0 ≤ (FI' 110 7).toInt ∧ (FI' 110 7).toInt < (FI 111 4).toInt) ∧ ((FI' 110 5).toInt = 0 ∨ (FI' 110 8).toInt = 1) ∧ ((FI' 110 7).toInt + 1 < (FI 111 4).toInt ∨ (FI' 110 8).toInt ≤ 3) ∧ ((FI 110 7).toInt ≤ (FI' 110 7).toInt) ∧ ((FI 110 5).toInt = 0 ∨ (FI' 110 5).toInt = (FI 110 5).toInt) ∧ ((FI' 110 5).toInt ≠ 0 ∨ (FI' 110 4).toInt = (FI 110 4).toInt) ∧ ((n' : Int) ≤ n + 17 * ((FI' 110 7).toInt - (FI 110 7).toInt) + 1) ∧ ((sl' : Int) ≤ sl + 7 * ((n' : Int) - n)) ∧ ((n : Int) ≤ n') ∧ (∃ gp2 gw2 gs2, g_T n' SH' FI' FR' gp2 gw2 gs2 ∧ (∀ c, c < n → gp2 c = gp c ∧ gw2 c = gw c ∧ gs2 c = gs c) ∧ (∀ q, r = some q → gp2 q = 0 ∧ gw2 q + 20 + 40 * n ≤ 40 * n' ∧ FR' q 6 = none)) ∧ (∀ q, r = some q → q < n' ∧ own q ∧ SH' q = (3, (SH' q).2)) ∧ r ≠ none ∧ (∀ q, r = some q → n ≤ q)))) ∧ (∀ (base d n sl : Nat) (SH : Nat → Nat × Nat) (FI : Nat → Nat → Int32) (FL : Nat → Nat → Int64) (FR : Nat → Nat → Option Nat) (hS : h_S n SH) (hF : h_FR FR) (hI : g_I FI) (hR : g_R n SH FR) (gp : Nat → Nat) (gw : Nat → Nat) (gs : Nat → Nat) (g0 : 0 ≤ (FI 110 7).toInt ∧ (FI 110 7).toInt < (FI 111 4).toInt) (g1 : (FI 110 5).toInt = 0 ∨ (FI 110 8).toInt = 1) (g2 : (FI 110 7).toInt + 1 < (FI 111 4).toInt ∨ (FI 110 8).toInt ≤ 3) (g3 : (FI 110 5).toInt ≠ 0 ∨ (FI 110 4).toInt ≤ 12) (g4 : (FI 110 5).toInt ≠ 0 ∨ 13 - (FI 110 4).toInt ≤ (e : Int)) (gg0 : g_T n SH FI FR gp gw gs) (gg1 : g_K FI) , hw sk base (10 * e + d + 11) none 53 0 [(0, .ref (base + 110))] [] (n, sl, SH, FI, FL, FR) (h_A base (fun r s => ∃ n' sl' SH' FI' FL' FR', s = (n', sl', SH', FI', FL', FR') ∧ g_ex n SH n' SH' ∧ h_S n' SH' ∧ g_I FI' ∧ g_fr n (shd SH) [(110, 4), (110, 5), (110, 6), (110, 7), (110, 8)] [] [] FI FI' ∧ g_fr n (shd SH) [(110, 9)] [] [] FL FL' ∧ g_fr n (shd SH) [] [] [] FR FR' ∧ h_FR FR' ∧ g_R n' SH' FR' ∧ (0 ≤ (FI' 110 7).toInt ∧ (FI' 110 7).toInt < (FI 111 4).toInt) ∧ ((FI' 110 5).toInt = 0 ∨ (FI' 110 8).toInt = 1) ∧ ((FI' 110 7).toInt + 1 < (FI 111 4).toInt ∨ (FI' 110 8).toInt ≤ 3) ∧ ((FI 110 7).toInt ≤ (FI' 110 7).toInt) ∧ ((FI 110 5).toInt = 0 ∨ (FI' 110 5).toInt = (FI 110 5).toInt) ∧ ((FI' 110 5).toInt ≠ 0 ∨ (FI' 110 4).toInt = (FI 110 4).toInt) ∧ ((n' : Int) ≤ n + 17 * ((FI' 110 7).toInt - (FI 110 7).toInt) + 8) ∧ ((sl' : Int) ≤ sl + 7 * ((n' : Int) - n)) ∧ ((n : Int) ≤ n') ∧ (∃ gp2 gw2 gs2, g_T n' SH' FI' FR' gp2 gw2 gs2 ∧ (∀ c, c < n → gp2 c = gp c ∧ gw2 c = gw c ∧ gs2 c = gs c) ∧ (∀ q, r = some q → gp2 q = 0 ∧ gw2 q + 20 + 40 * n ≤ 40 * n' ∧ FR' q 6 = none)) ∧ (∀ q, r = some q → q < n' ∧ own q ∧ SH' q = (3, (SH' q).2)) ∧ r ≠ none ∧ (∀ q, r = some q → n ≤ q)))) := by
  intro e
  induction e with
  | zero => exact ⟨by { intro base d n sl SH FI FL FR hS hF hI hR gp gw gs g0 g1 g2 g3 g4 gg0 gg1; rw [show 10 * 0 + d + 11 = d + 9 + 2 by omega]; exact k_unaryF hS hF hI hR gp gw gs g0 g1 g2 (by omega) gg0 gg1 }, by { intro base d n sl SH FI FL FR hS hF hI hR gp gw gs g0 g1 g2 g3 g4 gg0 gg1; rw [show 10 * 0 + d + 11 = d + 0 + 11 by omega]; exact k_choiceF hS hF hI hR gp gw gs g0 g1 g2 (by omega) gg0 gg1 }⟩
  | succ e ih => exact ⟨by { intro base d n sl SH FI FL FR hS hF hI hR gp gw gs g0 g1 g2 g3 g4 gg0 gg1; by_cases hf : (FI 110 5).toInt = 0; { rw [show 10 * (e + 1) + d + 11 = 10 * e + (d + 9) + 12 by omega]; exact k_unaryS ih.1 ih.2 hS hF hI hR gp gw gs g0 g2 hf (by omega) (by omega) gg0 gg1 }; { rw [show 10 * (e + 1) + d + 11 = 10 * e + d + 19 + 2 by omega]; exact k_unaryF hS hF hI hR gp gw gs g0 g1 g2 hf gg0 gg1 } }, by { intro base d n sl SH FI FL FR hS hF hI hR gp gw gs g0 g1 g2 g3 g4 gg0 gg1; by_cases hf : (FI 110 5).toInt = 0; { rw [show 10 * (e + 1) + d + 11 = 10 * e + (d + 0) + 21 by omega]; exact k_choiceS ih.1 ih.2 hS hF hI hR gp gw gs g0 g2 hf (by omega) (by omega) gg0 gg1 }; { rw [show 10 * (e + 1) + d + 11 = 10 * e + d + 10 + 11 by omega]; exact k_choiceF hS hF hI hR gp gw gs g0 g1 g2 hf gg0 gg1 } }⟩
set_option maxHeartbeats 4000000 in
set_option maxRecDepth 100000 in
theorem k_choice {sk : xK} {base d n sl : Nat} {SH : Nat → Nat × Nat} {FI : Nat → Nat → Int32} {FL : Nat → Nat → Int64} {FR : Nat → Nat → Option Nat} (hS : h_S n SH) (hF : h_FR FR) (hI : g_I FI) (hR : g_R n SH FR) (gp : Nat → Nat) (gw : Nat → Nat) (gs : Nat → Nat) (g0 : 0 ≤ (FI 110 7).toInt ∧ (FI 110 7).toInt < (FI 111 4).toInt) (g1 : (FI 110 5).toInt = 0 ∨ (FI 110 8).toInt = 1) (g2 : (FI 110 7).toInt + 1 < (FI 111 4).toInt ∨ (FI 110 8).toInt ≤ 3) (g3 : (FI 110 5).toInt ≠ 0 ∨ (FI 110 4).toInt ≤ 12) (g4 : (FI 110 5).toInt ≠ 0 ∨ 0 ≤ (FI 110 4).toInt) (gg0 : g_T n SH FI FR gp gw gs) (gg1 : g_K FI) : hw sk base (d + 141) none 53 0 [(0, .ref (base + 110))] [] (n, sl, SH, FI, FL, FR) (h_A base (fun r s => ∃ n' sl' SH' FI' FL' FR', s = (n', sl', SH', FI', FL', FR') ∧ g_ex n SH n' SH' ∧ h_S n' SH' ∧ g_I FI' ∧ g_fr n (shd SH) [(110, 4), (110, 5), (110, 6), (110, 7), (110, 8)] [] [] FI FI' ∧ g_fr n (shd SH) [(110, 9)] [] [] FL FL' ∧ g_fr n (shd SH) [] [] [] FR FR' ∧ h_FR FR' ∧ g_R n' SH' FR' ∧ (0 ≤ (FI' 110 7).toInt ∧ (FI' 110 7).toInt < (FI 111 4).toInt) ∧ ((FI' 110 5).toInt = 0 ∨ (FI' 110 8).toInt = 1) ∧ ((FI' 110 7).toInt + 1 < (FI 111 4).toInt ∨ (FI' 110 8).toInt ≤ 3) ∧ ((FI 110 7).toInt ≤ (FI' 110 7).toInt) ∧ ((FI 110 5).toInt = 0 ∨ (FI' 110 5).toInt = (FI 110 5).toInt) ∧ ((FI' 110 5).toInt ≠ 0 ∨ (FI' 110 4).toInt = (FI 110 4).toInt) ∧ ((n' : Int) ≤ n + 17 * ((FI' 110 7).toInt - (FI 110 7).toInt) + 8) ∧ ((sl' : Int) ≤ sl + 7 * ((n' : Int) - n)) ∧ ((n : Int) ≤ n') ∧ (∃ gp2 gw2 gs2, g_T n' SH' FI' FR' gp2 gw2 gs2 ∧ (∀ c, c < n → gp2 c = gp c ∧ gw2 c = gw c ∧ gs2 c = gs c) ∧ (∀ q, r = some q → gp2 q = 0 ∧ gw2 q + 20 + 40 * n ≤ 40 * n' ∧ FR' q 6 = none)) ∧ (∀ q, r = some q → q < n' ∧ own q ∧ SH' q = (3, (SH' q).2)) ∧ r ≠ none ∧ (∀ q, r = some q → n ≤ q))) := by
  have h := (k_exprA (sk := sk) 13).2 base d n sl SH FI FL FR hS hF hI hR gp gw gs g0 g1 g2 g3 (by omega) gg0 gg1
  rwa [show 10 * 13 + d + 11 = d + 141 by omega] at h
end
section
/-! Places, variables of a text. -/
section GI
variable {n n2 : Nat} {SH SH2 : Nat → Nat × Nat} {FI FI2 : Nat → Nat → Int32} {FR FR2 : Nat → Nat → Option Nat} {gp gw gs : Nat → Nat} {c z : Nat}
theorem gT_gr (hS : h_S n SH) (hR : g_R n SH FR) (H : g_T n SH FI FR gp gw gs) (hn : n2 = n + 1) (ex : g_ex n SH n2 SH2) (hs : SH2 n = (100, z)) : g_T n2 SH2 FI FR gp gw gs := by
  refine ⟨fun d hd hsd => ?_, fun p hp hsp => ?_⟩
  · have hdn : d ≠ n := fun e => by rw [e, hs] at hsd; cases hsd
    have hd' : d < n := by omega
    rw [ex.2 d hd'] at hsd
    obtain ⟨a1, a2, a3, a4, a5, a6⟩ := H.1 d hd' hsd
    exact ⟨a1, a2, a3, a4, by omega, fun ht hh => a6 (by rw [← ex.2 _ a5]; exact ht) hh⟩
  · have hpn : p ≠ n := fun e => by rw [e, hs] at hsp; cases hsp
    have hp' : p < n := by omega
    rw [ex.2 p hp'] at hsp
    have hp0 : 176 ≤ p := g_dynt hS hsp (by decide +kernel)
    obtain ⟨a1, a2, a3, a4, a5⟩ := H.2 p hp' hsp
    exact ⟨a1, fun y e => by rw [ex.2 y (gR_t hR hp' hp0 hsp e).1]; exact a2 y e, a3, a4, a5⟩
theorem gR_sub (hR : g_R n SH FR) (hR2 : g_R n2 SH2 FR2) (ex : g_ex n SH n2 SH2) (e : ∀ c k, c < n → 176 ≤ c → (SH c).1 = 3 ∨ (SH c).1 = 6 → FR2 c k = FR c k) : True := trivial
/-- behind a call that made one array: the trees as before -/
theorem gT_ar {L L2 : List (Nat × Nat)} {A T A2 T2 : List Nat} (hS : h_S n SH) (hR : g_R n SH FR) (H : g_T n SH FI FR gp gw gs) (hn : n2 = n + 1) (ex : g_ex n SH n2 SH2) (hs : SH2 n = (100, z)) (f : g_fr n (shd SH) L A T FI FI2) (f2 : g_fr n (shd SH) L2 A2 T2 FR FR2) (m : g_low L A T [1003] = true) (m2 : g_low L2 A2 T2 [1003, 1006] = true) : g_T n2 SH2 FI2 FR2 gp gw gs := by
  have h1 : g_T n2 SH2 FI FR gp gw gs := gT_gr hS hR H hn ex hs
  have k1 : ∀ c, c < n2 → (SH2 c).1 = 3 → FI2 c 0 = FI c 0 := fun c hc hs2 => by
    have hcn : c ≠ n := fun e => by rw [e, hs] at hs2; cases hs2
    rw [ex.2 c (by omega)] at hs2
    exact g_low_at f m (by omega) (g_dynt hS hs2 (by decide +kernel)) (by rw [hs2]) (by decide)
  have k2 : ∀ c k t, c < n2 → (SH2 c).1 = t → t = 3 ∨ t = 6 → FR2 c k = FR c k := fun c k t hc hs2 ht => by
    have hcn : c ≠ n := fun e => by rw [e, hs] at hs2; dsimp only at hs2; omega
    rw [ex.2 c (by omega)] at hs2
    rcases ht with rfl | rfl
    · exact g_low_at f2 m2 (by omega) (g_dynt hS hs2 (by decide +kernel)) (by rw [hs2]) (by decide)
    · exact g_low_at f2 m2 (by omega) (g_dynt hS hs2 (by decide +kernel)) (by rw [hs2]) (by decide)
  refine ⟨fun c hc hs2 => ?_, fun c hc hs2 => ?_⟩
  · obtain ⟨h1, h2, h3, h4, h5, h6⟩ := h1.1 c hc hs2
    simp only [k2 c _ 3 hc hs2 (Or.inl rfl), k1 c hc hs2]
    refine ⟨h1, h2, h3, h4, h5, fun ht hk => h6 ht ?_⟩
    rw [← k1 _ h5 ht]
    exact hk
  · have h2 := h1.2 c hc hs2
    simp only [k2 c _ 6 hc hs2 (Or.inr rfl)]
    exact h2
theorem gK_mx {L : List (Nat × Nat)} {A T : List Nat} (hS : h_S n SH) (h : g_K FI) (f : g_fr n (shd SH) L A T FI FI2) (m : (L.all (fun p => p.1 == 110 || p.1 == 0 || p.1 == 119) && (A.all (fun q => q == 117 || q == 120) && T.all (fun t => decide (1000 ≤ t)))) = true) : g_K FI2 := by
  rw [Bool.and_eq_true, Bool.and_eq_true] at m
  obtain ⟨m1, m2, m3⟩ := m
  have key : ∀ c k, c = 111 ∨ c = 112 ∨ c = 114 ∨ c = 115 → FI2 c k = FI c k := by
    intro c k hc
    have hn := hS.1
    refine f c k (by omega) (fun h => ?_) (fun h => ?_) (fun h => ?_)
    · have h1 := List.all_eq_true.mp m1 (c, k) h
      simp at h1
      omega
    · have h1 := List.all_eq_true.mp m2 c h
      simp at h1
      omega
    · have h1 := of_decide_eq_true (List.all_eq_true.mp m3 _ h)
      unfold shd at h1
      rw [if_neg (by omega), if_neg (by omega)] at h1
      rcases hc with rfl | rfl | rfl | rfl
      · rw [s111 hS] at h1; exact absurd h1 (by decide)
      · rw [s112 hS] at h1; exact absurd h1 (by decide)
      · rw [s114 hS] at h1; exact absurd h1 (by decide)
      · rw [s115 hS] at h1; exact absurd h1 (by decide)
  unfold g_K
  rw [key 111 4 (by omega)]
  refine ⟨h.1, by rw [key 112 _ (by omega)]; exact h.2.1, fun i hi => ?_⟩
  rw [key 115 i (by omega), key 114 i (by omega)]
  exact h.2.2 i hi
theorem gV_gr {v : Nat} (hR : g_R n SH FR) (hv : v < n) (ho : own v) (ex : g_ex n SH n2 SH2) (e : ∀ k, FR2 v k = FR v k) (h : g_Vv SH FR v) : g_Vv SH2 FR2 v := by
  obtain ⟨⟨a, a1, a2⟩, ⟨b, b1, b2⟩, ⟨d, d1, d2⟩, x, x1⟩ := h
  have hl : ∀ k y, FR v k = some y → y < n := fun k y e => (hR.2.1 v k y hv ho e).1
  refine ⟨⟨a, by rw [e]; exact a1, by rw [ex.2 a (hl _ _ a1)]; exact a2⟩, ⟨b, by rw [e]; exact b1, by rw [ex.2 b (hl _ _ b1)]; exact b2⟩, ⟨d, by rw [e]; exact d1, by rw [ex.2 d (hl _ _ d1)]; exact d2⟩, x, by rw [e]; exact x1⟩
end GI
end
