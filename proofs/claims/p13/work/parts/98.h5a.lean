set_option maxHeartbeats 4000000 in
set_option maxRecDepth 100000 in
theorem k_level7S {sk : xK} {base d n sl : Nat} {SH : Nat → Nat × Nat} {FI : Nat → Nat → Int32} {FL : Nat → Nat → Int64} {FR : Nat → Nat → Option Nat} {E e : Nat} (ihU : ∀ (base d n sl : Nat) (SH : Nat → Nat × Nat) (FI : Nat → Nat → Int32) (FL : Nat → Nat → Int64) (FR : Nat → Nat → Option Nat) (hS : h_S n SH) (hF : h_FR FR) (hI : g_I FI) (hR : g_R n SH FR) (gp : Nat → Nat) (gw : Nat → Nat) (gs : Nat → Nat) (g0 : 0 ≤ (FI 110 7).toInt ∧ (FI 110 7).toInt < (FI 111 4).toInt) (g1 : (FI 110 5).toInt = 0 ∨ (FI 110 8).toInt = 1) (g2 : (FI 110 7).toInt + 1 < (FI 111 4).toInt ∨ (FI 110 8).toInt ≤ 3) (g3 : (FI 110 5).toInt ≠ 0 ∨ (FI 110 4).toInt ≤ 12) (g4 : (FI 110 5).toInt ≠ 0 ∨ 13 - (FI 110 4).toInt ≤ (e : Int)) (gg0 : g_T n SH FI FR gp gw gs) (gg1 : g_K FI) , hw sk base (E + d + 11) none 56 0 [(0, .ref (base + 110))] [] (n, sl, SH, FI, FL, FR) (h_A base (fun r s => ∃ n' sl' SH' FI' FL' FR', s = (n', sl', SH', FI', FL', FR') ∧ g_ex n SH n' SH' ∧ h_S n' SH' ∧ g_I FI' ∧ g_fr n (shd SH) [(110, 4), (110, 5), (110, 6), (110, 7), (110, 8)] [] [] FI FI' ∧ g_fr n (shd SH) [(110, 9)] [] [] FL FL' ∧ g_fr n (shd SH) [] [] [] FR FR' ∧ h_FR FR' ∧ g_R n' SH' FR' ∧ (0 ≤ (FI' 110 7).toInt ∧ (FI' 110 7).toInt < (FI 111 4).toInt) ∧ ((FI' 110 5).toInt = 0 ∨ (FI' 110 8).toInt = 1) ∧ ((FI' 110 7).toInt + 1 < (FI 111 4).toInt ∨ (FI' 110 8).toInt ≤ 3) ∧ ((FI 110 7).toInt ≤ (FI' 110 7).toInt) ∧ ((FI 110 5).toInt = 0 ∨ (FI' 110 5).toInt = (FI 110 5).toInt) ∧ ((FI' 110 5).toInt ≠ 0 ∨ (FI' 110 4).toInt = (FI 110 4).toInt) ∧ ((n' : Int) ≤ n + 17 * ((FI' 110 7).toInt - (FI 110 7).toInt) + 1) ∧ ((sl' : Int) ≤ sl + 7 * ((n' : Int) - n)) ∧ ((n : Int) ≤ n') ∧ (∃ gp2 gw2 gs2, g_T n' SH' FI' FR' gp2 gw2 gs2 ∧ (∀ c, c < n → gp2 c = gp c ∧ gw2 c = gw c ∧ gs2 c = gs c) ∧ (∀ q, r = some q → gp2 q = 0 ∧ gw2 q + 20 + 40 * n ≤ 40 * n' ∧ FR' q 6 = none)) ∧ (∀ q, r = some q → q < n' ∧ own q ∧ SH' q = (3, (SH' q).2)) ∧ r ≠ none ∧ (∀ q, r = some q → n ≤ q)))) (ihC : ∀ (base d n sl : Nat) (SH : Nat → Nat × Nat) (FI : Nat → Nat → Int32) (FL : Nat → Nat → Int64) (FR : Nat → Nat → Option Nat) (hS : h_S n SH) (hF : h_FR FR) (hI : g_I FI) (hR : g_R n SH FR) (gp : Nat → Nat) (gw : Nat → Nat) (gs : Nat → Nat) (g0 : 0 ≤ (FI 110 7).toInt ∧ (FI 110 7).toInt < (FI 111 4).toInt) (g1 : (FI 110 5).toInt = 0 ∨ (FI 110 8).toInt = 1) (g2 : (FI 110 7).toInt + 1 < (FI 111 4).toInt ∨ (FI 110 8).toInt ≤ 3) (g3 : (FI 110 5).toInt ≠ 0 ∨ (FI 110 4).toInt ≤ 12) (g4 : (FI 110 5).toInt ≠ 0 ∨ 13 - (FI 110 4).toInt ≤ (e : Int)) (gg0 : g_T n SH FI FR gp gw gs) (gg1 : g_K FI) , hw sk base (E + d + 11) none 53 0 [(0, .ref (base + 110))] [] (n, sl, SH, FI, FL, FR) (h_A base (fun r s => ∃ n' sl' SH' FI' FL' FR', s = (n', sl', SH', FI', FL', FR') ∧ g_ex n SH n' SH' ∧ h_S n' SH' ∧ g_I FI' ∧ g_fr n (shd SH) [(110, 4), (110, 5), (110, 6), (110, 7), (110, 8)] [] [] FI FI' ∧ g_fr n (shd SH) [(110, 9)] [] [] FL FL' ∧ g_fr n (shd SH) [] [] [] FR FR' ∧ h_FR FR' ∧ g_R n' SH' FR' ∧ (0 ≤ (FI' 110 7).toInt ∧ (FI' 110 7).toInt < (FI 111 4).toInt) ∧ ((FI' 110 5).toInt = 0 ∨ (FI' 110 8).toInt = 1) ∧ ((FI' 110 7).toInt + 1 < (FI 111 4).toInt ∨ (FI' 110 8).toInt ≤ 3) ∧ ((FI 110 7).toInt ≤ (FI' 110 7).toInt) ∧ ((FI 110 5).toInt = 0 ∨ (FI' 110 5).toInt = (FI 110 5).toInt) ∧ ((FI' 110 5).toInt ≠ 0 ∨ (FI' 110 4).toInt = (FI 110 4).toInt) ∧ ((n' : Int) ≤ n + 17 * ((FI' 110 7).toInt - (FI 110 7).toInt) + 8) ∧ ((sl' : Int) ≤ sl + 7 * ((n' : Int) - n)) ∧ ((n : Int) ≤ n') ∧ (∃ gp2 gw2 gs2, g_T n' SH' FI' FR' gp2 gw2 gs2 ∧ (∀ c, c < n → gp2 c = gp c ∧ gw2 c = gw c ∧ gs2 c = gs c) ∧ (∀ q, r = some q → gp2 q = 0 ∧ gw2 q + 20 + 40 * n ≤ 40 * n' ∧ FR' q 6 = none)) ∧ (∀ q, r = some q → q < n' ∧ own q ∧ SH' q = (3, (SH' q).2)) ∧ r ≠ none ∧ (∀ q, r = some q → n ≤ q)))) (hS : h_S n SH) (hF : h_FR FR) (hI : g_I FI) (hR : g_R n SH FR) (gp : Nat → Nat) (gw : Nat → Nat) (gs : Nat → Nat) (g0 : 0 ≤ (FI 110 7).toInt ∧ (FI 110 7).toInt < (FI 111 4).toInt) (g1 : (FI 110 7).toInt + 1 < (FI 111 4).toInt ∨ (FI 110 8).toInt ≤ 3) (g2 : (FI 110 5).toInt = 0) (g3 : (FI 110 4).toInt ≤ 12) (g4 : 13 - (FI 110 4).toInt ≤ (e : Int) + 1) (gg0 : g_T n SH FI FR gp gw gs) (gg1 : g_K FI) : hw sk base (E + d + 13) none 54 0 [(0, .ref (base + 110)), (1, .int ((7 : Int32)))] [] (n, sl, SH, FI, FL, FR) (h_A base (fun r s => ∃ n' sl' SH' FI' FL' FR', s = (n', sl', SH', FI', FL', FR') ∧ g_ex n SH n' SH' ∧ h_S n' SH' ∧ g_I FI' ∧ g_fr n (shd SH) [(110, 4), (110, 5), (110, 6), (110, 7), (110, 8)] [] [] FI FI' ∧ g_fr n (shd SH) [(110, 9)] [] [] FL FL' ∧ g_fr n (shd SH) [] [] [] FR FR' ∧ h_FR FR' ∧ g_R n' SH' FR' ∧ (0 ≤ (FI' 110 7).toInt ∧ (FI' 110 7).toInt < (FI 111 4).toInt) ∧ ((FI' 110 5).toInt = 0 ∨ (FI' 110 8).toInt = 1) ∧ ((FI' 110 7).toInt + 1 < (FI 111 4).toInt ∨ (FI' 110 8).toInt ≤ 3) ∧ ((FI 110 7).toInt ≤ (FI' 110 7).toInt) ∧ ((FI 110 5).toInt = 0 ∨ (FI' 110 5).toInt = (FI 110 5).toInt) ∧ ((FI' 110 5).toInt ≠ 0 ∨ (FI' 110 4).toInt = (FI 110 4).toInt) ∧ ((n' : Int) ≤ n + 17 * ((FI' 110 7).toInt - (FI 110 7).toInt) + 1) ∧ ((sl' : Int) ≤ sl + 7 * ((n' : Int) - n)) ∧ ((n : Int) ≤ n') ∧ (∃ gp2 gw2 gs2, g_T n' SH' FI' FR' gp2 gw2 gs2 ∧ (∀ c, c < n → gp2 c = gp c ∧ gw2 c = gw c ∧ gs2 c = gs c) ∧ (∀ q, r = some q → gp2 q = 0 ∧ gw2 q + 20 + 40 * n ≤ 40 * n' ∧ FR' q 6 = none)) ∧ (∀ q, r = some q → q < n' ∧ own q ∧ SH' q = (3, (SH' q).2)) ∧ r ≠ none ∧ (∀ q, r = some q → n ≤ q))) := by
  have hk0 : ∀ c, c < n → gp c = gp c ∧ gw c = gw c ∧ gs c = gs c := fun _ _ => ⟨rfl, rfl, rfl⟩
  obtain ⟨x1, h2⟩ : ∃ y, FI 110 7 = y := ⟨_, rfl⟩
  have h2l := congrArg Int32.toInt h2
  have b3 := gI_110_7 hI; rw [h2] at b3
  obtain ⟨x4, h5⟩ : ∃ y, FI 111 4 = y := ⟨_, rfl⟩
  have h5l := congrArg Int32.toInt h5
  have b6 := gI_111_4 hI; rw [h5] at b6
  obtain ⟨x7, h8⟩ : ∃ y, FI 110 8 = y := ⟨_, rfl⟩
  have h8l := congrArg Int32.toInt h8
  have := i_rng x7
  obtain ⟨x9, h10⟩ : ∃ y, FI 110 5 = y := ⟨_, rfl⟩
  have h10l := congrArg Int32.toInt h10
  have := i_rng x9
  obtain ⟨x11, h12⟩ : ∃ y, FI 110 4 = y := ⟨_, rfl⟩
  have h12l := congrArg Int32.toInt h12
  have := i_rng x11
  refine xw_iloadn (aX4_readLevel 0 rfl) rfl ?_
  refine hw_bp (v := (7 : Int32)) (aX4_readLevel 1 rfl) (by decide) ?_
  refine hw_iclt (tgt := 11) (aX4_readLevel 2 rfl) (by decide) (by decide : (7 : Int32).toInt = 7) (by decide : (7 : Int32).toInt = 7) (fun cd13 => ?_) (fun cd13 => ?_)
  · omega
  · refine hw_aloadn (aX4_readLevel 3 rfl) rfl ?_
    refine hw_callV (Bs := []) (rest := []) (aX4_readLevel 4 rfl) wc_RX4_195 (by decide) rfl wi_yX4_readUnary wv_yX4_readUnary (c110 hS) (s110 hS) rfl rfl rfl (Nat.le_of_ble_eq_true rfl) (Nat.le_of_ble_eq_true rfl) (k_unaryS (d := d) ihU ihC hS hF hI hR (gp) (gw) (gs) (by have := congrArg Int32.toInt (show FI 110 7 = x1 from h2); have := congrArg Int32.toInt (show FI 110 7 = x1 from h2); have := congrArg Int32.toInt (show FI 111 4 = x4 from h5); omega) (by have := congrArg Int32.toInt (show FI 110 7 = x1 from h2); have := congrArg Int32.toInt (show FI 111 4 = x4 from h5); have := congrArg Int32.toInt (show FI 110 8 = x7 from h8); omega) (by have := congrArg Int32.toInt (show FI 110 5 = x9 from h10); omega) (by have := congrArg Int32.toInt (show FI 110 4 = x11 from h12); omega) (by have := congrArg Int32.toInt (show FI 110 4 = x11 from h12); omega) (gg0) (gK_mv (L := [(110, 4), (110, 5), (110, 6), (110, 7), (110, 8)]) (A := []) (T := []) hS gg1 gf_rf (by decide))) (fun v14 sv15 p16 => ?_)
    have := congrArg Int32.toInt (show FI 111 4 = x4 from h5)
    have := congrArg Int32.toInt (show FI 111 4 = x4 from h5)
    have := congrArg Int32.toInt (show FI 110 7 = x1 from h2)
    have := congrArg Int32.toInt (show FI 110 5 = x9 from h10)
    have := congrArg Int32.toInt (show FI 110 5 = x9 from h10)
    have := congrArg Int32.toInt (show FI 110 4 = x11 from h12)
    have := congrArg Int32.toInt (show FI 110 7 = x1 from h2)
    obtain ⟨r17, rfl, n39, sl40, SH41, FI18, FL19, FR20, rfl, ex42, hS43, hI21, f22, f23, f24, hF25, hR26, t27, t28, t29, t30, t31, t32, t33, t34, t35, u36, ht37, nn38, hfr44⟩ := p16
    clear t31
    obtain ⟨gp45, gw46, gs47, hT48, hkp49, hq50⟩ := u36
    have hk51 : ∀ c, c < n → gp45 c = gp c ∧ gw46 c = gw c ∧ gs47 c = gs c := fun c hc => by obtain ⟨k1, k2, k3⟩ := hk0 c hc; obtain ⟨m1, m2, m3⟩ := hkp49 c (Nat.lt_of_lt_of_le hc (Nat.le_refl _)); exact ⟨m1.trans k1, m2.trans k2, m3.trans k3⟩
    obtain ⟨r52, rfl⟩ : ∃ q, r17 = some q := Option.ne_none_iff_exists'.mp nn38
    have fq53 := hfr44 r52 rfl
    have dq54 : 176 ≤ r52 := Nat.le_trans hS.1 fq53
    obtain ⟨lt56, ow57, sh58⟩ := ht37 r52 rfl
    obtain ⟨e59, e60, e61⟩ := hq50 r52 rfl
    obtain ⟨x62, h63⟩ : ∃ y, FI18 110 7 = y := ⟨_, rfl⟩
    have h63l := congrArg Int32.toInt h63
    have b64 := gI_110_7 hI21; rw [h63] at b64
    obtain ⟨x65, h66⟩ : ∃ y, FI18 110 5 = y := ⟨_, rfl⟩
    have h66l := congrArg Int32.toInt h66
    have := i_rng x65
    obtain ⟨x67, h68⟩ : ∃ y, FI18 110 8 = y := ⟨_, rfl⟩
    have h68l := congrArg Int32.toInt h68
    have := i_rng x67
    obtain ⟨x69, h70⟩ : ∃ y, FI18 110 4 = y := ⟨_, rfl⟩
    have h70l := congrArg Int32.toInt h70
    have := i_rng x69
    show hw sk base _ _ _ _ _ [.ref (base + r52)] _ _
    refine xw_aret (v := h_rf base (some (r52))) (aX4_readLevel 5 rfl) rfl (by first | exact Or.inl ⟨_, rfl⟩ | exact Or.inr ⟨_, rfl⟩) ?_
    exact ⟨some (r52), rfl, n39, sl40, SH41, FI18, FL19, FR20, rfl, ex42, hS43, hI21, (gf_tr ex_rf gf_rf f22 rfl rfl rfl), (gf_tr ex_rf gf_rf f23 rfl rfl rfl), (gf_tr ex_rf gf_rf f24 rfl rfl rfl), hF25, hR26, (by have := congrArg Int32.toInt (show FI18 110 7 = x62 from h63); omega), (by have := congrArg Int32.toInt (show FI18 110 5 = x65 from h66); have := congrArg Int32.toInt (show FI18 110 8 = x67 from h68); omega), (by have := congrArg Int32.toInt (show FI18 110 7 = x62 from h63); have := congrArg Int32.toInt (show FI18 110 8 = x67 from h68); omega), (by have := congrArg Int32.toInt (show FI18 110 7 = x62 from h63); omega), (by have := congrArg Int32.toInt (show FI18 110 5 = x65 from h66); omega), (by have := congrArg Int32.toInt (show FI18 110 4 = x69 from h70); have := congrArg Int32.toInt (show FI18 110 5 = x65 from h66); omega), (by have := congrArg Int32.toInt (show FI18 110 7 = x62 from h63); omega), (by omega), (by omega), (by exact ⟨gp45, gw46, gs47, hT48, hk51, fun q e => by cases e; exact ⟨by omega, by omega, (show FR20 r52 6 = none from e61)⟩⟩), ((fun r e => by cases e; exact ⟨lt56, ow57, by rw [sh58]⟩)), (by simp), (fun q e => by cases e; exact (Nat.le_trans (Nat.le_refl _) fq53))⟩
