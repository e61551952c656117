set_option maxHeartbeats 4000000 in
set_option maxRecDepth 100000 in
theorem k_choiceS {sk : xK} {base d n sl : Nat} {SH : Nat → Nat × Nat} {FI : Nat → Nat → Int32} {FL : Nat → Nat → Int64} {FR : Nat → Nat → Option Nat} {E e : Nat} (ihU : ∀ (base d n sl : Nat) (SH : Nat → Nat × Nat) (FI : Nat → Nat → Int32) (FL : Nat → Nat → Int64) (FR : Nat → Nat → Option Nat) (hS : h_S n SH) (hF : h_FR FR) (hI : g_I FI) (hR : g_R n SH FR) (gp : Nat → Nat) (gw : Nat → Nat) (gs : Nat → Nat) (g0 : 0 ≤ (FI 110 7).toInt ∧ (FI 110 7).toInt < (FI 111 4).toInt) (g1 : (FI 110 5).toInt = 0 ∨ (FI 110 8).toInt = 1) (g2 : (FI 110 7).toInt + 1 < (FI 111 4).toInt ∨ (FI 110 8).toInt ≤ 3) (g3 : (FI 110 5).toInt ≠ 0 ∨ (FI 110 4).toInt ≤ 12) (g4 : (FI 110 5).toInt ≠ 0 ∨ 13 - (FI 110 4).toInt ≤ (e : Int)) (gg0 : g_T n SH FI FR gp gw gs) (gg1 : g_K FI) , hw sk base (E + d + 11) none 56 0 [(0, .ref (base + 110))] [] (n, sl, SH, FI, FL, FR) (h_A base (fun r s => ∃ n' sl' SH' FI' FL' FR', s = (n', sl', SH', FI', FL', FR') ∧ g_ex n SH n' SH' ∧ h_S n' SH' ∧ g_I FI' ∧ g_fr n (shd SH) [(110, 4), (110, 5), (110, 6), (110, 7), (110, 8)] [] [] FI FI' ∧ g_fr n (shd SH) [(110, 9)] [] [] FL FL' ∧ g_fr n (shd SH) [] [] [] FR FR' ∧ h_FR FR' ∧ g_R n' SH' FR' ∧ (0 ≤ (FI' 110 7).toInt ∧ (FI' 110 7).toInt < (FI 111 4).toInt) ∧ ((FI' 110 5).toInt = 0 ∨ (FI' 110 8).toInt = 1) ∧ ((FI' 110 7).toInt + 1 < (FI 111 4).toInt ∨ (FI' 110 8).toInt ≤ 3) ∧ ((FI 110 7).toInt ≤ (FI' 110 7).toInt) ∧ ((FI 110 5).toInt = 0 ∨ (FI' 110 5).toInt = (FI 110 5).toInt) ∧ ((FI' 110 5).toInt ≠ 0 ∨ (FI' 110 4).toInt = (FI 110 4).toInt) ∧ ((n' : Int) ≤ n + 17 * ((FI' 110 7).toInt - (FI 110 7).toInt) + 1) ∧ ((sl' : Int) ≤ sl + 7 * ((n' : Int) - n)) ∧ ((n : Int) ≤ n') ∧ (∃ gp2 gw2 gs2, g_T n' SH' FI' FR' gp2 gw2 gs2 ∧ (∀ c, c < n → gp2 c = gp c ∧ gw2 c = gw c ∧ gs2 c = gs c) ∧ (∀ q, r = some q → gp2 q = 0 ∧ gw2 q + 20 + 40 * n ≤ 40 * n' ∧ FR' q 6 = none)) ∧ (∀ q, r = some q → q < n' ∧ own q ∧ SH' q = (3, (SH' q).2)) ∧ r ≠ none ∧ (∀ q, r = some q → n ≤ q)))) (ihC : ∀ (base d n sl : Nat) (SH : Nat → Nat × Nat) (FI : Nat → Nat → Int32) (FL : Nat → Nat → Int64) (FR : Nat → Nat → Option Nat) (hS : h_S n SH) (hF : h_FR FR) (hI : g_I FI) (hR : g_R n SH FR) (gp : Nat → Nat) (gw : Nat → Nat) (gs : Nat → Nat) (g0 : 0 ≤ (FI 110 7).toInt ∧ (FI 110 7).toInt < (FI 111 4).toInt) (g1 : (FI 110 5).toInt = 0 ∨ (FI 110 8).toInt = 1) (g2 : (FI 110 7).toInt + 1 < (FI 111 4).toInt ∨ (FI 110 8).toInt ≤ 3) (g3 : (FI 110 5).toInt ≠ 0 ∨ (FI 110 4).toInt ≤ 12) (g4 : (FI 110 5).toInt ≠ 0 ∨ 13 - (FI 110 4).toInt ≤ (e : Int)) (gg0 : g_T n SH FI FR gp gw gs) (gg1 : g_K FI) , hw sk base (E + d + 11) none 53 0 [(0, .ref (base + 110))] [] (n, sl, SH, FI, FL, FR) (h_A base (fun r s => ∃ n' sl' SH' FI' FL' FR', s = (n', sl', SH', FI', FL', FR') ∧ g_ex n SH n' SH' ∧ h_S n' SH' ∧ g_I FI' ∧ g_fr n (shd SH) [(110, 4), (110, 5), (110, 6), (110, 7), (110, 8)] [] [] FI FI' ∧ g_fr n (shd SH) [(110, 9)] [] [] FL FL' ∧ g_fr n (shd SH) [] [] [] FR FR' ∧ h_FR FR' ∧ g_R n' SH' FR' ∧ (0 ≤ (FI' 110 7).toInt ∧ (FI' 110 7).toInt < (FI 111 4).toInt) ∧ ((FI' 110 5).toInt = 0 ∨ (FI' 110 8).toInt = 1) ∧ ((FI' 110 7).toInt + 1 < (FI 111 4).toInt ∨ (FI' 110 8).toInt ≤ 3) ∧ ((FI 110 7).toInt ≤ (FI' 110 7).toInt) ∧ ((FI 110 5).toInt = 0 ∨ (FI' 110 5).toInt = (FI 110 5).toInt) ∧ ((FI' 110 5).toInt ≠ 0 ∨ (FI' 110 4).toInt = (FI 110 4).toInt) ∧ ((n' : Int) ≤ n + 17 * ((FI' 110 7).toInt - (FI 110 7).toInt) + 8) ∧ ((sl' : Int) ≤ sl + 7 * ((n' : Int) - n)) ∧ ((n : Int) ≤ n') ∧ (∃ gp2 gw2 gs2, g_T n' SH' FI' FR' gp2 gw2 gs2 ∧ (∀ c, c < n → gp2 c = gp c ∧ gw2 c = gw c ∧ gs2 c = gs c) ∧ (∀ q, r = some q → gp2 q = 0 ∧ gw2 q + 20 + 40 * n ≤ 40 * n' ∧ FR' q 6 = none)) ∧ (∀ q, r = some q → q < n' ∧ own q ∧ SH' q = (3, (SH' q).2)) ∧ r ≠ none ∧ (∀ q, r = some q → n ≤ q)))) (hS : h_S n SH) (hF : h_FR FR) (hI : g_I FI) (hR : g_R n SH FR) (gp : Nat → Nat) (gw : Nat → Nat) (gs : Nat → Nat) (g0 : 0 ≤ (FI 110 7).toInt ∧ (FI 110 7).toInt < (FI 111 4).toInt) (g1 : (FI 110 7).toInt + 1 < (FI 111 4).toInt ∨ (FI 110 8).toInt ≤ 3) (g2 : (FI 110 5).toInt = 0) (g3 : (FI 110 4).toInt ≤ 12) (g4 : 13 - (FI 110 4).toInt ≤ (e : Int) + 1) (gg0 : g_T n SH FI FR gp gw gs) (gg1 : g_K FI) : hw sk base (E + d + 21) none 53 0 [(0, .ref (base + 110))] [] (n, sl, SH, FI, FL, FR) (h_A base (fun r s => ∃ n' sl' SH' FI' FL' FR', s = (n', sl', SH', FI', FL', FR') ∧ g_ex n SH n' SH' ∧ h_S n' SH' ∧ g_I FI' ∧ g_fr n (shd SH) [(110, 4), (110, 5), (110, 6), (110, 7), (110, 8)] [] [] FI FI' ∧ g_fr n (shd SH) [(110, 9)] [] [] FL FL' ∧ g_fr n (shd SH) [] [] [] FR FR' ∧ h_FR FR' ∧ g_R n' SH' FR' ∧ (0 ≤ (FI' 110 7).toInt ∧ (FI' 110 7).toInt < (FI 111 4).toInt) ∧ ((FI' 110 5).toInt = 0 ∨ (FI' 110 8).toInt = 1) ∧ ((FI' 110 7).toInt + 1 < (FI 111 4).toInt ∨ (FI' 110 8).toInt ≤ 3) ∧ ((FI 110 7).toInt ≤ (FI' 110 7).toInt) ∧ ((FI 110 5).toInt = 0 ∨ (FI' 110 5).toInt = (FI 110 5).toInt) ∧ ((FI' 110 5).toInt ≠ 0 ∨ (FI' 110 4).toInt = (FI 110 4).toInt) ∧ ((n' : Int) ≤ n + 17 * ((FI' 110 7).toInt - (FI 110 7).toInt) + 8) ∧ ((sl' : Int) ≤ sl + 7 * ((n' : Int) - n)) ∧ ((n : Int) ≤ n') ∧ (∃ gp2 gw2 gs2, g_T n' SH' FI' FR' gp2 gw2 gs2 ∧ (∀ c, c < n → gp2 c = gp c ∧ gw2 c = gw c ∧ gs2 c = gs c) ∧ (∀ q, r = some q → gp2 q = 0 ∧ gw2 q + 20 + 40 * n ≤ 40 * n' ∧ FR' q 6 = none)) ∧ (∀ q, r = some q → q < n' ∧ own q ∧ SH' q = (3, (SH' q).2)) ∧ r ≠ none ∧ (∀ q, r = some q → n ≤ q))) := by
  have hk0 : ∀ c, c < n → gp c = gp c ∧ gw c = gw c ∧ gs c = gs c := fun _ _ => ⟨rfl, rfl, rfl⟩
  obtain ⟨x1, h2⟩ : ∃ y, FI 110 7 = y := ⟨_, rfl⟩
  have h2l := congrArg Int32.toInt h2
  have b3 := gI_110_7 hI; rw [h2] at b3
  obtain ⟨x4, h5⟩ : ∃ y, FI 111 4 = y := ⟨_, rfl⟩
  have h5l := congrArg Int32.toInt h5
  have b6 := gI_111_4 hI; rw [h5] at b6
  obtain ⟨x7, h8⟩ : ∃ y, FI 110 8 = y := ⟨_, rfl⟩
  have h8l := congrArg Int32.toInt h8
  have := i_rng x7
  obtain ⟨x9, h10⟩ : ∃ y, FI 110 5 = y := ⟨_, rfl⟩
  have h10l := congrArg Int32.toInt h10
  have := i_rng x9
  obtain ⟨x11, h12⟩ : ∃ y, FI 110 4 = y := ⟨_, rfl⟩
  have h12l := congrArg Int32.toInt h12
  have := i_rng x11
  refine hw_aloadn (aX4_readChoice 0 rfl) rfl ?_
  refine hw_ic (v := (0 : Int32)) (aX4_readChoice 1 rfl) (by decide) ?_
  refine hw_callV (Bs := [.int ((0 : Int32))]) (rest := []) (aX4_readChoice 2 rfl) wc_RX4_177 (by decide) rfl wi_yX4_readLevel wv_yX4_readLevel (c110 hS) (s110 hS) rfl rfl rfl (Nat.le_of_ble_eq_true rfl) (Nat.le_of_ble_eq_true rfl) (k_level0S (d := d) ihU ihC hS hF hI hR (gp) (gw) (gs) (by have := congrArg Int32.toInt (show FI 110 7 = x1 from h2); have := congrArg Int32.toInt (show FI 110 7 = x1 from h2); have := congrArg Int32.toInt (show FI 111 4 = x4 from h5); omega) (by have := congrArg Int32.toInt (show FI 110 7 = x1 from h2); have := congrArg Int32.toInt (show FI 111 4 = x4 from h5); have := congrArg Int32.toInt (show FI 110 8 = x7 from h8); omega) (by have := congrArg Int32.toInt (show FI 110 5 = x9 from h10); omega) (by have := congrArg Int32.toInt (show FI 110 4 = x11 from h12); omega) (by have := congrArg Int32.toInt (show FI 110 4 = x11 from h12); omega) (gg0) (gK_mv (L := [(110, 4), (110, 5), (110, 6), (110, 7), (110, 8)]) (A := []) (T := []) hS gg1 gf_rf (by decide))) (fun v13 sv14 p15 => ?_)
  have := congrArg Int32.toInt (show FI 111 4 = x4 from h5)
  have := congrArg Int32.toInt (show FI 111 4 = x4 from h5)
  have := congrArg Int32.toInt (show FI 110 7 = x1 from h2)
  have := congrArg Int32.toInt (show FI 110 5 = x9 from h10)
  have := congrArg Int32.toInt (show FI 110 5 = x9 from h10)
  have := congrArg Int32.toInt (show FI 110 4 = x11 from h12)
  have := congrArg Int32.toInt (show FI 110 7 = x1 from h2)
  obtain ⟨r16, rfl, n38, sl39, SH40, FI17, FL18, FR19, rfl, ex41, hS42, hI20, f21, f22, f23, hF24, hR25, t26, t27, t28, t29, t30, t31, t32, t33, t34, u35, ht36, nn37, hfr43⟩ := p15
  clear t30
  obtain ⟨gp44, gw45, gs46, hT47, hkp48, hq49⟩ := u35
  have hk50 : ∀ c, c < n → gp44 c = gp c ∧ gw45 c = gw c ∧ gs46 c = gs c := fun c hc => by obtain ⟨k1, k2, k3⟩ := hk0 c hc; obtain ⟨m1, m2, m3⟩ := hkp48 c (Nat.lt_of_lt_of_le hc (Nat.le_refl _)); exact ⟨m1.trans k1, m2.trans k2, m3.trans k3⟩
  obtain ⟨r51, rfl⟩ : ∃ q, r16 = some q := Option.ne_none_iff_exists'.mp nn37
  have fq52 := hfr43 r51 rfl
  have dq53 : 176 ≤ r51 := Nat.le_trans hS.1 fq52
  obtain ⟨lt55, ow56, sh57⟩ := ht36 r51 rfl
  obtain ⟨e58, e59, e60⟩ := hq49 r51 rfl
  obtain ⟨x61, h62⟩ : ∃ y, FI17 110 7 = y := ⟨_, rfl⟩
  have h62l := congrArg Int32.toInt h62
  have b63 := gI_110_7 hI20; rw [h62] at b63
  obtain ⟨x64, h65⟩ : ∃ y, FI17 110 5 = y := ⟨_, rfl⟩
  have h65l := congrArg Int32.toInt h65
  have := i_rng x64
  obtain ⟨x66, h67⟩ : ∃ y, FI17 110 8 = y := ⟨_, rfl⟩
  have h67l := congrArg Int32.toInt h67
  have := i_rng x66
  obtain ⟨x68, h69⟩ : ∃ y, FI17 110 4 = y := ⟨_, rfl⟩
  have h69l := congrArg Int32.toInt h69
  have := i_rng x68
  show hw sk base _ _ _ _ _ [.ref (base + r51)] _ _
  refine hw_astoren (L2 := [(1, .ref (base + r51)), (0, .ref (base + 110))]) (aX4_readChoice 3 rfl) (by decide) rfl ?_
  refine hw_aloadn (aX4_readChoice 4 rfl) rfl ?_
  refine hw_get (v := .int (x66)) (aX4_readChoice 5 rfl) wf_RX4_51 (c110 hS42) (s110 hS42) (by decide) (congrArg Value.int (show FI17 110 8 = x66 from h67)) ?_
  refine hw_bp (v := (63 : Int32)) (aX4_readChoice 6 rfl) (by decide) ?_
  refine hw_icne (tgt := 22) (aX4_readChoice 7 rfl) (by decide) rfl (by decide : (63 : Int32).toInt = 63) (fun cd70 => ?_) (fun cd70 => ?_)
  · refine hw_aloadn (aX4_readChoice 11 rfl) rfl ?_
    refine xw_aret (v := h_rf base (some (r51))) (aX4_readChoice 12 rfl) rfl (by first | exact Or.inl ⟨_, rfl⟩ | exact Or.inr ⟨_, rfl⟩) ?_
    exact ⟨some (r51), rfl, n38, sl39, SH40, FI17, FL18, FR19, rfl, ex41, hS42, hI20, (gf_tr ex_rf gf_rf f21 rfl rfl rfl), (gf_tr ex_rf gf_rf f22 rfl rfl rfl), (gf_tr ex_rf gf_rf f23 rfl rfl rfl), hF24, hR25, (by have := congrArg Int32.toInt (show FI17 110 7 = x61 from h62); omega), (by have := congrArg Int32.toInt (show FI17 110 5 = x64 from h65); have := congrArg Int32.toInt (show FI17 110 8 = x66 from h67); omega), (by have := congrArg Int32.toInt (show FI17 110 7 = x61 from h62); have := congrArg Int32.toInt (show FI17 110 8 = x66 from h67); omega), (by have := congrArg Int32.toInt (show FI17 110 7 = x61 from h62); omega), (by have := congrArg Int32.toInt (show FI17 110 5 = x64 from h65); omega), (by have := congrArg Int32.toInt (show FI17 110 4 = x68 from h69); have := congrArg Int32.toInt (show FI17 110 5 = x64 from h65); omega), (by have := congrArg Int32.toInt (show FI17 110 7 = x61 from h62); omega), (by omega), (by omega), (by exact ⟨gp44, gw45, gs46, hT47, hk50, fun q e => by cases e; exact ⟨by omega, by omega, (show FR19 r51 6 = none from e60)⟩⟩), ((fun r e => by cases e; exact ⟨lt55, ow56, by rw [sh57]⟩)), (by simp), (fun q e => by cases e; exact (Nat.le_trans (Nat.le_refl _) fq52))⟩
  · refine hw_aloadn (aX4_readChoice 8 rfl) rfl ?_
    refine hw_callV (Bs := []) (rest := []) (aX4_readChoice 9 rfl) wc_RX4_117 (by decide) rfl wi_yX4_raise wv_yX4_raise (c110 hS42) (s110 hS42) rfl rfl rfl (Nat.le_of_ble_eq_true rfl) (Nat.le_of_ble_eq_true rfl) (k_raise2 (d := E + d + 19) hS42 hF24 hI20 hR25 (by have := congrArg Int32.toInt (show FI17 110 7 = x61 from h62); have := congrArg Int32.toInt (show FI17 110 7 = x61 from h62); have := congrArg Int32.toInt (show FI17 111 4 = x4 from (gf_at f21 (c111 hS) (shd_f (by decide) (s111 hS)) rfl (h5))); omega) (by have := congrArg Int32.toInt (show FI17 110 5 = x64 from h65); have := congrArg Int32.toInt (show FI17 110 8 = x66 from h67); omega) (by have := congrArg Int32.toInt (show FI17 110 7 = x61 from h62); have := congrArg Int32.toInt (show FI17 111 4 = x4 from (gf_at f21 (c111 hS) (shd_f (by decide) (s111 hS)) rfl (h5))); have := congrArg Int32.toInt (show FI17 110 8 = x66 from h67); omega)) (fun v71 sv72 p73 => ?_)
    have := congrArg Int32.toInt (show FI17 110 4 = x68 from h69)
    have := congrArg Int32.toInt (show FI17 110 4 = x68 from h69)
    have := congrArg Int32.toInt (show FI17 110 5 = x64 from h65)
    have := congrArg Int32.toInt (show FI17 110 8 = x66 from h67)
    have := congrArg Int32.toInt (show FI17 110 4 = x68 from h69)
    have := congrArg Int32.toInt (show FI17 110 5 = x64 from h65)
    have := congrArg Int32.toInt (show FI17 110 5 = x64 from h65)
    obtain ⟨r74, rfl, FI75, rfl, hI76, f77, t80, t81, t82, t83⟩ := p73
    clear t82
    have hT86 : g_T n38 SH40 FI75 FR19 gp44 gw45 gs46 := gT_mw (L := [(110, 4), (110, 5), (110, 6), (110, 8)]) (A := []) (T := []) (L2 := []) (A2 := []) (T2 := []) hS42 hT47 f77 gf_rf (by decide) (by decide)
    obtain ⟨x87, h88⟩ : ∃ y, FI75 110 4 = y := ⟨_, rfl⟩
    have h88l := congrArg Int32.toInt h88
    have := i_rng x87
    obtain ⟨x89, h90⟩ : ∃ y, FI75 110 5 = y := ⟨_, rfl⟩
    have h90l := congrArg Int32.toInt h90
    have := i_rng x89
    obtain ⟨x91, h92⟩ : ∃ y, FI75 110 8 = y := ⟨_, rfl⟩
    have h92l := congrArg Int32.toInt h92
    have := i_rng x91
    show hw sk base _ _ _ _ _ [.int (r74)] _ _
    refine hw_ifne (tgt := 24) (aX4_readChoice 10 rfl) (by decide) rfl (fun cd93 => ?_) (fun cd93 => ?_)
    · replace t80 := t80 (by omega)
      clear t81
      have : (x89).toInt = 0 := by omega
      refine hv_new (t := 3) hS42 hF24 hI76 hR25 (by unfold g_dt; omega) (aX4_readChoice 13 rfl) rfl (tin_5 (i := 88) rfl rfl) (tin_1 (i := 21) rfl rfl) (fun n94 sl95 SH96 FI97 FL98 FR99 hsl100 nw101 => ?_)
      obtain ⟨hn102, ex103, hS104, hF105, hI106, hR107, lt108, sh109, dy110, eI111, eL112, eR113, zI114, zL115, zR116⟩ := nw101
      have lt117 := ex_lt ex103 lt55
      have sh118 := ex_sh ex103 lt55 sh57
      have ex119 := ex_tr ex41 ex103
      refine xw_dup (aX4_readChoice 14 rfl) rfl ?_
      refine hw_bp (v := (63 : Int32)) (aX4_readChoice 15 rfl) (by decide) ?_
      refine hw_lc (v := (0 : Int64)) (aX4_readChoice 16 rfl) (by decide) ?_
      refine hw_callN (Bs := [.int ((63 : Int32)), .long ((0 : Int64))]) (rest := [.ref (base + n38)]) (aX4_readChoice 17 rfl) wc_RX4_183 (by decide) rfl wi_yX3_init rfl rfl rfl (Nat.le_of_ble_eq_true rfl) (Nat.le_of_ble_eq_true rfl) (k_X3_init (d := E + d + 19) hS104 hF105 hI106 hR107 (n38) lt108 sh109 (Or.inr dy110) dy110 ((63 : Int32)) ((0 : Int64)) ) (fun v120 sv121 p122 => ?_)
      have := ((by decide : (63 : Int32).toInt = 63) : ((63 : Int32)).toInt = 63)
      obtain ⟨rfl, FI124, FL125, rfl, hI126, f127, f128, t131⟩ := p122
      obtain ⟨gp134, hg135⟩ : ∃ f, f = va_up gp44 n38 (0) := ⟨_, rfl⟩
      have : gp134 n38 = 0 := by rw [hg135]; exact va_s
      have : gp134 r51 = gp44 r51 := by rw [hg135]; exact va_o (Nat.ne_of_lt lt55)
      obtain ⟨gw136, hg137⟩ : ∃ f, f = va_up gw45 n38 (20) := ⟨_, rfl⟩
      have : gw136 n38 = 20 := by rw [hg137]; exact va_s
      have : gw136 r51 = gw45 r51 := by rw [hg137]; exact va_o (Nat.ne_of_lt lt55)
      obtain ⟨gs138, hg139⟩ : ∃ f, f = va_up gs46 n38 (0) := ⟨_, rfl⟩
      have : gs138 n38 = 0 := by rw [hg139]; exact va_s
      have : gs138 r51 = gs46 r51 := by rw [hg139]; exact va_o (Nat.ne_of_lt lt55)
      have hk140 : ∀ c, c < n → gp134 c = gp c ∧ gw136 c = gw c ∧ gs138 c = gs c := fun c hc => by
        obtain ⟨k1, k2, k3⟩ := hk50 c hc
        exact ⟨by rw [hg135]; exact (va_o (show c ≠ n38 from Nat.ne_of_lt (Nat.lt_of_lt_of_le hc (ex41).1))).trans k1, by rw [hg137]; exact (va_o (show c ≠ n38 from Nat.ne_of_lt (Nat.lt_of_lt_of_le hc (ex41).1))).trans k2, by rw [hg139]; exact (va_o (show c ≠ n38 from Nat.ne_of_lt (Nat.lt_of_lt_of_le hc (ex41).1))).trans k3⟩
      have hT141 : g_T n94 SH96 FI124 FR99 gp134 gw136 gs138 := by rw [hg135, hg137, hg139]; exact gT_mk hS42 hR25 hT86 hn102 ex103 sh109 (by decide) (fun c hc => (f127 c 0 hc (by simp) (by simp) (by simp)).trans (eI111 c 0 (Nat.ne_of_lt hc))) (fun c k hc => eR113 c k (Nat.ne_of_lt hc)) zR116
      obtain ⟨x142, h143⟩ : ∃ y, FI124 n38 0 = y := ⟨_, rfl⟩
      have h143l := congrArg Int32.toInt h143
      have := i_rng x142
      show hw sk base _ _ _ _ _ [.ref (base + n38)] _ _
      refine hw_astoren (L2 := [(2, .ref (base + n38)), (1, .ref (base + r51)), (0, .ref (base + 110))]) (aX4_readChoice 18 rfl) (by decide) rfl ?_
      refine hw_aloadn (aX4_readChoice 19 rfl) rfl ?_
      refine hw_aloadn (aX4_readChoice 20 rfl) rfl ?_
      refine hv_putr (r := some (r51)) (aX4_readChoice 21 rfl) wf_RX4_186 lt108 sh109 (by decide) (by first | exact Or.inl ⟨_, rfl⟩ | exact Or.inr ⟨_, rfl⟩) (Or.inl rfl) (fun FR144 u145 => ?_)
      obtain ⟨gp147, hg148⟩ : ∃ f, f = va_up gp134 r51 (n38) := ⟨_, rfl⟩
      have : gp147 r51 = n38 := by rw [hg148]; exact va_s
      have : gp147 n38 = gp134 n38 := by rw [hg148]; exact va_o (Nat.ne_of_gt lt55)
      obtain ⟨gw149, hg150⟩ : ∃ f, f = va_up gw136 n38 (gw136 n38 + gw136 r51) := ⟨_, rfl⟩
      have : gw149 n38 = gw136 n38 + gw136 r51 := by rw [hg150]; exact va_s
      have : gw149 r51 = gw136 r51 := by rw [hg150]; exact va_o (Nat.ne_of_lt lt55)
      have hk151 : ∀ c, c < n → gp147 c = gp c ∧ gw149 c = gw c ∧ gs138 c = gs c := fun c hc => by
        obtain ⟨k1, k2, k3⟩ := hk140 c hc
        exact ⟨by rw [hg148]; exact (va_o (show c ≠ r51 from Nat.ne_of_lt (Nat.lt_of_lt_of_le hc (Nat.le_trans (Nat.le_refl _) fq52)))).trans k1, by rw [hg150]; exact (va_o (show c ≠ n38 from Nat.ne_of_lt (Nat.lt_of_lt_of_le hc (ex41).1))).trans k2, k3⟩
      have hT146 : g_T n94 SH96 FI124 FR144 gp147 gw149 gs138 := by rw [hg148, hg150]; exact gT_link hS104 hT141 lt108 sh109 lt117 (by decide) (show FR99 n38 3 = none from (zR116 3)) (by rw [show FI124 n38 0 = x142 from h143]; omega) (by omega) (by omega) (Nat.ne_of_lt lt55) u145
      have hF152 : h_FR FR144 := hF_up hS104 hF105 u145 sh109 (by decide +kernel)
      have hR153 : g_R n94 SH96 FR144 := gR_up hR107 u145 sh109 (fun r e => by cases e; exact ⟨lt117, ow56, by rw [sh118]; rfl⟩) (fun _ r e => by cases e; exact (dyn_tag hS104 sh118 (by decide +kernel))) (fun _ => by simp) (fun h => absurd h.1 (ne_tag sh109 (s49 hS104) (by decide)))
      refine hw_aloadn (aX4_readChoice 22 rfl) rfl ?_
      refine hw_callV (Bs := []) (rest := []) (aX4_readChoice 23 rfl) wc_RX4_48 (by decide) rfl wi_yX4_take wv_yX4_take (c110 hS104) (s110 hS104) rfl rfl rfl (Nat.le_of_ble_eq_true rfl) (Nat.le_of_ble_eq_true rfl) (k_take2 (d := E + d + 20) hS104 hF152 hI126 hR153 (by have := congrArg Int32.toInt (show FI124 110 7 = x61 from ((f127 110 (7) (Nat.lt_of_lt_of_le (by decide : 110 < 176) dy110) (by simp) (by simp) (by simp)).trans (((eI111 110 (7) (Nat.ne_of_lt (c110 hS42))).trans ((gf_at f77 (c110 hS42) (shd_f (by decide) (s110 hS42)) rfl (h62))))))); have := congrArg Int32.toInt (show FI124 110 7 = x61 from ((f127 110 (7) (Nat.lt_of_lt_of_le (by decide : 110 < 176) dy110) (by simp) (by simp) (by simp)).trans (((eI111 110 (7) (Nat.ne_of_lt (c110 hS42))).trans ((gf_at f77 (c110 hS42) (shd_f (by decide) (s110 hS42)) rfl (h62))))))); have := congrArg Int32.toInt (show FI124 111 4 = x4 from ((f127 111 (4) (Nat.lt_of_lt_of_le (by decide : 111 < 176) dy110) (by simp) (by simp) (by simp)).trans (((eI111 111 (4) (Nat.ne_of_lt (c111 hS42))).trans ((gf_at f77 (c111 hS42) (shd_f (by decide) (s111 hS42)) rfl ((gf_at f21 (c111 hS) (shd_f (by decide) (s111 hS)) rfl (h5))))))))); omega) (by have := congrArg Int32.toInt (show FI124 110 5 = x89 from ((f127 110 (5) (Nat.lt_of_lt_of_le (by decide : 110 < 176) dy110) (by simp) (by simp) (by simp)).trans (((eI111 110 (5) (Nat.ne_of_lt (c110 hS42))).trans (h90))))); have := congrArg Int32.toInt (show FI124 110 8 = x91 from ((f127 110 (8) (Nat.lt_of_lt_of_le (by decide : 110 < 176) dy110) (by simp) (by simp) (by simp)).trans (((eI111 110 (8) (Nat.ne_of_lt (c110 hS42))).trans (h92))))); omega) (by have := congrArg Int32.toInt (show FI124 110 7 = x61 from ((f127 110 (7) (Nat.lt_of_lt_of_le (by decide : 110 < 176) dy110) (by simp) (by simp) (by simp)).trans (((eI111 110 (7) (Nat.ne_of_lt (c110 hS42))).trans ((gf_at f77 (c110 hS42) (shd_f (by decide) (s110 hS42)) rfl (h62))))))); have := congrArg Int32.toInt (show FI124 111 4 = x4 from ((f127 111 (4) (Nat.lt_of_lt_of_le (by decide : 111 < 176) dy110) (by simp) (by simp) (by simp)).trans (((eI111 111 (4) (Nat.ne_of_lt (c111 hS42))).trans ((gf_at f77 (c111 hS42) (shd_f (by decide) (s111 hS42)) rfl ((gf_at f21 (c111 hS) (shd_f (by decide) (s111 hS)) rfl (h5))))))))); have := congrArg Int32.toInt (show FI124 110 8 = x91 from ((f127 110 (8) (Nat.lt_of_lt_of_le (by decide : 110 < 176) dy110) (by simp) (by simp) (by simp)).trans (((eI111 110 (8) (Nat.ne_of_lt (c110 hS42))).trans (h92))))); omega) (gK_mv (L := [(110, 4), (110, 5), (110, 6), (110, 7), (110, 8)]) (A := []) (T := []) hS gg1 (gf_tr ⟨(ex41).1, ((ex_shd ex119)).2⟩ (gf_al (gf_tr (ex_shd ex41) (gf_tr ex_rf gf_rf f21 rfl rfl rfl) f77 rfl rfl rfl) (ex41).1 eI111) f127 rfl rfl rfl) (by decide))) (fun v154 sv155 p156 => ?_)
      have := congrArg Int32.toInt (show FI124 111 4 = x4 from ((f127 111 (4) (Nat.lt_of_lt_of_le (by decide : 111 < 176) dy110) (by simp) (by simp) (by simp)).trans (((eI111 111 (4) (Nat.ne_of_lt (c111 hS42))).trans ((gf_at f77 (c111 hS42) (shd_f (by decide) (s111 hS42)) rfl ((gf_at f21 (c111 hS) (shd_f (by decide) (s111 hS)) rfl (h5)))))))))
      have := congrArg Int32.toInt (show FI124 111 4 = x4 from ((f127 111 (4) (Nat.lt_of_lt_of_le (by decide : 111 < 176) dy110) (by simp) (by simp) (by simp)).trans (((eI111 111 (4) (Nat.ne_of_lt (c111 hS42))).trans ((gf_at f77 (c111 hS42) (shd_f (by decide) (s111 hS42)) rfl ((gf_at f21 (c111 hS) (shd_f (by decide) (s111 hS)) rfl (h5)))))))))
      have := congrArg Int32.toInt (show FI124 110 7 = x61 from ((f127 110 (7) (Nat.lt_of_lt_of_le (by decide : 110 < 176) dy110) (by simp) (by simp) (by simp)).trans (((eI111 110 (7) (Nat.ne_of_lt (c110 hS42))).trans ((gf_at f77 (c110 hS42) (shd_f (by decide) (s110 hS42)) rfl (h62)))))))
      have := congrArg Int32.toInt (show FI124 110 5 = x89 from ((f127 110 (5) (Nat.lt_of_lt_of_le (by decide : 110 < 176) dy110) (by simp) (by simp) (by simp)).trans (((eI111 110 (5) (Nat.ne_of_lt (c110 hS42))).trans (h90)))))
      have := congrArg Int32.toInt (show FI124 110 5 = x89 from ((f127 110 (5) (Nat.lt_of_lt_of_le (by decide : 110 < 176) dy110) (by simp) (by simp) (by simp)).trans (((eI111 110 (5) (Nat.ne_of_lt (c110 hS42))).trans (h90)))))
      have := congrArg Int32.toInt (show FI124 110 5 = x89 from ((f127 110 (5) (Nat.lt_of_lt_of_le (by decide : 110 < 176) dy110) (by simp) (by simp) (by simp)).trans (((eI111 110 (5) (Nat.ne_of_lt (c110 hS42))).trans (h90)))))
      have := congrArg Int32.toInt (show FI124 110 5 = x89 from ((f127 110 (5) (Nat.lt_of_lt_of_le (by decide : 110 < 176) dy110) (by simp) (by simp) (by simp)).trans (((eI111 110 (5) (Nat.ne_of_lt (c110 hS42))).trans (h90)))))
      have := congrArg Int32.toInt (show FI124 110 7 = x61 from ((f127 110 (7) (Nat.lt_of_lt_of_le (by decide : 110 < 176) dy110) (by simp) (by simp) (by simp)).trans (((eI111 110 (7) (Nat.ne_of_lt (c110 hS42))).trans ((gf_at f77 (c110 hS42) (shd_f (by decide) (s110 hS42)) rfl (h62)))))))
      have := congrArg Int32.toInt (show FI124 111 4 = x4 from ((f127 111 (4) (Nat.lt_of_lt_of_le (by decide : 111 < 176) dy110) (by simp) (by simp) (by simp)).trans (((eI111 111 (4) (Nat.ne_of_lt (c111 hS42))).trans ((gf_at f77 (c111 hS42) (shd_f (by decide) (s111 hS42)) rfl ((gf_at f21 (c111 hS) (shd_f (by decide) (s111 hS)) rfl (h5)))))))))
      have := congrArg Int32.toInt (show FI124 110 7 = x61 from ((f127 110 (7) (Nat.lt_of_lt_of_le (by decide : 110 < 176) dy110) (by simp) (by simp) (by simp)).trans (((eI111 110 (7) (Nat.ne_of_lt (c110 hS42))).trans ((gf_at f77 (c110 hS42) (shd_f (by decide) (s110 hS42)) rfl (h62)))))))
      have := congrArg Int32.toInt (show FI124 110 7 = x61 from ((f127 110 (7) (Nat.lt_of_lt_of_le (by decide : 110 < 176) dy110) (by simp) (by simp) (by simp)).trans (((eI111 110 (7) (Nat.ne_of_lt (c110 hS42))).trans ((gf_at f77 (c110 hS42) (shd_f (by decide) (s110 hS42)) rfl (h62)))))))
      have := congrArg Int32.toInt (show FI124 110 5 = x89 from ((f127 110 (5) (Nat.lt_of_lt_of_le (by decide : 110 < 176) dy110) (by simp) (by simp) (by simp)).trans (((eI111 110 (5) (Nat.ne_of_lt (c110 hS42))).trans (h90)))))
      have := congrArg Int32.toInt (show FI124 110 8 = x91 from ((f127 110 (8) (Nat.lt_of_lt_of_le (by decide : 110 < 176) dy110) (by simp) (by simp) (by simp)).trans (((eI111 110 (8) (Nat.ne_of_lt (c110 hS42))).trans (h92)))))
      obtain ⟨rfl, FI158, FL159, rfl, hI160, f161, f162, t165, t166, t167, t168, t169, t170, t171, t172, t173⟩ := p156
      replace t171 := (t171.resolve_left (by omega)).resolve_left (by omega)
      clear t27 t28 t169 t173
      have hT176 : g_T n94 SH96 FI158 FR144 gp147 gw149 gs138 := gT_mw (L := [(110, 7), (110, 8)]) (A := []) (T := []) (L2 := []) (A2 := []) (T2 := []) hS104 hT146 f161 gf_rf (by decide) (by decide)
      obtain ⟨x177, h178⟩ : ∃ y, FI158 110 7 = y := ⟨_, rfl⟩
      have h178l := congrArg Int32.toInt h178
      have b179 := gI_110_7 hI160; rw [h178] at b179
      obtain ⟨x180, h181⟩ : ∃ y, FI158 110 8 = y := ⟨_, rfl⟩
      have h181l := congrArg Int32.toInt h181
      have := i_rng x180
      show hw sk base _ _ _ _ _ [] _ _
      refine hw_aloadn (aX4_readChoice 24 rfl) rfl ?_
      refine hw_aloadn (aX4_readChoice 25 rfl) rfl ?_
      refine hw_callV (Bs := []) (rest := [.ref (base + n38)]) (aX4_readChoice 26 rfl) wc_RX4_150 (by decide) rfl wi_yX4_readChoice wv_yX4_readChoice (c110 hS104) (s110 hS104) rfl rfl rfl (Nat.le_of_ble_eq_true rfl) (Nat.le_of_ble_eq_true rfl) (ihC _ (d + 9) _ _ _ _ _ _ hS104 hF152 hI160 hR153 (gp147) (gw149) (gs138) (by have := congrArg Int32.toInt (show FI158 110 7 = x177 from h178); have := congrArg Int32.toInt (show FI158 110 7 = x177 from h178); have := congrArg Int32.toInt (show FI158 111 4 = x4 from (gf_at f161 (c111 hS104) (shd_f (by decide) (s111 hS104)) rfl (((f127 111 (4) (Nat.lt_of_lt_of_le (by decide : 111 < 176) dy110) (by simp) (by simp) (by simp)).trans (((eI111 111 (4) (Nat.ne_of_lt (c111 hS42))).trans ((gf_at f77 (c111 hS42) (shd_f (by decide) (s111 hS42)) rfl ((gf_at f21 (c111 hS) (shd_f (by decide) (s111 hS)) rfl (h5))))))))))); omega) (by have := congrArg Int32.toInt (show FI158 110 5 = x89 from (gf_at f161 (c110 hS104) (shd_f (by decide) (s110 hS104)) rfl (((f127 110 (5) (Nat.lt_of_lt_of_le (by decide : 110 < 176) dy110) (by simp) (by simp) (by simp)).trans (((eI111 110 (5) (Nat.ne_of_lt (c110 hS42))).trans (h90))))))); have := congrArg Int32.toInt (show FI158 110 8 = x180 from h181); omega) (by have := congrArg Int32.toInt (show FI158 110 7 = x177 from h178); have := congrArg Int32.toInt (show FI158 111 4 = x4 from (gf_at f161 (c111 hS104) (shd_f (by decide) (s111 hS104)) rfl (((f127 111 (4) (Nat.lt_of_lt_of_le (by decide : 111 < 176) dy110) (by simp) (by simp) (by simp)).trans (((eI111 111 (4) (Nat.ne_of_lt (c111 hS42))).trans ((gf_at f77 (c111 hS42) (shd_f (by decide) (s111 hS42)) rfl ((gf_at f21 (c111 hS) (shd_f (by decide) (s111 hS)) rfl (h5))))))))))); have := congrArg Int32.toInt (show FI158 110 8 = x180 from h181); omega) (by have := congrArg Int32.toInt (show FI158 110 5 = x89 from (gf_at f161 (c110 hS104) (shd_f (by decide) (s110 hS104)) rfl (((f127 110 (5) (Nat.lt_of_lt_of_le (by decide : 110 < 176) dy110) (by simp) (by simp) (by simp)).trans (((eI111 110 (5) (Nat.ne_of_lt (c110 hS42))).trans (h90))))))); have := congrArg Int32.toInt (show FI158 110 4 = x87 from (gf_at f161 (c110 hS104) (shd_f (by decide) (s110 hS104)) rfl (((f127 110 (4) (Nat.lt_of_lt_of_le (by decide : 110 < 176) dy110) (by simp) (by simp) (by simp)).trans (((eI111 110 (4) (Nat.ne_of_lt (c110 hS42))).trans (h88))))))); omega) (by have := congrArg Int32.toInt (show FI158 110 5 = x89 from (gf_at f161 (c110 hS104) (shd_f (by decide) (s110 hS104)) rfl (((f127 110 (5) (Nat.lt_of_lt_of_le (by decide : 110 < 176) dy110) (by simp) (by simp) (by simp)).trans (((eI111 110 (5) (Nat.ne_of_lt (c110 hS42))).trans (h90))))))); have := congrArg Int32.toInt (show FI158 110 4 = x87 from (gf_at f161 (c110 hS104) (shd_f (by decide) (s110 hS104)) rfl (((f127 110 (4) (Nat.lt_of_lt_of_le (by decide : 110 < 176) dy110) (by simp) (by simp) (by simp)).trans (((eI111 110 (4) (Nat.ne_of_lt (c110 hS42))).trans (h88))))))); omega) (hT176) (gK_mv (L := [(110, 4), (110, 5), (110, 6), (110, 7), (110, 8)]) (A := []) (T := []) hS gg1 (gf_tr (ex_shd ex119) (gf_tr ⟨(ex41).1, ((ex_shd ex119)).2⟩ (gf_al (gf_tr (ex_shd ex41) (gf_tr ex_rf gf_rf f21 rfl rfl rfl) f77 rfl rfl rfl) (ex41).1 eI111) f127 rfl rfl rfl) f161 rfl rfl rfl) (by decide))) (fun v182 sv183 p184 => ?_)
      have := congrArg Int32.toInt (show FI158 111 4 = x4 from (gf_at f161 (c111 hS104) (shd_f (by decide) (s111 hS104)) rfl (((f127 111 (4) (Nat.lt_of_lt_of_le (by decide : 111 < 176) dy110) (by simp) (by simp) (by simp)).trans (((eI111 111 (4) (Nat.ne_of_lt (c111 hS42))).trans ((gf_at f77 (c111 hS42) (shd_f (by decide) (s111 hS42)) rfl ((gf_at f21 (c111 hS) (shd_f (by decide) (s111 hS)) rfl (h5)))))))))))
      have := congrArg Int32.toInt (show FI158 111 4 = x4 from (gf_at f161 (c111 hS104) (shd_f (by decide) (s111 hS104)) rfl (((f127 111 (4) (Nat.lt_of_lt_of_le (by decide : 111 < 176) dy110) (by simp) (by simp) (by simp)).trans (((eI111 111 (4) (Nat.ne_of_lt (c111 hS42))).trans ((gf_at f77 (c111 hS42) (shd_f (by decide) (s111 hS42)) rfl ((gf_at f21 (c111 hS) (shd_f (by decide) (s111 hS)) rfl (h5)))))))))))
      have := congrArg Int32.toInt (show FI158 110 7 = x177 from h178)
      have := congrArg Int32.toInt (show FI158 110 5 = x89 from (gf_at f161 (c110 hS104) (shd_f (by decide) (s110 hS104)) rfl (((f127 110 (5) (Nat.lt_of_lt_of_le (by decide : 110 < 176) dy110) (by simp) (by simp) (by simp)).trans (((eI111 110 (5) (Nat.ne_of_lt (c110 hS42))).trans (h90)))))))
      have := congrArg Int32.toInt (show FI158 110 5 = x89 from (gf_at f161 (c110 hS104) (shd_f (by decide) (s110 hS104)) rfl (((f127 110 (5) (Nat.lt_of_lt_of_le (by decide : 110 < 176) dy110) (by simp) (by simp) (by simp)).trans (((eI111 110 (5) (Nat.ne_of_lt (c110 hS42))).trans (h90)))))))
      have := congrArg Int32.toInt (show FI158 110 4 = x87 from (gf_at f161 (c110 hS104) (shd_f (by decide) (s110 hS104)) rfl (((f127 110 (4) (Nat.lt_of_lt_of_le (by decide : 110 < 176) dy110) (by simp) (by simp) (by simp)).trans (((eI111 110 (4) (Nat.ne_of_lt (c110 hS42))).trans (h88)))))))
      have := congrArg Int32.toInt (show FI158 110 7 = x177 from h178)
      obtain ⟨r185, rfl, n207, sl208, SH209, FI186, FL187, FR188, rfl, ex210, hS211, hI189, f190, f191, f192, hF193, hR194, t195, t196, t197, t198, t199, t200, t201, t202, t203, u204, ht205, nn206, hfr212⟩ := p184
      clear t166 t167 t199
      obtain ⟨gp213, gw214, gs215, hT216, hkp217, hq218⟩ := u204
      obtain ⟨e219, e220, e221⟩ := hkp217 n38 lt108
      obtain ⟨e222, e223, e224⟩ := hkp217 r51 lt117
      have hk225 : ∀ c, c < n → gp213 c = gp c ∧ gw214 c = gw c ∧ gs215 c = gs c := fun c hc => by obtain ⟨k1, k2, k3⟩ := hk151 c hc; obtain ⟨m1, m2, m3⟩ := hkp217 c (Nat.lt_of_lt_of_le hc (ex119).1); exact ⟨m1.trans k1, m2.trans k2, m3.trans k3⟩
      have lt226 := ex_lt ex210 lt108
      have sh227 := ex_sh ex210 lt108 sh109
      have lt228 := ex_lt ex210 lt117
      have sh229 := ex_sh ex210 lt117 sh118
      have ex230 := ex_tr ex119 ex210
      obtain ⟨r231, rfl⟩ : ∃ q, r185 = some q := Option.ne_none_iff_exists'.mp nn206
      have fq232 := hfr212 r231 rfl
      have dq233 : 176 ≤ r231 := Nat.le_trans hS104.1 fq232
      obtain ⟨lt235, ow236, sh237⟩ := ht205 r231 rfl
      obtain ⟨e238, e239, e240⟩ := hq218 r231 rfl
      obtain ⟨x241, h242⟩ : ∃ y, FI186 110 7 = y := ⟨_, rfl⟩
      have h242l := congrArg Int32.toInt h242
      have b243 := gI_110_7 hI189; rw [h242] at b243
      obtain ⟨x244, h245⟩ : ∃ y, FI186 110 5 = y := ⟨_, rfl⟩
      have h245l := congrArg Int32.toInt h245
      have := i_rng x244
      obtain ⟨x246, h247⟩ : ∃ y, FI186 110 8 = y := ⟨_, rfl⟩
      have h247l := congrArg Int32.toInt h247
      have := i_rng x246
      obtain ⟨x248, h249⟩ : ∃ y, FI186 110 4 = y := ⟨_, rfl⟩
      have h249l := congrArg Int32.toInt h249
      have := i_rng x248
      show hw sk base _ _ _ _ _ [.ref (base + r231), .ref (base + n38)] _ _
      refine hv_putr (r := some (r231)) (aX4_readChoice 27 rfl) wf_RX4_189 lt226 sh227 (by decide) (by first | exact Or.inl ⟨_, rfl⟩ | exact Or.inr ⟨_, rfl⟩) (Or.inl rfl) (fun FR250 u251 => ?_)
      obtain ⟨gp253, hg254⟩ : ∃ f, f = va_up gp213 r231 (n38) := ⟨_, rfl⟩
      have : gp253 r231 = n38 := by rw [hg254]; exact va_s
      have : gp253 n38 = gp213 n38 := by rw [hg254]; exact va_o (Nat.ne_of_lt (Nat.lt_of_lt_of_le lt108 fq232))
      have : gp253 r51 = gp213 r51 := by rw [hg254]; exact va_o (Nat.ne_of_lt (Nat.lt_of_lt_of_le lt117 fq232))
      obtain ⟨gw255, hg256⟩ : ∃ f, f = va_up gw214 n38 (gw214 n38 + gw214 r231) := ⟨_, rfl⟩
      have : gw255 n38 = gw214 n38 + gw214 r231 := by rw [hg256]; exact va_s
      have : gw255 r231 = gw214 r231 := by rw [hg256]; exact va_o (Nat.ne_of_gt (Nat.lt_of_lt_of_le lt108 fq232))
      have : gw255 r51 = gw214 r51 := by rw [hg256]; exact va_o (Nat.ne_of_lt lt55)
      have hk257 : ∀ c, c < n → gp253 c = gp c ∧ gw255 c = gw c ∧ gs215 c = gs c := fun c hc => by
        obtain ⟨k1, k2, k3⟩ := hk225 c hc
        exact ⟨by rw [hg254]; exact (va_o (show c ≠ r231 from Nat.ne_of_lt (Nat.lt_of_lt_of_le hc (Nat.le_trans (ex119).1 fq232)))).trans k1, by rw [hg256]; exact (va_o (show c ≠ n38 from Nat.ne_of_lt (Nat.lt_of_lt_of_le hc (ex41).1))).trans k2, k3⟩
      have hT252 : g_T n207 SH209 FI186 FR250 gp253 gw255 gs215 := by rw [hg254, hg256]; exact gT_link hS211 hT216 lt226 sh227 lt235 (by decide) (show FR188 n38 4 = none from (gf_at f192 lt108 (shd_d (dyn_tag hS104 sh109 (by decide +kernel)) sh109) rfl ((up_k u145 (by decide) ((zR116 4)))))) (by rw [show FI186 n38 0 = x142 from (gf_as hS104 f190 lt108 sh109 (shd_d (dyn_tag hS104 sh109 (by decide +kernel)) sh109) (by decide +kernel) ((gf_as hS104 f161 lt108 sh109 (shd_d (dyn_tag hS104 sh109 (by decide +kernel)) sh109) (by decide +kernel) (h143))))]; omega) (by omega) (by omega) (Nat.ne_of_gt (Nat.lt_of_lt_of_le lt108 fq232)) u251
      have hF258 : h_FR FR250 := hF_up hS211 hF193 u251 sh227 (by decide +kernel)
      have hR259 : g_R n207 SH209 FR250 := gR_up hR194 u251 sh227 (fun r e => by cases e; exact ⟨lt235, ow236, by rw [sh237]; rfl⟩) (fun _ r e => by cases e; exact (dyn_tag hS211 sh237 (by decide +kernel))) (fun _ => by simp) (fun h => absurd h.1 (ne_tag sh227 (s49 hS211) (by decide)))
      refine hw_aloadn (aX4_readChoice 28 rfl) rfl ?_
      refine hw_bp (v := (58 : Int32)) (aX4_readChoice 29 rfl) (by decide) ?_
      refine hw_callV (Bs := [.int ((58 : Int32))]) (rest := []) (aX4_readChoice 30 rfl) wc_RX4_83 (by decide) rfl wi_yX4_expect wv_yX4_expect (c110 hS211) (s110 hS211) rfl rfl rfl (Nat.le_of_ble_eq_true rfl) (Nat.le_of_ble_eq_true rfl) (k_expect2 (d := E + d + 19) hS211 hF258 hI189 hR259 ((58 : Int32)) (by have := congrArg Int32.toInt (show FI186 110 7 = x241 from h242); have := congrArg Int32.toInt (show FI186 110 7 = x241 from h242); have := congrArg Int32.toInt (show FI186 111 4 = x4 from (gf_at f190 (c111 hS104) (shd_f (by decide) (s111 hS104)) rfl ((gf_at f161 (c111 hS104) (shd_f (by decide) (s111 hS104)) rfl (((f127 111 (4) (Nat.lt_of_lt_of_le (by decide : 111 < 176) dy110) (by simp) (by simp) (by simp)).trans (((eI111 111 (4) (Nat.ne_of_lt (c111 hS42))).trans ((gf_at f77 (c111 hS42) (shd_f (by decide) (s111 hS42)) rfl ((gf_at f21 (c111 hS) (shd_f (by decide) (s111 hS)) rfl (h5))))))))))))); omega) (by have := congrArg Int32.toInt (show FI186 110 5 = x244 from h245); have := congrArg Int32.toInt (show FI186 110 8 = x246 from h247); omega) (by have := congrArg Int32.toInt (show FI186 110 7 = x241 from h242); have := congrArg Int32.toInt (show FI186 111 4 = x4 from (gf_at f190 (c111 hS104) (shd_f (by decide) (s111 hS104)) rfl ((gf_at f161 (c111 hS104) (shd_f (by decide) (s111 hS104)) rfl (((f127 111 (4) (Nat.lt_of_lt_of_le (by decide : 111 < 176) dy110) (by simp) (by simp) (by simp)).trans (((eI111 111 (4) (Nat.ne_of_lt (c111 hS42))).trans ((gf_at f77 (c111 hS42) (shd_f (by decide) (s111 hS42)) rfl ((gf_at f21 (c111 hS) (shd_f (by decide) (s111 hS)) rfl (h5))))))))))))); have := congrArg Int32.toInt (show FI186 110 8 = x246 from h247); omega) (gK_mv (L := [(110, 4), (110, 5), (110, 6), (110, 7), (110, 8)]) (A := []) (T := []) hS gg1 (gf_tr (ex_shd ex119) (gf_tr (ex_shd ex119) (gf_tr ⟨(ex41).1, ((ex_shd ex119)).2⟩ (gf_al (gf_tr (ex_shd ex41) (gf_tr ex_rf gf_rf f21 rfl rfl rfl) f77 rfl rfl rfl) (ex41).1 eI111) f127 rfl rfl rfl) f161 rfl rfl rfl) f190 rfl rfl rfl) (by decide))) (fun v260 sv261 p262 => ?_)
      have := congrArg Int32.toInt (show FI186 111 4 = x4 from (gf_at f190 (c111 hS104) (shd_f (by decide) (s111 hS104)) rfl ((gf_at f161 (c111 hS104) (shd_f (by decide) (s111 hS104)) rfl (((f127 111 (4) (Nat.lt_of_lt_of_le (by decide : 111 < 176) dy110) (by simp) (by simp) (by simp)).trans (((eI111 111 (4) (Nat.ne_of_lt (c111 hS42))).trans ((gf_at f77 (c111 hS42) (shd_f (by decide) (s111 hS42)) rfl ((gf_at f21 (c111 hS) (shd_f (by decide) (s111 hS)) rfl (h5)))))))))))))
      have := congrArg Int32.toInt (show FI186 111 4 = x4 from (gf_at f190 (c111 hS104) (shd_f (by decide) (s111 hS104)) rfl ((gf_at f161 (c111 hS104) (shd_f (by decide) (s111 hS104)) rfl (((f127 111 (4) (Nat.lt_of_lt_of_le (by decide : 111 < 176) dy110) (by simp) (by simp) (by simp)).trans (((eI111 111 (4) (Nat.ne_of_lt (c111 hS42))).trans ((gf_at f77 (c111 hS42) (shd_f (by decide) (s111 hS42)) rfl ((gf_at f21 (c111 hS) (shd_f (by decide) (s111 hS)) rfl (h5)))))))))))))
      have := congrArg Int32.toInt (show FI186 110 7 = x241 from h242)
      have := congrArg Int32.toInt (show FI186 110 5 = x244 from h245)
      have := congrArg Int32.toInt (show FI186 110 5 = x244 from h245)
      obtain ⟨rfl, FI264, FL265, rfl, hI266, f267, f268, t271, t272, t273, t274, t275⟩ := p262
      clear t196 t197
      have hT278 : g_T n207 SH209 FI264 FR250 gp253 gw255 gs215 := gT_mw (L := [(110, 5), (110, 6), (110, 7), (110, 8)]) (A := []) (T := []) (L2 := []) (A2 := []) (T2 := []) hS211 hT252 f267 gf_rf (by decide) (by decide)
      obtain ⟨x279, h280⟩ : ∃ y, FI264 110 7 = y := ⟨_, rfl⟩
      have h280l := congrArg Int32.toInt h280
      have b281 := gI_110_7 hI266; rw [h280] at b281
      obtain ⟨x282, h283⟩ : ∃ y, FI264 110 5 = y := ⟨_, rfl⟩
      have h283l := congrArg Int32.toInt h283
      have := i_rng x282
      obtain ⟨x284, h285⟩ : ∃ y, FI264 110 8 = y := ⟨_, rfl⟩
      have h285l := congrArg Int32.toInt h285
      have := i_rng x284
      show hw sk base _ _ _ _ _ [] _ _
      refine hw_aloadn (aX4_readChoice 31 rfl) rfl ?_
      refine hw_aloadn (aX4_readChoice 32 rfl) rfl ?_
      refine hw_callV (Bs := []) (rest := [.ref (base + n38)]) (aX4_readChoice 33 rfl) wc_RX4_150 (by decide) rfl wi_yX4_readChoice wv_yX4_readChoice (c110 hS211) (s110 hS211) rfl rfl rfl (Nat.le_of_ble_eq_true rfl) (Nat.le_of_ble_eq_true rfl) (ihC _ (d + 9) _ _ _ _ _ _ hS211 hF258 hI266 hR259 (gp253) (gw255) (gs215) (by have := congrArg Int32.toInt (show FI264 110 7 = x279 from h280); have := congrArg Int32.toInt (show FI264 110 7 = x279 from h280); have := congrArg Int32.toInt (show FI264 111 4 = x4 from (gf_at f267 (c111 hS211) (shd_f (by decide) (s111 hS211)) rfl ((gf_at f190 (c111 hS104) (shd_f (by decide) (s111 hS104)) rfl ((gf_at f161 (c111 hS104) (shd_f (by decide) (s111 hS104)) rfl (((f127 111 (4) (Nat.lt_of_lt_of_le (by decide : 111 < 176) dy110) (by simp) (by simp) (by simp)).trans (((eI111 111 (4) (Nat.ne_of_lt (c111 hS42))).trans ((gf_at f77 (c111 hS42) (shd_f (by decide) (s111 hS42)) rfl ((gf_at f21 (c111 hS) (shd_f (by decide) (s111 hS)) rfl (h5))))))))))))))); omega) (by have := congrArg Int32.toInt (show FI264 110 5 = x282 from h283); have := congrArg Int32.toInt (show FI264 110 8 = x284 from h285); omega) (by have := congrArg Int32.toInt (show FI264 110 7 = x279 from h280); have := congrArg Int32.toInt (show FI264 111 4 = x4 from (gf_at f267 (c111 hS211) (shd_f (by decide) (s111 hS211)) rfl ((gf_at f190 (c111 hS104) (shd_f (by decide) (s111 hS104)) rfl ((gf_at f161 (c111 hS104) (shd_f (by decide) (s111 hS104)) rfl (((f127 111 (4) (Nat.lt_of_lt_of_le (by decide : 111 < 176) dy110) (by simp) (by simp) (by simp)).trans (((eI111 111 (4) (Nat.ne_of_lt (c111 hS42))).trans ((gf_at f77 (c111 hS42) (shd_f (by decide) (s111 hS42)) rfl ((gf_at f21 (c111 hS) (shd_f (by decide) (s111 hS)) rfl (h5))))))))))))))); have := congrArg Int32.toInt (show FI264 110 8 = x284 from h285); omega) (by have := congrArg Int32.toInt (show FI264 110 5 = x282 from h283); have := congrArg Int32.toInt (show FI264 110 4 = x248 from (gf_at f267 (c110 hS211) (shd_f (by decide) (s110 hS211)) rfl (h249))); omega) (by have := congrArg Int32.toInt (show FI264 110 5 = x282 from h283); have := congrArg Int32.toInt (show FI264 110 4 = x248 from (gf_at f267 (c110 hS211) (shd_f (by decide) (s110 hS211)) rfl (h249))); omega) (hT278) (gK_mv (L := [(110, 4), (110, 5), (110, 6), (110, 7), (110, 8)]) (A := []) (T := []) hS gg1 (gf_tr (ex_shd ex230) (gf_tr (ex_shd ex119) (gf_tr (ex_shd ex119) (gf_tr ⟨(ex41).1, ((ex_shd ex119)).2⟩ (gf_al (gf_tr (ex_shd ex41) (gf_tr ex_rf gf_rf f21 rfl rfl rfl) f77 rfl rfl rfl) (ex41).1 eI111) f127 rfl rfl rfl) f161 rfl rfl rfl) f190 rfl rfl rfl) f267 rfl rfl rfl) (by decide))) (fun v286 sv287 p288 => ?_)
      have := congrArg Int32.toInt (show FI264 111 4 = x4 from (gf_at f267 (c111 hS211) (shd_f (by decide) (s111 hS211)) rfl ((gf_at f190 (c111 hS104) (shd_f (by decide) (s111 hS104)) rfl ((gf_at f161 (c111 hS104) (shd_f (by decide) (s111 hS104)) rfl (((f127 111 (4) (Nat.lt_of_lt_of_le (by decide : 111 < 176) dy110) (by simp) (by simp) (by simp)).trans (((eI111 111 (4) (Nat.ne_of_lt (c111 hS42))).trans ((gf_at f77 (c111 hS42) (shd_f (by decide) (s111 hS42)) rfl ((gf_at f21 (c111 hS) (shd_f (by decide) (s111 hS)) rfl (h5)))))))))))))))
      have := congrArg Int32.toInt (show FI264 111 4 = x4 from (gf_at f267 (c111 hS211) (shd_f (by decide) (s111 hS211)) rfl ((gf_at f190 (c111 hS104) (shd_f (by decide) (s111 hS104)) rfl ((gf_at f161 (c111 hS104) (shd_f (by decide) (s111 hS104)) rfl (((f127 111 (4) (Nat.lt_of_lt_of_le (by decide : 111 < 176) dy110) (by simp) (by simp) (by simp)).trans (((eI111 111 (4) (Nat.ne_of_lt (c111 hS42))).trans ((gf_at f77 (c111 hS42) (shd_f (by decide) (s111 hS42)) rfl ((gf_at f21 (c111 hS) (shd_f (by decide) (s111 hS)) rfl (h5)))))))))))))))
      have := congrArg Int32.toInt (show FI264 110 7 = x279 from h280)
      have := congrArg Int32.toInt (show FI264 110 5 = x282 from h283)
      have := congrArg Int32.toInt (show FI264 110 5 = x282 from h283)
      have := congrArg Int32.toInt (show FI264 110 4 = x248 from (gf_at f267 (c110 hS211) (shd_f (by decide) (s110 hS211)) rfl (h249)))
      have := congrArg Int32.toInt (show FI264 110 7 = x279 from h280)
      obtain ⟨r289, rfl, n311, sl312, SH313, FI290, FL291, FR292, rfl, ex314, hS315, hI293, f294, f295, f296, hF297, hR298, t299, t300, t301, t302, t303, t304, t305, t306, t307, u308, ht309, nn310, hfr316⟩ := p288
      clear t272 t273
      obtain ⟨gp317, gw318, gs319, hT320, hkp321, hq322⟩ := u308
      obtain ⟨e323, e324, e325⟩ := hkp321 n38 lt226
      obtain ⟨e326, e327, e328⟩ := hkp321 r231 lt235
      obtain ⟨e329, e330, e331⟩ := hkp321 r51 lt228
      have hk332 : ∀ c, c < n → gp317 c = gp c ∧ gw318 c = gw c ∧ gs319 c = gs c := fun c hc => by obtain ⟨k1, k2, k3⟩ := hk257 c hc; obtain ⟨m1, m2, m3⟩ := hkp321 c (Nat.lt_of_lt_of_le hc (ex230).1); exact ⟨m1.trans k1, m2.trans k2, m3.trans k3⟩
      have lt333 := ex_lt ex314 lt226
      have sh334 := ex_sh ex314 lt226 sh227
      have lt335 := ex_lt ex314 lt235
      have sh336 := ex_sh ex314 lt235 sh237
      have lt337 := ex_lt ex314 lt228
      have sh338 := ex_sh ex314 lt228 sh229
      have ex339 := ex_tr ex230 ex314
      obtain ⟨r340, rfl⟩ : ∃ q, r289 = some q := Option.ne_none_iff_exists'.mp nn310
      have fq341 := hfr316 r340 rfl
      have dq342 : 176 ≤ r340 := Nat.le_trans hS211.1 fq341
      obtain ⟨lt344, ow345, sh346⟩ := ht309 r340 rfl
      obtain ⟨e347, e348, e349⟩ := hq322 r340 rfl
      obtain ⟨x350, h351⟩ : ∃ y, FI290 110 7 = y := ⟨_, rfl⟩
      have h351l := congrArg Int32.toInt h351
      have b352 := gI_110_7 hI293; rw [h351] at b352
      obtain ⟨x353, h354⟩ : ∃ y, FI290 110 5 = y := ⟨_, rfl⟩
      have h354l := congrArg Int32.toInt h354
      have := i_rng x353
      obtain ⟨x355, h356⟩ : ∃ y, FI290 110 8 = y := ⟨_, rfl⟩
      have h356l := congrArg Int32.toInt h356
      have := i_rng x355
      obtain ⟨x357, h358⟩ : ∃ y, FI290 110 4 = y := ⟨_, rfl⟩
      have h358l := congrArg Int32.toInt h358
      have := i_rng x357
      show hw sk base _ _ _ _ _ [.ref (base + r340), .ref (base + n38)] _ _
      refine hv_putr (r := some (r340)) (aX4_readChoice 34 rfl) wf_RX4_192 lt333 sh334 (by decide) (by first | exact Or.inl ⟨_, rfl⟩ | exact Or.inr ⟨_, rfl⟩) (Or.inl rfl) (fun FR359 u360 => ?_)
      obtain ⟨gp362, hg363⟩ : ∃ f, f = va_up gp317 r340 (n38) := ⟨_, rfl⟩
      have : gp362 r340 = n38 := by rw [hg363]; exact va_s
      have : gp362 n38 = gp317 n38 := by rw [hg363]; exact va_o (Nat.ne_of_lt (Nat.lt_of_lt_of_le lt226 fq341))
      have : gp362 r231 = gp317 r231 := by rw [hg363]; exact va_o (Nat.ne_of_lt (Nat.lt_of_lt_of_le lt235 fq341))
      have : gp362 r51 = gp317 r51 := by rw [hg363]; exact va_o (Nat.ne_of_lt (Nat.lt_of_lt_of_le lt228 fq341))
      obtain ⟨gw364, hg365⟩ : ∃ f, f = va_up gw318 n38 (gw318 n38 + gw318 r340) := ⟨_, rfl⟩
      have : gw364 n38 = gw318 n38 + gw318 r340 := by rw [hg365]; exact va_s
      have : gw364 r231 = gw318 r231 := by rw [hg365]; exact va_o (Nat.ne_of_gt (Nat.lt_of_lt_of_le lt108 fq232))
      have : gw364 r340 = gw318 r340 := by rw [hg365]; exact va_o (Nat.ne_of_gt (Nat.lt_of_lt_of_le lt226 fq341))
      have : gw364 r51 = gw318 r51 := by rw [hg365]; exact va_o (Nat.ne_of_lt lt55)
      have hk366 : ∀ c, c < n → gp362 c = gp c ∧ gw364 c = gw c ∧ gs319 c = gs c := fun c hc => by
        obtain ⟨k1, k2, k3⟩ := hk332 c hc
        exact ⟨by rw [hg363]; exact (va_o (show c ≠ r340 from Nat.ne_of_lt (Nat.lt_of_lt_of_le hc (Nat.le_trans (ex230).1 fq341)))).trans k1, by rw [hg365]; exact (va_o (show c ≠ n38 from Nat.ne_of_lt (Nat.lt_of_lt_of_le hc (ex41).1))).trans k2, k3⟩
      have hT361 : g_T n311 SH313 FI290 FR359 gp362 gw364 gs319 := by rw [hg363, hg365]; exact gT_link hS315 hT320 lt333 sh334 lt344 (by decide) (show FR292 n38 5 = none from (gf_at f296 lt226 (shd_d (dyn_tag hS211 sh227 (by decide +kernel)) sh227) rfl ((up_k u251 (by decide) ((gf_at f192 lt108 (shd_d (dyn_tag hS104 sh109 (by decide +kernel)) sh109) rfl ((up_k u145 (by decide) ((zR116 5)))))))))) (by rw [show FI290 n38 0 = x142 from (gf_as hS211 f294 lt226 sh227 (shd_d (dyn_tag hS211 sh227 (by decide +kernel)) sh227) (by decide +kernel) ((gf_as hS211 f267 lt226 sh227 (shd_d (dyn_tag hS211 sh227 (by decide +kernel)) sh227) (by decide +kernel) ((gf_as hS104 f190 lt108 sh109 (shd_d (dyn_tag hS104 sh109 (by decide +kernel)) sh109) (by decide +kernel) ((gf_as hS104 f161 lt108 sh109 (shd_d (dyn_tag hS104 sh109 (by decide +kernel)) sh109) (by decide +kernel) (h143))))))))]; omega) (by omega) (by omega) (Nat.ne_of_gt (Nat.lt_of_lt_of_le lt226 fq341)) u360
      have hF367 : h_FR FR359 := hF_up hS315 hF297 u360 sh334 (by decide +kernel)
      have hR368 : g_R n311 SH313 FR359 := gR_up hR298 u360 sh334 (fun r e => by cases e; exact ⟨lt344, ow345, by rw [sh346]; rfl⟩) (fun _ r e => by cases e; exact (dyn_tag hS315 sh346 (by decide +kernel))) (fun _ => by simp) (fun h => absurd h.1 (ne_tag sh334 (s49 hS315) (by decide)))
      refine hw_aloadn (aX4_readChoice 35 rfl) rfl ?_
      refine xw_dup (aX4_readChoice 36 rfl) rfl ?_
      refine hw_get (v := .int (x357)) (aX4_readChoice 37 rfl) wf_RX4_36 (c110 hS315) (s110 hS315) (by decide) (congrArg Value.int (show FI290 110 4 = x357 from h358)) ?_
      refine hw_ic (v := (1 : Int32)) (aX4_readChoice 38 rfl) (by decide) ?_
      refine xw_isub (aX4_readChoice 39 rfl) ?_
      have := i_rng ((x357) - ((1 : Int32)))
      have : (x353).toInt ≠ 0 ∨ (((x357) - ((1 : Int32)))).toInt = (x357).toInt - 1 := by { by_cases h9 : (x353).toInt = 0; { right; exact i_sub (rfl : (x357).toInt = (x357).toInt) (by decide : (1 : Int32).toInt = 1) (by omega) (by omega) }; { left; exact h9 } }
      refine hv_puti (aX4_readChoice 40 rfl) wf_RX4_36 (c110 hS315) (s110 hS315) (by decide) rfl rfl (fun FI369 u370 => ?_)
      have hT371 : g_T n311 SH313 FI369 FR359 gp362 gw364 gs319 := gT_wi hT361 (fun h => absurd h (by rw [(s110 hS315)]; decide)) u370
      have hI372 : g_I FI369 := gU_F hI293 u370 rfl
      refine hw_aloadn (aX4_readChoice 41 rfl) rfl ?_
      refine xw_aret (v := h_rf base (some (n38))) (aX4_readChoice 42 rfl) rfl (by first | exact Or.inl ⟨_, rfl⟩ | exact Or.inr ⟨_, rfl⟩) ?_
      exact ⟨some (n38), rfl, n311, sl312, SH313, FI369, FL291, FR359, rfl, ex339, hS315, hI372, (gf_f (gf_tr (ex_shd ex230) (gf_tr (ex_shd ex230) (gf_tr (ex_shd ex119) (gf_tr (ex_shd ex119) (gf_tr ⟨(ex41).1, ((ex_shd ex119)).2⟩ (gf_al (gf_tr (ex_shd ex41) (gf_tr ex_rf gf_rf f21 rfl rfl rfl) f77 rfl rfl rfl) (ex41).1 eI111) f127 rfl rfl rfl) f161 rfl rfl rfl) f190 rfl rfl rfl) f267 rfl rfl rfl) f294 rfl rfl rfl) u370 (by decide)), (gf_tr (ex_shd ex230) (gf_tr (ex_shd ex230) (gf_tr (ex_shd ex119) (gf_tr (ex_shd ex119) (gf_tr ⟨(ex41).1, ((ex_shd ex119)).2⟩ (gf_al (gf_tr ex_rf gf_rf f22 rfl rfl rfl) (ex41).1 eL112) f128 rfl rfl rfl) f162 rfl rfl rfl) f191 rfl rfl rfl) f268 rfl rfl rfl) f295 rfl rfl rfl), (gf_n (gf_tr (ex_shd ex230) (gf_n (gf_tr (ex_shd ex119) (gf_n (gf_al (gf_tr ex_rf gf_rf f23 rfl rfl rfl) (ex41).1 eR113) u145 (ex41).1) f192 rfl rfl rfl) u251 (ex41).1) f296 rfl rfl rfl) u360 (ex41).1), hF367, hR368, (by have := congrArg Int32.toInt (show FI369 110 7 = x350 from (up_k u370 (by decide) (h351))); omega), (by have := congrArg Int32.toInt (show FI369 110 5 = x353 from (up_k u370 (by decide) (h354))); have := congrArg Int32.toInt (show FI369 110 8 = x355 from (up_k u370 (by decide) (h356))); omega), (by have := congrArg Int32.toInt (show FI369 110 7 = x350 from (up_k u370 (by decide) (h351))); have := congrArg Int32.toInt (show FI369 110 8 = x355 from (up_k u370 (by decide) (h356))); omega), (by have := congrArg Int32.toInt (show FI369 110 7 = x350 from (up_k u370 (by decide) (h351))); omega), (by have := congrArg Int32.toInt (show FI369 110 5 = x353 from (up_k u370 (by decide) (h354))); omega), (by have := congrArg Int32.toInt (show FI369 110 4 = ((x357) - ((1 : Int32))) from up_eq u370); have := congrArg Int32.toInt (show FI369 110 5 = x353 from (up_k u370 (by decide) (h354))); omega), (by have := congrArg Int32.toInt (show FI369 110 7 = x350 from (up_k u370 (by decide) (h351))); omega), (by omega), (by omega), (by exact ⟨gp362, gw364, gs319, hT371, hk366, fun q e => by cases e; exact ⟨by omega, by omega, (show FR359 n38 6 = none from (up_k u360 (by decide) ((gf_at f296 lt226 (shd_d (dyn_tag hS211 sh227 (by decide +kernel)) sh227) rfl ((up_k u251 (by decide) ((gf_at f192 lt108 (shd_d (dyn_tag hS104 sh109 (by decide +kernel)) sh109) rfl ((up_k u145 (by decide) ((zR116 6))))))))))))⟩⟩), ((fun r e => by cases e; exact ⟨lt333, (Or.inr dy110), by rw [sh334]⟩)), (by simp), (fun q e => by cases e; exact (ex41).1)⟩
    · clear t80
      replace t81 := t81 (by omega)
      refine hw_aloadn (aX4_readChoice 11 rfl) rfl ?_
      refine xw_aret (v := h_rf base (some (r51))) (aX4_readChoice 12 rfl) rfl (by first | exact Or.inl ⟨_, rfl⟩ | exact Or.inr ⟨_, rfl⟩) ?_
      exact ⟨some (r51), rfl, n38, sl39, SH40, FI75, FL18, FR19, rfl, ex41, hS42, hI76, (gf_tr (ex_shd ex41) (gf_tr ex_rf gf_rf f21 rfl rfl rfl) f77 rfl rfl rfl), (gf_tr ex_rf gf_rf f22 rfl rfl rfl), (gf_tr ex_rf gf_rf f23 rfl rfl rfl), hF24, hR25, (by have := congrArg Int32.toInt (show FI75 110 7 = x61 from (gf_at f77 (c110 hS42) (shd_f (by decide) (s110 hS42)) rfl (h62))); omega), (by have := congrArg Int32.toInt (show FI75 110 5 = x89 from h90); have := congrArg Int32.toInt (show FI75 110 8 = x91 from h92); omega), (by have := congrArg Int32.toInt (show FI75 110 7 = x61 from (gf_at f77 (c110 hS42) (shd_f (by decide) (s110 hS42)) rfl (h62))); have := congrArg Int32.toInt (show FI75 110 8 = x91 from h92); omega), (by have := congrArg Int32.toInt (show FI75 110 7 = x61 from (gf_at f77 (c110 hS42) (shd_f (by decide) (s110 hS42)) rfl (h62))); omega), (by have := congrArg Int32.toInt (show FI75 110 5 = x89 from h90); omega), (by have := congrArg Int32.toInt (show FI75 110 4 = x87 from h88); have := congrArg Int32.toInt (show FI75 110 5 = x89 from h90); omega), (by have := congrArg Int32.toInt (show FI75 110 7 = x61 from (gf_at f77 (c110 hS42) (shd_f (by decide) (s110 hS42)) rfl (h62))); omega), (by omega), (by omega), (by exact ⟨gp44, gw45, gs46, hT86, hk50, fun q e => by cases e; exact ⟨by omega, by omega, (show FR19 r51 6 = none from e60)⟩⟩), ((fun r e => by cases e; exact ⟨lt55, ow56, by rw [sh57]⟩)), (by simp), (fun q e => by cases e; exact (Nat.le_trans (Nat.le_refl _) fq52))⟩
theorem k_exprA {sk : xK} : ∀ e : Nat, (∀ (base d n sl : Nat) (SH : Nat → Nat × Nat) (FI : Nat → Nat → Int32) (FL : Nat → Nat → Int64) (FR : Nat → Nat → Option Nat) (hS : h_S n SH) (hF : h_FR FR) (hI : g_I FI) (hR : g_R n SH FR) (gp : Nat → Nat) (gw : Nat → Nat) (gs : Nat → Nat) (g0 : 0 ≤ (FI 110 7).toInt ∧ (FI 110 7).toInt < (FI 111 4).toInt) (g1 : (FI 110 5).toInt = 0 ∨ (FI 110 8).toInt = 1) (g2 : (FI 110 7).toInt + 1 < (FI 111 4).toInt ∨ (FI 110 8).toInt ≤ 3) (g3 : (FI 110 5).toInt ≠ 0 ∨ (FI 110 4).toInt ≤ 12) (g4 : (FI 110 5).toInt ≠ 0 ∨ 13 - (FI 110 4).toInt ≤ (e : Int)) (gg0 : g_T n SH FI FR gp gw gs) (gg1 : g_K FI) , hw sk base (10 * e + d + 11) none 56 0 [(0, .ref (base + 110))] [] (n, sl, SH, FI, FL, FR) (h_A base (fun r s => ∃ n' sl' SH' FI' FL' FR', s = (n', sl', SH', FI', FL', FR') ∧ g_ex n SH n' SH' ∧ h_S n' SH' ∧ g_I FI' ∧ g_fr n (shd SH) [(110, 4), (110, 5), (110, 6), (110, 7), (110, 8)] [] [] FI FI' ∧ g_fr n (shd SH) [(110, 9)] [] [] FL FL' ∧ g_fr n (shd SH) [] [] [] FR FR' ∧ h_FR FR' ∧ g_R n' SH' FR' ∧ (0 ≤ (FI' 110 7).toInt ∧ (FI' 110 7).toInt < (FI 111 4).toInt) ∧ ((FI' 110 5).toInt = 0 ∨ (FI' 110 8).toInt = 1) ∧ ((FI' 110 7).toInt + 1 < (FI 111 4).toInt ∨ (FI' 110 8).toInt ≤ 3) ∧ ((FI 110 7).toInt ≤ (FI' 110 7).toInt) ∧ ((FI 110 5).toInt = 0 ∨ (FI' 110 5).toInt = (FI 110 5).toInt) ∧ ((FI' 110 5).toInt ≠ 0 ∨ (FI' 110 4).toInt = (FI 110 4).toInt) ∧ ((n' : Int) ≤ n + 17 * ((FI' 110 7).toInt - (FI 110 7).toInt) + 1) ∧ ((sl' : Int) ≤ sl + 7 * ((n' : Int) - n)) ∧ ((n : Int) ≤ n') ∧ (∃ gp2 gw2 gs2, g_T n' SH' FI' FR' gp2 gw2 gs2 ∧ (∀ c, c < n → gp2 c = gp c ∧ gw2 c = gw c ∧ gs2 c = gs c) ∧ (∀ q, r = some q → gp2 q = 0 ∧ gw2 q + 20 + 40 * n ≤ 40 * n' ∧ FR' q 6 = none)) ∧ (∀ q, r = some q → q < n' ∧ own q ∧ SH' q = (3, (SH' q).2)) ∧ r ≠ none ∧ (∀ q, r = some q → n ≤ q)))) ∧ (∀ (base d n sl : Nat) (SH : Nat → Nat × Nat) (FI : Nat → Nat → Int32) (FL : Nat → Nat → Int64) (FR : Nat → Nat → Option Nat) (hS : h_S n SH) (hF : h_FR FR) (hI : g_I FI) (hR : g_R n SH FR) (gp : Nat → Nat) (gw : Nat → Nat) (gs : Nat → Nat) (g0 : 0 ≤ (FI 110 7).toInt ∧ (FI 110 7).toInt < (FI 111 4).toInt) (g1 : (FI 110 5).toInt = 0 ∨ (FI 110 8).toInt = 1) (g2 : (FI 110 7).toInt + 1 < (FI 111 4).toInt ∨ (FI 110 8).toInt ≤ 3) (g3 : (FI 110 5).toInt ≠ 0 ∨ (FI 110 4).toInt ≤ 12) (g4 : (FI 110 5).toInt ≠ 0 ∨ 13 - (FI 110 4).toInt ≤ (e : Int)) (gg0 : g_T n SH FI FR gp gw gs) (gg1 : g_K FI) , hw sk base (10 * e + d + 11) none 53 0 [(0, .ref (base + 110))] [] (n, sl, SH, FI, FL, FR) (h_A base (fun r s => ∃ n' sl' SH' FI' FL' FR', s = (n', sl', SH', FI', FL', FR') ∧ g_ex n SH n' SH' ∧ h_S n' SH' ∧ g_I FI' ∧ g_fr n (shd SH) [(110, 4), (110, 5), (110, 6), (110, 7), (110, 8)] [] [] FI FI' ∧ g_fr n (shd SH) [(110, 9)] [] [] FL FL' ∧ g_fr n (shd SH) [] [] [] FR FR' ∧ h_FR FR' ∧ g_R n' SH' FR' ∧ (0 ≤ (FI' 110 7).toInt ∧ (FI' 110 7).toInt < (FI 111 4).toInt) ∧ ((FI' 110 5).toInt = 0 ∨ (FI' 110 8).toInt = 1) ∧ ((FI' 110 7).toInt + 1 < (FI 111 4).toInt ∨ (FI' 110 8).toInt ≤ 3) ∧ ((FI 110 7).toInt ≤ (FI' 110 7).toInt) ∧ ((FI 110 5).toInt = 0 ∨ (FI' 110 5).toInt = (FI 110 5).toInt) ∧ ((FI' 110 5).toInt ≠ 0 ∨ (FI' 110 4).toInt = (FI 110 4).toInt) ∧ ((n' : Int) ≤ n + 17 * ((FI' 110 7).toInt - (FI 110 7).toInt) + 8) ∧ ((sl' : Int) ≤ sl + 7 * ((n' : Int) - n)) ∧ ((n : Int) ≤ n') ∧ (∃ gp2 gw2 gs2, g_T n' SH' FI' FR' gp2 gw2 gs2 ∧ (∀ c, c < n → gp2 c = gp c ∧ gw2 c = gw c ∧ gs2 c = gs c) ∧ (∀ q, r = some q → gp2 q = 0 ∧ gw2 q + 20 + 40 * n ≤ 40 * n' ∧ FR' q 6 = none)) ∧ (∀ q, r = some q → q < n' ∧ own q ∧ SH' q = (3, (SH' q).2)) ∧ r ≠ none ∧ (∀ q, r = some q → n ≤ q)))) := by
  intro e
  induction e with
  | zero => exact ⟨by { intro base d n sl SH FI FL FR hS hF hI hR gp gw gs g0 g1 g2 g3 g4 gg0 gg1; rw [show 10 * 0 + d + 11 = d + 9 + 2 by omega]; exact k_unaryF hS hF hI hR gp gw gs g0 g1 g2 (by omega) gg0 gg1 }, by { intro base d n sl SH FI FL FR hS hF hI hR gp gw gs g0 g1 g2 g3 g4 gg0 gg1; rw [show 10 * 0 + d + 11 = d + 0 + 11 by omega]; exact k_choiceF hS hF hI hR gp gw gs g0 g1 g2 (by omega) gg0 gg1 }⟩
  | succ e ih => exact ⟨by { intro base d n sl SH FI FL FR hS hF hI hR gp gw gs g0 g1 g2 g3 g4 gg0 gg1; by_cases hf : (FI 110 5).toInt = 0; { rw [show 10 * (e + 1) + d + 11 = 10 * e + (d + 9) + 12 by omega]; exact k_unaryS ih.1 ih.2 hS hF hI hR gp gw gs g0 g2 hf (by omega) (by omega) gg0 gg1 }; { rw [show 10 * (e + 1) + d + 11 = 10 * e + d + 19 + 2 by omega]; exact k_unaryF hS hF hI hR gp gw gs g0 g1 g2 hf gg0 gg1 } }, by { intro base d n sl SH FI FL FR hS hF hI hR gp gw gs g0 g1 g2 g3 g4 gg0 gg1; by_cases hf : (FI 110 5).toInt = 0; { rw [show 10 * (e + 1) + d + 11 = 10 * e + (d + 0) + 21 by omega]; exact k_choiceS ih.1 ih.2 hS hF hI hR gp gw gs g0 g2 hf (by omega) (by omega) gg0 gg1 }; { rw [show 10 * (e + 1) + d + 11 = 10 * e + d + 10 + 11 by omega]; exact k_choiceF hS hF hI hR gp gw gs g0 g1 g2 hf gg0 gg1 } }⟩
set_option maxHeartbeats 4000000 in
set_option maxRecDepth 100000 in
theorem k_choice {sk : xK} {base d n sl : Nat} {SH : Nat → Nat × Nat} {FI : Nat → Nat → Int32} {FL : Nat → Nat → Int64} {FR : Nat → Nat → Option Nat} (hS : h_S n SH) (hF : h_FR FR) (hI : g_I FI) (hR : g_R n SH FR) (gp : Nat → Nat) (gw : Nat → Nat) (gs : Nat → Nat) (g0 : 0 ≤ (FI 110 7).toInt ∧ (FI 110 7).toInt < (FI 111 4).toInt) (g1 : (FI 110 5).toInt = 0 ∨ (FI 110 8).toInt = 1) (g2 : (FI 110 7).toInt + 1 < (FI 111 4).toInt ∨ (FI 110 8).toInt ≤ 3) (g3 : (FI 110 5).toInt ≠ 0 ∨ (FI 110 4).toInt ≤ 12) (g4 : (FI 110 5).toInt ≠ 0 ∨ 0 ≤ (FI 110 4).toInt) (gg0 : g_T n SH FI FR gp gw gs) (gg1 : g_K FI) : hw sk base (d + 141) none 53 0 [(0, .ref (base + 110))] [] (n, sl, SH, FI, FL, FR) (h_A base (fun r s => ∃ n' sl' SH' FI' FL' FR', s = (n', sl', SH', FI', FL', FR') ∧ g_ex n SH n' SH' ∧ h_S n' SH' ∧ g_I FI' ∧ g_fr n (shd SH) [(110, 4), (110, 5), (110, 6), (110, 7), (110, 8)] [] [] FI FI' ∧ g_fr n (shd SH) [(110, 9)] [] [] FL FL' ∧ g_fr n (shd SH) [] [] [] FR FR' ∧ h_FR FR' ∧ g_R n' SH' FR' ∧ (0 ≤ (FI' 110 7).toInt ∧ (FI' 110 7).toInt < (FI 111 4).toInt) ∧ ((FI' 110 5).toInt = 0 ∨ (FI' 110 8).toInt = 1) ∧ ((FI' 110 7).toInt + 1 < (FI 111 4).toInt ∨ (FI' 110 8).toInt ≤ 3) ∧ ((FI 110 7).toInt ≤ (FI' 110 7).toInt) ∧ ((FI 110 5).toInt = 0 ∨ (FI' 110 5).toInt = (FI 110 5).toInt) ∧ ((FI' 110 5).toInt ≠ 0 ∨ (FI' 110 4).toInt = (FI 110 4).toInt) ∧ ((n' : Int) ≤ n + 17 * ((FI' 110 7).toInt - (FI 110 7).toInt) + 8) ∧ ((sl' : Int) ≤ sl + 7 * ((n' : Int) - n)) ∧ ((n : Int) ≤ n') ∧ (∃ gp2 gw2 gs2, g_T n' SH' FI' FR' gp2 gw2 gs2 ∧ (∀ c, c < n → gp2 c = gp c ∧ gw2 c = gw c ∧ gs2 c = gs c) ∧ (∀ q, r = some q → gp2 q = 0 ∧ gw2 q + 20 + 40 * n ≤ 40 * n' ∧ FR' q 6 = none)) ∧ (∀ q, r = some q → q < n' ∧ own q ∧ SH' q = (3, (SH' q).2)) ∧ r ≠ none ∧ (∀ q, r = some q → n ≤ q))) := by
  have h := (k_exprA (sk := sk) 13).2 base d n sl SH FI FL FR hS hF hI hR gp gw gs g0 g1 g2 g3 (by omega) gg0 gg1
  rwa [show 10 * 13 + d + 11 = d + 141 by omega] at h
